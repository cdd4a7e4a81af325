/-! runs, seen from their ends: X says that a run comes to an end of which Q holds; a rule an instruction -/
def X (m pc : Nat) (ls st : List sV) (t : sT) (Q : sRs → sT → Prop) : Prop := ∃ (f : Nat) (r : sRs) (t' : sT), sRun f m pc ls st t = some (r, t') ∧ Q r t'
/-- what follows a call of g -/
def sK (g m pc : Nat) (ls st : List sV) (Q : sRs → sT → Prop) (r : sRs) (t : sT) : Prop := match r with
  | .inl v => X m (pc + 3) ls (v.toList ++ st) t Q
  | .inr E => (sIni g || Nat.beq m 297) = false ∧ (match sHnd m pc E with
    | some h => X m h ls [.inr (.inr (31, some 0))] t Q
    | none => Q (.inr E) t)
def bz (b : Bool) : Int32 := if b = true then 1 else 0
def io (n : Nat) : Int32 := Int32.ofNat n
section S31
variable {m pc pc' n a b c : Nat} {v : Int32} {ls st ls' st' rest : List sV} {t t' : sT} {Q : sRs → sT → Prop}
theorem X.imp {Q Q' : sRs → sT → Prop} (h : X m pc ls st t Q) (k : ∀ r t', Q r t' → Q' r t') : X m pc ls st t Q' := by
  obtain ⟨f, r, t', h1, h2⟩ := h
  exact ⟨f, r, t', h1, k _ _ h2⟩
theorem x_st {x : Instr} (h : sCode m pc = some (x, n, a, b, c, v)) (hs : sAct x n a b c v pc (sRb m) ls st t = some (.inl (pc', ls', st', t'))) (k : X m pc' ls' st' t' Q) : X m pc ls st t Q := by
  obtain ⟨f, r, t9, h1, h2⟩ := k
  refine ⟨f + 1, r, t9, ?_, h2⟩
  unfold sRun
  rw [h]
  show (match sAct x n a b c v pc (sRb m) ls st t with
    | none => none
    | some (.inl (pc', ls', st', t')) => sRun f m pc' ls' st' t'
    | some (.inr (.inl (g, args, rest))) => match sRun f g 0 (sEn args (sML g)) [] t with
      | none => none
      | some (.inl r, t') => sRun f m (pc + 3) ls (r.toList ++ rest) t'
      | some (.inr E, t') => if (sIni g || Nat.beq m 297) = true then none else match sHnd m pc E with
        | some h => sRun f m h ls [.inr (.inr (31, some 0))] t'
        | none => some (.inr E, t')
    | some (.inr (.inr rt)) => some rt) = _
  rw [hs]
  exact h1
theorem x_nd {x : Instr} {r : sRs} (h : sCode m pc = some (x, n, a, b, c, v)) (hs : sAct x n a b c v pc (sRb m) ls st t = some (.inr (.inr (r, t')))) (k : Q r t') : X m pc ls st t Q := by
  refine ⟨1, r, t', ?_, k⟩
  unfold sRun
  rw [h]
  show (match sAct x n a b c v pc (sRb m) ls st t with
    | none => none
    | some (.inl (pc', ls', st', t')) => sRun 0 m pc' ls' st' t'
    | some (.inr (.inl (g, args, rest))) => match sRun 0 g 0 (sEn args (sML g)) [] t with
      | none => none
      | some (.inl r, t') => sRun 0 m (pc + 3) ls (r.toList ++ rest) t'
      | some (.inr E, t') => if (sIni g || Nat.beq m 297) = true then none else match sHnd m pc E with
        | some h => sRun 0 m h ls [.inr (.inr (31, some 0))] t'
        | none => some (.inr E, t')
    | some (.inr (.inr rt)) => some rt) = _
  rw [hs]
theorem x_cl {x : Instr} {g : Nat} {as ls0 : List sV} (h : sCode m pc = some (x, n, a, b, c, v)) (hs : sAct x n a b c v pc (sRb m) ls st t = some (.inr (.inl (g, as, rest)))) (he : sEn as (sML g) = ls0) (k : X g 0 ls0 [] t (sK g m pc ls rest Q)) : X m pc ls st t Q := by
  obtain ⟨f, r, t9, h1, h2⟩ := k
  subst he
  have key : ∀ F, (match sAct x n a b c v pc (sRb m) ls st t with
    | none => none
    | some (.inl (pc', ls', st', t')) => sRun F m pc' ls' st' t'
    | some (.inr (.inl (g, args, rest))) => match sRun F g 0 (sEn args (sML g)) [] t with
      | none => none
      | some (.inl r, t') => sRun F m (pc + 3) ls (r.toList ++ rest) t'
      | some (.inr E, t') => if (sIni g || Nat.beq m 297) = true then none else match sHnd m pc E with
        | some h => sRun F m h ls [.inr (.inr (31, some 0))] t'
        | none => some (.inr E, t')
    | some (.inr (.inr rt)) => some rt) = sRun (F + 1) m pc ls st t := by
    intro F
    conv => rhs; unfold sRun
    rw [h]
    rfl
  rw [hs] at key
  cases r with
  | inl w =>
    obtain ⟨f2, r2, t2, h3, h4⟩ := h2
    refine ⟨max f f2 + 1, r2, t2, ?_, h4⟩
    rw [← key]
    show (match sRun (max f f2) g 0 (sEn as (sML g)) [] t with
      | none => none
      | some (.inl r, t') => sRun (max f f2) m (pc + 3) ls (r.toList ++ rest) t'
      | some (.inr E, t') => if (sIni g || Nat.beq m 297) = true then none else match sHnd m pc E with
        | some h => sRun (max f f2) m h ls [.inr (.inr (31, some 0))] t'
        | none => some (.inr E, t')) = _
    rw [sRun_le h1 (Nat.le_max_left _ _)]
    exact sRun_le h3 (Nat.le_max_right _ _)
  | inr E =>
    obtain ⟨hi, h2⟩ := h2
    cases hh : sHnd m pc E with
    | none =>
      rw [hh] at h2
      refine ⟨f + 1, .inr E, t9, ?_, h2⟩
      rw [← key]
      show (match sRun f g 0 (sEn as (sML g)) [] t with
        | none => none
        | some (.inl r, t') => sRun f m (pc + 3) ls (r.toList ++ rest) t'
        | some (.inr E, t') => if (sIni g || Nat.beq m 297) = true then none else match sHnd m pc E with
          | some h => sRun f m h ls [.inr (.inr (31, some 0))] t'
          | none => some (.inr E, t')) = _
      rw [h1]
      show (if (sIni g || Nat.beq m 297) = true then none else match sHnd m pc E with
          | some h => sRun f m h ls [.inr (.inr (31, some 0))] t9
          | none => some (.inr E, t9)) = _
      rw [hi, hh]
      rfl
    | some hd =>
      rw [hh] at h2
      obtain ⟨f2, r2, t2, h3, h4⟩ := h2
      refine ⟨max f f2 + 1, r2, t2, ?_, h4⟩
      rw [← key]
      show (match sRun (max f f2) g 0 (sEn as (sML g)) [] t with
        | none => none
        | some (.inl r, t') => sRun (max f f2) m (pc + 3) ls (r.toList ++ rest) t'
        | some (.inr E, t') => if (sIni g || Nat.beq m 297) = true then none else match sHnd m pc E with
          | some h => sRun (max f f2) m h ls [.inr (.inr (31, some 0))] t'
          | none => some (.inr E, t')) = _
      rw [sRun_le h1 (Nat.le_max_left _ _)]
      show (if (sIni g || Nat.beq m 297) = true then none else match sHnd m pc E with
          | some h => sRun (max f f2) m h ls [.inr (.inr (31, some 0))] t9
          | none => some (.inr E, t9)) = _
      rw [hi, hh]
      exact sRun_le h3 (Nat.le_max_right _ _)
/-! numbers, truths -/
theorem bz_eq {z : Bool} : decide (bz z = 1) = z := by cases z <;> rfl
theorem bz_01 (z : Bool) : bz z = 0 ∨ bz z = 1 := by cases z <;> decide
theorem bz_ne0 (z : Bool) : sCond .ne (bz z) 0 = z := by cases z <;> rfl
theorem bz_eq0 (z : Bool) : sCond .eq (bz z) 0 = !z := by cases z <;> rfl
theorem bz_neb (y z : Bool) : sCond .ne (bz y) (bz z) = xor y z := by cases y <;> cases z <;> rfl
theorem bz_eqb (y z : Bool) : sCond .eq (bz y) (bz z) = (y == z) := by cases y <;> cases z <;> rfl
theorem io_int {p : Nat} (h : p < 2 ^ 31) : (io p).toInt = (p : Int) := sOfN_int h
theorem nn_io {p : Nat} (h : p < 2 ^ 31) : (io p).toNatClampNeg = p := by
  show (io p).toInt.toNat = p
  rw [io_int h]; rfl
theorem io_add (p q : Nat) : io p + io q = io (p + q) := (Int32.ofNat_add p q).symm
theorem io_mul (p q : Nat) : io p * io q = io (p * q) := (Int32.ofNat_mul p q).symm
theorem io_inj {p q : Nat} (hp : p < 2 ^ 31) (hq : q < 2 ^ 31) : io p = io q ↔ p = q := by
  constructor
  · intro h
    have := congrArg Int32.toInt h
    rw [io_int hp, io_int hq] at this
    omega
  · intro h; rw [h]
theorem io_lt {p q : Nat} (hp : p < 2 ^ 31) (hq : q < 2 ^ 31) : io p < io q ↔ p < q := by
  rw [Int32.lt_iff_toInt_lt, io_int hp, io_int hq]; omega
theorem io_le {p q : Nat} (hp : p < 2 ^ 31) (hq : q < 2 ^ 31) : io p ≤ io q ↔ p ≤ q := by
  rw [Int32.le_iff_toInt_le, io_int hp, io_int hq]; omega
theorem ic_lt {p q : Nat} (hp : p < 2 ^ 31) (hq : q < 2 ^ 31) : sCond .lt (io p) (io q) = decide (p < q) := decide_eq_decide.mpr (io_lt hp hq)
theorem ic_ge {p q : Nat} (hp : p < 2 ^ 31) (hq : q < 2 ^ 31) : sCond .ge (io p) (io q) = decide (q ≤ p) := decide_eq_decide.mpr (io_le hq hp)
theorem ic_gt {p q : Nat} (hp : p < 2 ^ 31) (hq : q < 2 ^ 31) : sCond .gt (io p) (io q) = decide (q < p) := decide_eq_decide.mpr (io_lt hq hp)
theorem ic_le {p q : Nat} (hp : p < 2 ^ 31) (hq : q < 2 ^ 31) : sCond .le (io p) (io q) = decide (p ≤ q) := decide_eq_decide.mpr (io_le hp hq)
theorem ic_eq {p q : Nat} (hp : p < 2 ^ 31) (hq : q < 2 ^ 31) : sCond .eq (io p) (io q) = decide (p = q) := decide_eq_decide.mpr (io_inj hp hq)
theorem ic_ne {p q : Nat} (hp : p < 2 ^ 31) (hq : q < 2 ^ 31) : sCond .ne (io p) (io q) = decide (¬ p = q) := decide_eq_decide.mpr (not_congr (io_inj hp hq))
theorem io_in {p N : Nat} (hp : p < N) (hN : N < 2 ^ 31) : sIn (io p) N = true := by
  unfold sIn
  rw [nn_io (by omega)]
  have h : (0 : Int32) ≤ io p := by rw [Int32.le_iff_toInt_le, io_int (by omega)]; simp
  simp [h, hp]
/-! a rule an instruction -/
theorem x_iconst {i : Int} (h : sCode m pc = some (.iconst i, n, a, b, c, v)) (hp : pc + n = pc') (k : X m pc' ls (.inl v :: st) t Q) : X m pc ls st t Q := x_st h (by subst hp; rfl) k
theorem x_bipush {i : Int} (h : sCode m pc = some (.bipush i, n, a, b, c, v)) (hp : pc + n = pc') (k : X m pc' ls (.inl v :: st) t Q) : X m pc ls st t Q := x_st h (by subst hp; rfl) k
theorem x_sipush {i : Int} (h : sCode m pc = some (.sipush i, n, a, b, c, v)) (hp : pc + n = pc') (k : X m pc' ls (.inl v :: st) t Q) : X m pc ls st t Q := x_st h (by subst hp; rfl) k
theorem x_ldc {i : Nat} (h : sCode m pc = some (.ldc i, n, a, b, c, v)) (hp : pc + n = pc') (k : X m pc' ls (.inl v :: st) t Q) : X m pc ls st t Q := x_st h (by subst hp; rfl) k
theorem x_ldc_w {i : Nat} (h : sCode m pc = some (.ldc_w i, n, a, b, c, v)) (hp : pc + n = pc') (k : X m pc' ls (.inl v :: st) t Q) : X m pc ls st t Q := x_st h (by subst hp; rfl) k
theorem x_null (h : sCode m pc = some (.aconst_null, n, a, b, c, v)) (hp : pc + n = pc') (ha : Nat.beq a 31 = false) (k : X m pc' ls (.inr (.inr (a, none)) :: st) t Q) : X m pc ls st t Q :=
  x_st h (by subst hp; show (if a = 31 then none else some (pc + n, ls, (.inr (.inr (a, none)) : sV) :: st, t)).map _ = _; rw [if_neg (Nat.ne_of_beq_eq_false ha)]; rfl) k
theorem x_iload {i : Nat} {x : Int32} (h : sCode m pc = some (.iload i, n, a, b, c, v)) (hp : pc + n = pc') (hl : ls[a]? = some (.inl x)) (k : X m pc' ls (.inl x :: st) t Q) : X m pc ls st t Q :=
  x_st h (by subst hp; show (sStp (.iload i) n a b c v pc ls st t).map _ = _; unfold sStp; simp only [hl]; rfl) k
theorem x_iload_n {i : Fin 4} {x : Int32} (h : sCode m pc = some (.iload_n i, n, a, b, c, v)) (hp : pc + n = pc') (hl : ls[a]? = some (.inl x)) (k : X m pc' ls (.inl x :: st) t Q) : X m pc ls st t Q :=
  x_st h (by subst hp; show (sStp (.iload_n i) n a b c v pc ls st t).map _ = _; unfold sStp; simp only [hl]; rfl) k
theorem x_lload {i : Nat} {x : Int64} (h : sCode m pc = some (.lload i, n, a, b, c, v)) (hp : pc + n = pc') (hl : ls[a]? = some (.inr (.inl x))) (k : X m pc' ls (.inr (.inl x) :: st) t Q) : X m pc ls st t Q :=
  x_st h (by subst hp; show (sStp (.lload i) n a b c v pc ls st t).map _ = _; unfold sStp; simp only [hl]; rfl) k
theorem x_lload_n {i : Fin 4} {x : Int64} (h : sCode m pc = some (.lload_n i, n, a, b, c, v)) (hp : pc + n = pc') (hl : ls[a]? = some (.inr (.inl x))) (k : X m pc' ls (.inr (.inl x) :: st) t Q) : X m pc ls st t Q :=
  x_st h (by subst hp; show (sStp (.lload_n i) n a b c v pc ls st t).map _ = _; unfold sStp; simp only [hl]; rfl) k
theorem x_aload {i k9 : Nat} {r r' : Option Nat} (h : sCode m pc = some (.aload i, n, a, b, c, v)) (hp : pc + n = pc') (hl : ls[a]? = some (.inr (.inr (k9, r)))) (hk : Nat.beq k9 31 = false) (hr : r = r') (k : X m pc' ls (.inr (.inr (k9, r')) :: st) t Q) : X m pc ls st t Q :=
  x_st h (by subst hp hr; show (sStp (.aload i) n a b c v pc ls st t).map _ = _; unfold sStp; simp only [hl, if_neg (Nat.ne_of_beq_eq_false hk)]; rfl) k
theorem x_aload_n {i : Fin 4} {k9 : Nat} {r r' : Option Nat} (h : sCode m pc = some (.aload_n i, n, a, b, c, v)) (hp : pc + n = pc') (hl : ls[a]? = some (.inr (.inr (k9, r)))) (hk : Nat.beq k9 31 = false) (hr : r = r') (k : X m pc' ls (.inr (.inr (k9, r')) :: st) t Q) : X m pc ls st t Q :=
  x_st h (by subst hp hr; show (sStp (.aload_n i) n a b c v pc ls st t).map _ = _; unfold sStp; simp only [hl, if_neg (Nat.ne_of_beq_eq_false hk)]; rfl) k
theorem x_istore {i : Nat} {x : Int32} (h : sCode m pc = some (.istore i, n, a, b, c, v)) (hp : pc + n = pc') (hl : Nat.blt a ls.length = true) (he : sSt ls a (.inl x) = ls') (k : X m pc' ls' st t Q) : X m pc ls (.inl x :: st) t Q :=
  x_st h (by subst hp he; show (if a < ls.length then some (pc + n, sSt ls a (.inl x), st, t) else none).map _ = _; rw [if_pos (by simpa using hl)]; rfl) k
theorem x_istore_n {i : Fin 4} {x : Int32} (h : sCode m pc = some (.istore_n i, n, a, b, c, v)) (hp : pc + n = pc') (hl : Nat.blt a ls.length = true) (he : sSt ls a (.inl x) = ls') (k : X m pc' ls' st t Q) : X m pc ls (.inl x :: st) t Q :=
  x_st h (by subst hp he; show (if a < ls.length then some (pc + n, sSt ls a (.inl x), st, t) else none).map _ = _; rw [if_pos (by simpa using hl)]; rfl) k
theorem x_lstore {i : Nat} {x : Int64} (h : sCode m pc = some (.lstore i, n, a, b, c, v)) (hp : pc + n = pc') (hl : Nat.blt (a + 1) ls.length = true) (he : sSt2 ls a (.inr (.inl x)) = ls') (k : X m pc' ls' st t Q) : X m pc ls (.inr (.inl x) :: st) t Q :=
  x_st h (by subst hp he; show (if a + 1 < ls.length then some (pc + n, sSt2 ls a (.inr (.inl x)), st, t) else none).map _ = _; rw [if_pos (by simpa using hl)]; rfl) k
theorem x_lstore_n {i : Fin 4} {x : Int64} (h : sCode m pc = some (.lstore_n i, n, a, b, c, v)) (hp : pc + n = pc') (hl : Nat.blt (a + 1) ls.length = true) (he : sSt2 ls a (.inr (.inl x)) = ls') (k : X m pc' ls' st t Q) : X m pc ls (.inr (.inl x) :: st) t Q :=
  x_st h (by subst hp he; show (if a + 1 < ls.length then some (pc + n, sSt2 ls a (.inr (.inl x)), st, t) else none).map _ = _; rw [if_pos (by simpa using hl)]; rfl) k
theorem x_astore {i k9 : Nat} {r : Option Nat} (h : sCode m pc = some (.astore i, n, a, b, c, v)) (hp : pc + n = pc') (hl : Nat.blt a ls.length = true) (hk : Nat.beq k9 31 = false) (he : sSt ls a (.inr (.inr (k9, r))) = ls') (k : X m pc' ls' st t Q) : X m pc ls (.inr (.inr (k9, r)) :: st) t Q :=
  x_st h (by subst hp he; show (if a < ls.length ∧ (k9 = 31 → ¬ r = none) then some (pc + n, sSt ls a (.inr (.inr (k9, r))), st, t) else none).map _ = _; rw [if_pos ⟨by simpa using hl, fun q => absurd q (Nat.ne_of_beq_eq_false hk)⟩]; rfl) k
theorem x_astore_n {i : Fin 4} {k9 : Nat} {r : Option Nat} (h : sCode m pc = some (.astore_n i, n, a, b, c, v)) (hp : pc + n = pc') (hl : Nat.blt a ls.length = true) (hk : Nat.beq k9 31 = false) (he : sSt ls a (.inr (.inr (k9, r))) = ls') (k : X m pc' ls' st t Q) : X m pc ls (.inr (.inr (k9, r)) :: st) t Q :=
  x_st h (by subst hp he; show (if a < ls.length ∧ (k9 = 31 → ¬ r = none) then some (pc + n, sSt ls a (.inr (.inr (k9, r))), st, t) else none).map _ = _; rw [if_pos ⟨by simpa using hl, fun q => absurd q (Nat.ne_of_beq_eq_false hk)⟩]; rfl) k
/-- what is caught -/
theorem x_catch {i r : Nat} (h : sCode m pc = some (.astore i, n, a, b, c, v)) (hp : pc + n = pc') (hl : Nat.blt a ls.length = true) (he : sSt ls a (.inr (.inr (31, some r))) = ls') (k : X m pc' ls' st t Q) : X m pc ls (.inr (.inr (31, some r)) :: st) t Q :=
  x_st h (by subst hp he; show (if a < ls.length ∧ (31 = 31 → ¬ some r = none) then some (pc + n, sSt ls a (.inr (.inr (31, some r))), st, t) else none).map _ = _; rw [if_pos ⟨by simpa using hl, fun _ q => by cases q⟩]; rfl) k
theorem x_catch_n {i : Fin 4} {r : Nat} (h : sCode m pc = some (.astore_n i, n, a, b, c, v)) (hp : pc + n = pc') (hl : Nat.blt a ls.length = true) (he : sSt ls a (.inr (.inr (31, some r))) = ls') (k : X m pc' ls' st t Q) : X m pc ls (.inr (.inr (31, some r)) :: st) t Q :=
  x_st h (by subst hp he; show (if a < ls.length ∧ (31 = 31 → ¬ some r = none) then some (pc + n, sSt ls a (.inr (.inr (31, some r))), st, t) else none).map _ = _; rw [if_pos ⟨by simpa using hl, fun _ q => by cases q⟩]; rfl) k
theorem x_iinc {i : Nat} {d : Int} {x y : Int32} (h : sCode m pc = some (.iinc i d, n, a, b, c, v)) (hp : pc + n = pc') (hl : ls[a]? = some (.inl x)) (hy : x + v = y) (he : sSt ls a (.inl y) = ls') (k : X m pc' ls' st t Q) : X m pc ls st t Q :=
  x_st h (by subst hp hy he; show (sStp (.iinc i d) n a b c v pc ls st t).map _ = _; unfold sStp; simp only [hl]; rfl) k
theorem x_dup {x : sV} (h : sCode m pc = some (.dup, n, a, b, c, v)) (hp : pc + n = pc') (hx : Nat.beq (sCat x) 1 = true) (k : X m pc' ls (x :: x :: st) t Q) : X m pc ls (x :: st) t Q :=
  x_st h (by subst hp; show (if sCat x = 1 then some (pc + n, ls, x :: x :: st, t) else none).map _ = _; rw [if_pos (Nat.eq_of_beq_eq_true hx)]; rfl) k
theorem x_dup2 {x y : sV} (h : sCode m pc = some (.dup2, n, a, b, c, v)) (hp : pc + n = pc') (hx : Nat.beq (sCat x) 1 = true) (hy : Nat.beq (sCat y) 1 = true) (k : X m pc' ls (x :: y :: x :: y :: st) t Q) : X m pc ls (x :: y :: st) t Q :=
  x_st h (by subst hp; show (if sCat x = 1 ∧ sCat y = 1 then some (pc + n, ls, x :: y :: x :: y :: st, t) else none).map _ = _; rw [if_pos ⟨Nat.eq_of_beq_eq_true hx, Nat.eq_of_beq_eq_true hy⟩]; rfl) k
theorem x_dup_x1 {x y : sV} (h : sCode m pc = some (.dup_x1, n, a, b, c, v)) (hp : pc + n = pc') (hx : Nat.beq (sCat x) 1 = true) (hy : Nat.beq (sCat y) 1 = true) (k : X m pc' ls (x :: y :: x :: st) t Q) : X m pc ls (x :: y :: st) t Q :=
  x_st h (by subst hp; show (if sCat x = 1 ∧ sCat y = 1 then some (pc + n, ls, x :: y :: x :: st, t) else none).map _ = _; rw [if_pos ⟨Nat.eq_of_beq_eq_true hx, Nat.eq_of_beq_eq_true hy⟩]; rfl) k
theorem x_pop {x : sV} (h : sCode m pc = some (.pop, n, a, b, c, v)) (hp : pc + n = pc') (hx : Nat.beq (sCat x) 1 = true) (k : X m pc' ls st t Q) : X m pc ls (x :: st) t Q :=
  x_st h (by subst hp; show (if sCat x = 1 then some (pc + n, ls, st, t) else none).map _ = _; rw [if_pos (Nat.eq_of_beq_eq_true hx)]; rfl) k
theorem x_iadd {x y z : Int32} (h : sCode m pc = some (.iadd, n, a, b, c, v)) (hp : pc + n = pc') (hz : x + y = z) (k : X m pc' ls (.inl z :: st) t Q) : X m pc ls (.inl y :: .inl x :: st) t Q := x_st h (by subst hp hz; rfl) k
theorem x_isub {x y z : Int32} (h : sCode m pc = some (.isub, n, a, b, c, v)) (hp : pc + n = pc') (hz : x - y = z) (k : X m pc' ls (.inl z :: st) t Q) : X m pc ls (.inl y :: .inl x :: st) t Q := x_st h (by subst hp hz; rfl) k
theorem x_imul {x y z : Int32} (h : sCode m pc = some (.imul, n, a, b, c, v)) (hp : pc + n = pc') (hz : x * y = z) (k : X m pc' ls (.inl z :: st) t Q) : X m pc ls (.inl y :: .inl x :: st) t Q := x_st h (by subst hp hz; rfl) k
theorem x_idiv {x y z : Int32} (h : sCode m pc = some (.idiv, n, a, b, c, v)) (hp : pc + n = pc') (hy : ¬ y = 0) (hz : x / y = z) (k : X m pc' ls (.inl z :: st) t Q) : X m pc ls (.inl y :: .inl x :: st) t Q :=
  x_st h (by subst hp hz; show (if y = 0 then none else some (pc + n, ls, (.inl (x / y) : sV) :: st, t)).map _ = _; rw [if_neg hy]; rfl) k
theorem x_irem {x y z : Int32} (h : sCode m pc = some (.irem, n, a, b, c, v)) (hp : pc + n = pc') (hy : ¬ y = 0) (hz : x - x / y * y = z) (k : X m pc' ls (.inl z :: st) t Q) : X m pc ls (.inl y :: .inl x :: st) t Q :=
  x_st h (by subst hp hz; show (if y = 0 then none else some (pc + n, ls, (.inl (x - x / y * y) : sV) :: st, t)).map _ = _; rw [if_neg hy]; rfl) k
theorem x_iand {x y z : Int32} (h : sCode m pc = some (.iand, n, a, b, c, v)) (hp : pc + n = pc') (hz : x &&& y = z) (k : X m pc' ls (.inl z :: st) t Q) : X m pc ls (.inl y :: .inl x :: st) t Q := x_st h (by subst hp hz; rfl) k
theorem x_ishr {x y z : Int32} (h : sCode m pc = some (.ishr, n, a, b, c, v)) (hp : pc + n = pc') (hz : x >>> (y &&& 31) = z) (k : X m pc' ls (.inl z :: st) t Q) : X m pc ls (.inl y :: .inl x :: st) t Q := x_st h (by subst hp hz; rfl) k
theorem x_ineg {x z : Int32} (h : sCode m pc = some (.ineg, n, a, b, c, v)) (hp : pc + n = pc') (hz : -x = z) (k : X m pc' ls (.inl z :: st) t Q) : X m pc ls (.inl x :: st) t Q := x_st h (by subst hp hz; rfl) k
theorem x_i2l {x : Int32} {z : Int64} (h : sCode m pc = some (.i2l, n, a, b, c, v)) (hp : pc + n = pc') (hz : x.toInt64 = z) (k : X m pc' ls (.inr (.inl z) :: st) t Q) : X m pc ls (.inl x :: st) t Q := x_st h (by subst hp hz; rfl) k
theorem x_l2i {x : Int64} {z : Int32} (h : sCode m pc = some (.l2i, n, a, b, c, v)) (hp : pc + n = pc') (hz : x.toInt32 = z) (k : X m pc' ls (.inl z :: st) t Q) : X m pc ls (.inr (.inl x) :: st) t Q := x_st h (by subst hp hz; rfl) k
theorem x_lconst {z : Int64} {i : Fin 2} (h : sCode m pc = some (.lconst i, n, a, b, c, v)) (hp : pc + n = pc') (hz : Int64.ofNat a = z) (k : X m pc' ls (.inr (.inl z) :: st) t Q) : X m pc ls st t Q := x_st h (by subst hp hz; rfl) k
theorem x_ladd {x y z : Int64} (h : sCode m pc = some (.ladd, n, a, b, c, v)) (hp : pc + n = pc') (hz : x + y = z) (k : X m pc' ls (.inr (.inl z) :: st) t Q) : X m pc ls (.inr (.inl y) :: .inr (.inl x) :: st) t Q := x_st h (by subst hp hz; rfl) k
theorem x_lsub {x y z : Int64} (h : sCode m pc = some (.lsub, n, a, b, c, v)) (hp : pc + n = pc') (hz : x - y = z) (k : X m pc' ls (.inr (.inl z) :: st) t Q) : X m pc ls (.inr (.inl y) :: .inr (.inl x) :: st) t Q := x_st h (by subst hp hz; rfl) k
theorem x_lmul {x y z : Int64} (h : sCode m pc = some (.lmul, n, a, b, c, v)) (hp : pc + n = pc') (hz : x * y = z) (k : X m pc' ls (.inr (.inl z) :: st) t Q) : X m pc ls (.inr (.inl y) :: .inr (.inl x) :: st) t Q := x_st h (by subst hp hz; rfl) k
theorem x_ldiv {x y z : Int64} (h : sCode m pc = some (.ldiv, n, a, b, c, v)) (hp : pc + n = pc') (hy : ¬ y = 0) (hz : x / y = z) (k : X m pc' ls (.inr (.inl z) :: st) t Q) : X m pc ls (.inr (.inl y) :: .inr (.inl x) :: st) t Q :=
  x_st h (by subst hp hz; show (if y = 0 then none else some (pc + n, ls, (.inr (.inl (x / y)) : sV) :: st, t)).map _ = _; rw [if_neg hy]; rfl) k
theorem x_lcmp {x y : Int64} {z : Int32} (h : sCode m pc = some (.lcmp, n, a, b, c, v)) (hp : pc + n = pc') (hz : sLcmp x y = z) (k : X m pc' ls (.inl z :: st) t Q) : X m pc ls (.inr (.inl y) :: .inr (.inl x) :: st) t Q := x_st h (by subst hp hz; rfl) k
theorem x_goto {o : Int} (h : sCode m pc = some (.goto o, n, a, b, c, v)) (ha : a = pc') (k : X m pc' ls st t Q) : X m pc ls st t Q := x_st h (by subst ha; rfl) k
theorem x_if {q : ClassFile.Cond} {o : Int} {x : Int32} {z : Bool} {a' : Nat} (h : sCode m pc = some (.ifCond q o, n, a, b, c, v)) (ha : a = a') (hp : pc + n = pc') (hz : sCond q x 0 = z) (k1 : z = true → X m a' ls st t Q) (k2 : z = false → X m pc' ls st t Q) : X m pc ls (.inl x :: st) t Q := by
  subst ha hp
  have hs : sAct (.ifCond q o) n a b c v pc (sRb m) ls (.inl x :: st) t = some (.inl (sJmp z a pc n, ls, st, t)) := by rw [← hz]; rfl
  cases z with
  | true => exact x_st h hs (k1 rfl)
  | false => exact x_st h hs (k2 rfl)
theorem x_icmp {q : ClassFile.Cond} {o : Int} {x y : Int32} {z : Bool} {a' : Nat} (h : sCode m pc = some (.if_icmp q o, n, a, b, c, v)) (ha : a = a') (hp : pc + n = pc') (hz : sCond q x y = z) (k1 : z = true → X m a' ls st t Q) (k2 : z = false → X m pc' ls st t Q) : X m pc ls (.inl y :: .inl x :: st) t Q := by
  subst ha hp
  have hs : sAct (.if_icmp q o) n a b c v pc (sRb m) ls (.inl y :: .inl x :: st) t = some (.inl (sJmp z a pc n, ls, st, t)) := by rw [← hz]; rfl
  cases z with
  | true => exact x_st h hs (k1 rfl)
  | false => exact x_st h hs (k2 rfl)
theorem x_acmp_eq {o : Int} {k9 : Nat} {r r' : Option Nat} {z : Bool} {a' : Nat} (h : sCode m pc = some (.if_acmp .eq o, n, a, b, c, v)) (ha : a = a') (hp : pc + n = pc') (hk : (Nat.blt k9 14 || (Nat.ble 20 k9 && Nat.blt k9 28)) = true) (hz : decide (r' = r) = z) (k1 : z = true → X m a' ls st t Q) (k2 : z = false → X m pc' ls st t Q) : X m pc ls (.inr (.inr (k9, r)) :: .inr (.inr (k9, r')) :: st) t Q := by
  subst ha hp
  have hk' : k9 = k9 ∧ (k9 < 14 ∨ (20 ≤ k9 ∧ k9 < 28)) := ⟨rfl, by simpa using hk⟩
  have hs : sAct (.if_acmp .eq o) n a b c v pc (sRb m) ls (.inr (.inr (k9, r)) :: .inr (.inr (k9, r')) :: st) t = some (.inl (sJmp z a pc n, ls, st, t)) := by
    rw [← hz]
    show (if k9 = k9 ∧ (k9 < 14 ∨ (20 ≤ k9 ∧ k9 < 28)) then some (sJmp (decide (r' = r)) a pc n, ls, st, t) else none).map _ = _
    rw [if_pos hk']; rfl
  cases z with
  | true => exact x_st h hs (k1 rfl)
  | false => exact x_st h hs (k2 rfl)
theorem x_acmp_ne {o : Int} {k9 : Nat} {r r' : Option Nat} {z : Bool} {a' : Nat} (h : sCode m pc = some (.if_acmp .ne o, n, a, b, c, v)) (ha : a = a') (hp : pc + n = pc') (hk : (Nat.blt k9 14 || (Nat.ble 20 k9 && Nat.blt k9 28)) = true) (hz : decide (¬ r' = r) = z) (k1 : z = true → X m a' ls st t Q) (k2 : z = false → X m pc' ls st t Q) : X m pc ls (.inr (.inr (k9, r)) :: .inr (.inr (k9, r')) :: st) t Q := by
  subst ha hp
  have hk' : k9 = k9 ∧ (k9 < 14 ∨ (20 ≤ k9 ∧ k9 < 28)) := ⟨rfl, by simpa using hk⟩
  have hs : sAct (.if_acmp .ne o) n a b c v pc (sRb m) ls (.inr (.inr (k9, r)) :: .inr (.inr (k9, r')) :: st) t = some (.inl (sJmp z a pc n, ls, st, t)) := by
    rw [← hz]
    show (if k9 = k9 ∧ (k9 < 14 ∨ (20 ≤ k9 ∧ k9 < 28)) then some (sJmp (decide (¬ r' = r)) a pc n, ls, st, t) else none).map _ = _
    rw [if_pos hk']; rfl
  cases z with
  | true => exact x_st h hs (k1 rfl)
  | false => exact x_st h hs (k2 rfl)
theorem x_ifnull {o : Int} {k9 : Nat} {r : Option Nat} {a' : Nat} (h : sCode m pc = some (.ifnull o, n, a, b, c, v)) (ha : a = a') (hp : pc + n = pc') (hk : Nat.beq k9 31 = false) (k1 : r = none → X m a' ls st t Q) (k2 : ∀ i, r = some i → X m pc' ls st t Q) : X m pc ls (.inr (.inr (k9, r)) :: st) t Q := by
  subst ha hp
  have hs : sAct (.ifnull o) n a b c v pc (sRb m) ls (.inr (.inr (k9, r)) :: st) t = some (.inl (sJmp (decide (r = none)) a pc n, ls, st, t)) := by
    show (if k9 = 31 then none else some (sJmp (decide (r = none)) a pc n, ls, st, t)).map _ = _
    rw [if_neg (Nat.ne_of_beq_eq_false hk)]; rfl
  cases r with
  | none => exact x_st h hs (k1 rfl)
  | some i => exact x_st h hs (k2 i rfl)
theorem x_ifnonnull {o : Int} {k9 : Nat} {r : Option Nat} {a' : Nat} (h : sCode m pc = some (.ifnonnull o, n, a, b, c, v)) (ha : a = a') (hp : pc + n = pc') (hk : Nat.beq k9 31 = false) (k1 : ∀ i, r = some i → X m a' ls st t Q) (k2 : r = none → X m pc' ls st t Q) : X m pc ls (.inr (.inr (k9, r)) :: st) t Q := by
  subst ha hp
  have hs : sAct (.ifnonnull o) n a b c v pc (sRb m) ls (.inr (.inr (k9, r)) :: st) t = some (.inl (sJmp (decide (¬ r = none)) a pc n, ls, st, t)) := by
    show (if k9 = 31 then none else some (sJmp (decide (¬ r = none)) a pc n, ls, st, t)).map _ = _
    rw [if_neg (Nat.ne_of_beq_eq_false hk)]; rfl
  cases r with
  | none => exact x_st h hs (k2 rfl)
  | some i => exact x_st h hs (k1 i rfl)
theorem x_gI {j o k9 : Nat} {x : Int32} (h : sCode m pc = some (.getfield j, n, a, 0, c, v)) (hp : pc + n = pc') (hk : Nat.beq k9 (a / 64) = true) (hv : sI t a o = x) (k : X m pc' ls (.inl x :: st) t Q) : X m pc ls (.inr (.inr (k9, some o)) :: st) t Q :=
  x_st h (by subst hp hv; show (if k9 = a / 64 then some (pc + n, ls, sFld t a 0 c o :: st, t) else none).map _ = _; rw [if_pos (Nat.eq_of_beq_eq_true hk)]; rfl) k
theorem x_gZ {j o k9 : Nat} {z : Bool} (h : sCode m pc = some (.getfield j, n, a, 1, c, v)) (hp : pc + n = pc') (hk : Nat.beq k9 (a / 64) = true) (hv : sZ t a o = z) (k : X m pc' ls (.inl (bz z) :: st) t Q) : X m pc ls (.inr (.inr (k9, some o)) :: st) t Q :=
  x_st h (by subst hp hv; show (if k9 = a / 64 then some (pc + n, ls, sFld t a 1 c o :: st, t) else none).map _ = _; rw [if_pos (Nat.eq_of_beq_eq_true hk)]; rfl) k
theorem x_gR {j o k9 : Nat} {r : Option Nat} (h : sCode m pc = some (.getfield j, n, a, 2, c, v)) (hp : pc + n = pc') (hk : Nat.beq k9 (a / 64) = true) (hv : sR t a o = r) (k : X m pc' ls (.inr (.inr (c, r)) :: st) t Q) : X m pc ls (.inr (.inr (k9, some o)) :: st) t Q :=
  x_st h (by subst hp hv; show (if k9 = a / 64 then some (pc + n, ls, sFld t a 2 c o :: st, t) else none).map _ = _; rw [if_pos (Nat.eq_of_beq_eq_true hk)]; rfl) k
theorem x_pI {j o k9 : Nat} {x : Int32} (h : sCode m pc = some (.putfield j, n, a, 0, c, v)) (hp : pc + n = pc') (hk : Nat.beq k9 (a / 64) = true) (k : X m pc' ls st (sIw t a o x) Q) : X m pc ls (.inl x :: .inr (.inr (k9, some o)) :: st) t Q :=
  x_st h (by subst hp; show (if k9 = a / 64 then (sPut t a 0 c o (.inl x)).map (fun t' => (pc + n, ls, st, t')) else none).map _ = _; rw [if_pos (Nat.eq_of_beq_eq_true hk)]; rfl) k
theorem x_pZ {j o k9 : Nat} {x : Int32} {z : Bool} (h : sCode m pc = some (.putfield j, n, a, 1, c, v)) (hp : pc + n = pc') (hk : Nat.beq k9 (a / 64) = true) (hx : x = bz z) (k : X m pc' ls st (sZw t a o z) Q) : X m pc ls (.inl x :: .inr (.inr (k9, some o)) :: st) t Q :=
  x_st h (by
    subst hp hx
    show (if k9 = a / 64 then (if bz z = 0 ∨ bz z = 1 then some (sZw t a o (decide (bz z = 1))) else none).map (fun t' => (pc + n, ls, st, t')) else none).map _ = _
    rw [if_pos (Nat.eq_of_beq_eq_true hk), if_pos (bz_01 z), bz_eq]; rfl) k
theorem x_pR {j o k9 : Nat} {r : Option Nat} (h : sCode m pc = some (.putfield j, n, a, 2, c, v)) (hp : pc + n = pc') (hk : Nat.beq k9 (a / 64) = true) (k : X m pc' ls st (sRw t a o r) Q) : X m pc ls (.inr (.inr (c, r)) :: .inr (.inr (k9, some o)) :: st) t Q :=
  x_st h (by
    subst hp
    show (if k9 = a / 64 then (if c = c then some (sRw t a o r) else none).map (fun t' => (pc + n, ls, st, t')) else none).map _ = _
    rw [if_pos (Nat.eq_of_beq_eq_true hk), if_pos rfl]; rfl) k
theorem x_getstatic {j : Nat} (h : sCode m pc = some (.getstatic j, n, a, b, c, v)) (hp : pc + n = pc') (hb : b < sC t a) (k : X m pc' ls (.inr (.inr (a, some b)) :: st) t Q) : X m pc ls st t Q :=
  x_st h (by subst hp; show (if b < sC t a then some (pc + n, ls, (.inr (.inr (a, some b)) : sV) :: st, t) else none).map _ = _; rw [if_pos hb]; rfl) k
theorem x_new {j i : Nat} (h : sCode m pc = some (.new j, n, a, b, 0, v)) (hp : pc + n = pc') (hi : sC t a = i) (k : X m pc' ls (.inr (.inr (a, some i)) :: st) (sNew t a b) Q) : X m pc ls st t Q := x_st h (by subst hp hi; rfl) k
theorem x_sz {N : Nat} (hN : Nat.ble N 100000 = true) : (0 ≤ io N ∧ io N ≤ 100000) ∧ (io N).toNatClampNeg = N := by
  have h : N ≤ 100000 := by simpa using hN
  refine ⟨⟨?_, ?_⟩, nn_io (by omega)⟩
  · rw [Int32.le_iff_toInt_le, io_int (by omega)]; simp
  · rw [Int32.le_iff_toInt_le, io_int (by omega)]; show (N : Int) ≤ 100000; omega
theorem x_newarray {x : Int32} {ty : ArrayType} {N i : Nat} (h : sCode m pc = some (.newarray ty, n, a, b, c, v)) (hp : pc + n = pc') (hx : x = io N) (hN : Nat.ble N 100000 = true) (hi : sC t a = i) (k : X m pc' ls (.inr (.inr (a, some i)) :: st) (sNwA t a N) Q) : X m pc ls (.inl x :: st) t Q :=
  x_st h (by subst hp hi hx; obtain ⟨h1, h2⟩ := x_sz hN; show (if 0 ≤ io N ∧ io N ≤ 100000 then some (pc + n, ls, (.inr (.inr (a, some (sC t a))) : sV) :: st, sNwA t a (io N).toNatClampNeg) else none).map _ = _; rw [if_pos h1, h2]; rfl) k
theorem x_anewarray {x : Int32} {j N i : Nat} (h : sCode m pc = some (.anewarray j, n, a, b, c, v)) (hp : pc + n = pc') (hx : x = io N) (hN : Nat.ble N 100000 = true) (hi : sC t a = i) (k : X m pc' ls (.inr (.inr (a, some i)) :: st) (sNwA t a N) Q) : X m pc ls (.inl x :: st) t Q :=
  x_st h (by subst hp hi hx; obtain ⟨h1, h2⟩ := x_sz hN; show (if 0 ≤ io N ∧ io N ≤ 100000 then some (pc + n, ls, (.inr (.inr (a, some (sC t a))) : sV) :: st, sNwA t a (io N).toNatClampNeg) else none).map _ = _; rw [if_pos h1, h2]; rfl) k
theorem x_alen {o k9 N : Nat} (h : sCode m pc = some (.arraylength, n, a, b, c, v)) (hp : pc + n = pc') (hk : (Nat.ble 20 k9 && Nat.blt k9 30) = true) (hn : sN t k9 o = N) (k : X m pc' ls (.inl (io N) :: st) t Q) : X m pc ls (.inr (.inr (k9, some o)) :: st) t Q :=
  x_st h (by subst hp hn; show (if 20 ≤ k9 ∧ k9 < 30 then some (pc + n, ls, (.inl (Int32.ofNat (sN t k9 o)) : sV) :: st, t) else none).map _ = _; rw [if_pos (by simpa using hk)]; rfl) k
theorem x_iald {j x : Int32} {o k9 N : Nat} (h : sCode m pc = some (.iaload, n, a, b, c, v)) (hp : pc + n = pc') (hk : (Nat.beq k9 20 || Nat.beq k9 21 || Nat.beq k9 28 || Nat.beq k9 29) = true) (hn : sN t k9 o = N) (hi : sIn j N = true) (hv : sA t k9 o j.toNatClampNeg = x) (k : X m pc' ls (.inl x :: st) t Q) : X m pc ls (.inl j :: .inr (.inr (k9, some o)) :: st) t Q :=
  x_st h (by subst hp hn hv; show (if (k9 = 20 ∨ k9 = 21 ∨ k9 = 28 ∨ k9 = 29) ∧ sIn j (sN t k9 o) = true then some (pc + n, ls, (.inl (sA t k9 o j.toNatClampNeg) : sV) :: st, t) else none).map _ = _; rw [if_pos ⟨by simpa [or_assoc] using hk, hi⟩]; rfl) k
theorem x_bald {j : Int32} {z : Bool} {o N : Nat} (h : sCode m pc = some (.baload, n, a, b, c, v)) (hp : pc + n = pc') (hn : sN t 22 o = N) (hi : sIn j N = true) (hv : sB t 22 o j.toNatClampNeg = z) (k : X m pc' ls (.inl (bz z) :: st) t Q) : X m pc ls (.inl j :: .inr (.inr (22, some o)) :: st) t Q :=
  x_st h (by subst hp hn hv; show (if 22 = 22 ∧ sIn j (sN t 22 o) = true then some (pc + n, ls, (.inl (if sB t 22 o j.toNatClampNeg = true then 1 else 0) : sV) :: st, t) else none).map _ = _; rw [if_pos ⟨rfl, hi⟩]; rfl) k
theorem x_lald {j : Int32} {x : Int64} {o N : Nat} (h : sCode m pc = some (.laload, n, a, b, c, v)) (hp : pc + n = pc') (hn : sN t 23 o = N) (hi : sIn j N = true) (hv : sL t 23 o j.toNatClampNeg = x) (k : X m pc' ls (.inr (.inl x) :: st) t Q) : X m pc ls (.inl j :: .inr (.inr (23, some o)) :: st) t Q :=
  x_st h (by subst hp hn hv; show (if 23 = 23 ∧ sIn j (sN t 23 o) = true then some (pc + n, ls, (.inr (.inl (sL t 23 o j.toNatClampNeg)) : sV) :: st, t) else none).map _ = _; rw [if_pos ⟨rfl, hi⟩]; rfl) k
theorem x_aald {j : Int32} {k' : Nat} {r : Option Nat} {o k9 N : Nat} (h : sCode m pc = some (.aaload, n, a, b, c, v)) (hp : pc + n = pc') (hk : (Nat.ble 24 k9 && Nat.blt k9 28) = true) (hn : sN t k9 o = N) (hi : sIn j N = true) (hv : sE t k9 o j.toNatClampNeg = (k', r)) (k : X m pc' ls (.inr (.inr (k', r)) :: st) t Q) : X m pc ls (.inl j :: .inr (.inr (k9, some o)) :: st) t Q :=
  x_st h (by subst hp hn; show (if (24 ≤ k9 ∧ k9 < 28) ∧ sIn j (sN t k9 o) = true then some (pc + n, ls, (.inr (.inr (sE t k9 o j.toNatClampNeg)) : sV) :: st, t) else none).map _ = _; rw [if_pos ⟨by simpa using hk, hi⟩, hv]; rfl) k
theorem x_iast {j x : Int32} {o k9 N p : Nat} (h : sCode m pc = some (.iastore, n, a, b, c, v)) (hp : pc + n = pc') (hk : (Nat.beq k9 20 || Nat.beq k9 21) = true) (hn : sN t k9 o = N) (hi : sIn j N = true) (hj : j.toNatClampNeg = p) (k : X m pc' ls st (sAw t k9 o p x) Q) : X m pc ls (.inl x :: .inl j :: .inr (.inr (k9, some o)) :: st) t Q :=
  x_st h (by subst hp hn hj; show (if (k9 = 20 ∨ k9 = 21) ∧ sIn j (sN t k9 o) = true then some (pc + n, ls, st, sAw t k9 o j.toNatClampNeg x) else none).map _ = _; rw [if_pos ⟨by simpa using hk, hi⟩]; rfl) k
theorem x_bast {j x : Int32} {z : Bool} {o N p : Nat} (h : sCode m pc = some (.bastore, n, a, b, c, v)) (hp : pc + n = pc') (hn : sN t 22 o = N) (hi : sIn j N = true) (hj : j.toNatClampNeg = p) (hx : x = bz z) (k : X m pc' ls st (sBw t 22 o p z) Q) : X m pc ls (.inl x :: .inl j :: .inr (.inr (22, some o)) :: st) t Q :=
  x_st h (by subst hp hn hj hx; show (if 22 = 22 ∧ sIn j (sN t 22 o) = true ∧ (bz z = 0 ∨ bz z = 1) then some (pc + n, ls, st, sBw t 22 o j.toNatClampNeg (decide (bz z = 1))) else none).map _ = _; rw [if_pos ⟨rfl, hi, bz_01 z⟩, bz_eq]; rfl) k
theorem x_last {j : Int32} {x : Int64} {o N p : Nat} (h : sCode m pc = some (.lastore, n, a, b, c, v)) (hp : pc + n = pc') (hn : sN t 23 o = N) (hi : sIn j N = true) (hj : j.toNatClampNeg = p) (k : X m pc' ls st (sLw t 23 o p x) Q) : X m pc ls (.inr (.inl x) :: .inl j :: .inr (.inr (23, some o)) :: st) t Q :=
  x_st h (by subst hp hn hj; show (if 23 = 23 ∧ sIn j (sN t 23 o) = true then some (pc + n, ls, st, sLw t 23 o j.toNatClampNeg x) else none).map _ = _; rw [if_pos ⟨rfl, hi⟩]; rfl) k
theorem x_aast {j : Int32} {k' : Nat} {r : Option Nat} {o k9 N p : Nat} (h : sCode m pc = some (.aastore, n, a, b, c, v)) (hp : pc + n = pc') (hk : ((Nat.ble 24 k9 && Nat.blt k9 27 && Nat.beq k' (sElk k9)) || (Nat.beq k9 27 && Nat.blt k' 14)) = true) (hn : sN t k9 o = N) (hi : sIn j N = true) (hj : j.toNatClampNeg = p) (k : X m pc' ls st (sEw t k9 o p (k', r)) Q) : X m pc ls (.inr (.inr (k', r)) :: .inl j :: .inr (.inr (k9, some o)) :: st) t Q :=
  x_st h (by subst hp hn hj; show (if ((24 ≤ k9 ∧ k9 < 27 ∧ k' = sElk k9) ∨ (k9 = 27 ∧ k' < 14)) ∧ sIn j (sN t k9 o) = true then some (pc + n, ls, st, sEw t k9 o j.toNatClampNeg (k', r)) else none).map _ = _; rw [if_pos ⟨by simpa [and_assoc] using hk, hi⟩]; rfl) k
theorem x_cast {j k9 : Nat} {r : Option Nat} (h : sCode m pc = some (.checkcast j, n, a, b, c, v)) (hp : pc + n = pc') (hk : Nat.beq k9 a = true) (k : X m pc' ls (.inr (.inr (k9, r)) :: st) t Q) : X m pc ls (.inr (.inr (k9, r)) :: st) t Q :=
  x_st h (by have e := Nat.eq_of_beq_eq_true hk; subst hp e; show (if k9 = k9 ∨ (r = none ∧ ¬ k9 = 31) then some (pc + n, ls, (.inr (.inr (k9, r)) : sV) :: st, t) else none).map _ = _; rw [if_pos (Or.inl rfl)]; rfl) k
theorem x_switch {d lo hi : Int} {offs : Array Int} {x : Int32} (h : sCode m pc = some (.tableswitch d lo hi offs, n, a, b, c, v)) (hp : sSw pc d lo hi offs x = pc') (k : X m pc' ls st t Q) : X m pc ls (.inl x :: st) t Q := x_st h (by subst hp; rfl) k
/-! calls -/
noncomputable def sCk (b : Nat) (st : List sV) (g : Nat) : Bool := Nat.ble b st.length && Nat.ble ((st.drop b).map sCat).sum 8 && sAk g b st
noncomputable def sCs (b : Nat) (st : List sV) (g : Nat) : Bool := Nat.ble b st.length && Nat.ble ((st.drop b).map sCat).sum 9 && sAk g b st
theorem x_cs {j g : Nat} {ls0 : List sV} (h : sCode m pc = some (.invokestatic j, n, g, b, 0, v)) (hc : sCs b st g = true) (he : sEn (st.take b).reverse (sML g) = ls0) (hd : st.drop b = rest) (k : X g 0 ls0 [] t (sK g m pc ls rest Q)) : X m pc ls st t Q := by
  unfold sCs at hc
  simp only [Bool.and_eq_true, Nat.ble_eq] at hc
  refine x_cl h ?_ he k
  subst hd
  show (if b ≤ st.length ∧ ((st.drop b).map sCat).sum ≤ 9 then (if sAk g b st = true then some (.inr (.inl (g, (st.take b).reverse, st.drop b))) else none) else none : sAc) = _
  rw [if_pos hc.1, if_pos hc.2]
theorem x_cv {j g o : Nat} {ls0 tl : List sV} (h : sCode m pc = some (.invokevirtual j, n, g, b, 4, v)) (hc : sCk b st g = true) (hr : (st.take b).reverse = .inr (.inr (sRk g, some o)) :: tl) (he : sEn (st.take b).reverse (sML g) = ls0) (hd : st.drop b = rest) (k : X g 0 ls0 [] t (sK g m pc ls rest Q)) : X m pc ls st t Q := by
  unfold sCk at hc
  simp only [Bool.and_eq_true, Nat.ble_eq] at hc
  refine x_cl h ?_ he k
  subst hd
  show (if b ≤ st.length ∧ ((st.drop b).map sCat).sum ≤ 8 then (match (st.take b).reverse with
      | .inr (.inr (k, some _)) :: _ => if k = sRk g ∧ sAk g b st = true then some (.inr (.inl (g, (st.take b).reverse, st.drop b))) else none
      | _ => none) else none : sAc) = _
  rw [if_pos hc.1, hr]
  exact if_pos ⟨rfl, hc.2⟩
theorem x_ci {j g o : Nat} {ls0 tl : List sV} (h : sCode m pc = some (.invokespecial j, n, g, b, 4, v)) (hc : sCk b st g = true) (hr : (st.take b).reverse = .inr (.inr (sRk g, some o)) :: tl) (he : sEn (st.take b).reverse (sML g) = ls0) (hd : st.drop b = rest) (k : X g 0 ls0 [] t (sK g m pc ls rest Q)) : X m pc ls st t Q := by
  unfold sCk at hc
  simp only [Bool.and_eq_true, Nat.ble_eq] at hc
  refine x_cl h ?_ he k
  subst hd
  show (if b ≤ st.length ∧ ((st.drop b).map sCat).sum ≤ 8 then (match (st.take b).reverse with
      | .inr (.inr (k, some _)) :: _ => if k = sRk g ∧ sAk g b st = true then some (.inr (.inl (g, (st.take b).reverse, st.drop b))) else none
      | _ => none) else none : sAc) = _
  rw [if_pos hc.1, hr]
  exact if_pos ⟨rfl, hc.2⟩
/-- the constructor of Object -/
theorem x_obj {j k9 o : Nat} (h : sCode m pc = some (.invokespecial j, n, a, b, 1, v)) (hp : pc + n = pc') (hk : Nat.blt k9 14 = true) (hc : (Nat.ble b (st.length + 1) && Nat.ble ((List.drop b (.inr (.inr (k9, some o)) :: st)).map sCat).sum 8) = true) (k : X m pc' ls st t Q) : X m pc ls (.inr (.inr (k9, some o)) :: st) t Q := by
  simp only [Bool.and_eq_true, Nat.ble_eq] at hc
  refine x_st h ?_ k
  subst hp
  show (if b ≤ (List.length (.inr (.inr (k9, some o)) :: st)) ∧ ((List.drop b (.inr (.inr (k9, some o)) :: st)).map sCat).sum ≤ 8 then (if k9 < 14 then some (.inl (pc + n, ls, st, t)) else none) else none : sAc) = _
  rw [if_pos (show b ≤ List.length (.inr (.inr (k9, some o)) :: st) ∧ _ from hc), if_pos (by simpa using hk)]
theorem x_copy {j i N : Nat} {x : Int32} (h : sCode m pc = some (.invokestatic j, n, a, b, 2, v)) (hp : pc + n = pc') (hc : (Nat.ble b (st.length + 2) && Nat.ble ((List.drop b (.inl x :: .inr (.inr (27, some i)) :: st)).map sCat).sum 8) = true) (hx : x = io N) (hN : Nat.ble N 100000 = true) (h1 : sN t 27 i ≤ N) (h2 : 0 < sN t 27 i) (k : X m pc' ls (.inr (.inr (27, some (sC t 27))) :: st) (sCpy t i N) Q) : X m pc ls (.inl x :: .inr (.inr (27, some i)) :: st) t Q := by
  simp only [Bool.and_eq_true, Nat.ble_eq] at hc
  refine x_st h ?_ k
  subst hp hx
  obtain ⟨z1, z2⟩ := x_sz hN
  show (if b ≤ (List.length (.inl (io N) :: .inr (.inr (27, some i)) :: st)) ∧ ((List.drop b (.inl (io N) :: .inr (.inr (27, some i)) :: st)).map sCat).sum ≤ 8 then (if (sN t 27 i ≤ (io N).toNatClampNeg ∧ 0 < sN t 27 i) ∧ (0 ≤ io N ∧ io N ≤ 100000) then some (.inl (pc + n, ls, (.inr (.inr (27, some (sC t 27))) : sV) :: st, sCpy t i (io N).toNatClampNeg)) else none) else none : sAc) = _
  rw [if_pos (show b ≤ List.length (.inl (io N) :: .inr (.inr (27, some i)) :: st) ∧ _ from hc), if_pos ⟨⟨by rw [z2]; exact h1, h2⟩, z1⟩, z2]
theorem x_abs {j : Nat} {x z : Int32} (h : sCode m pc = some (.invokestatic j, n, a, b, 5, v)) (hp : pc + n = pc') (hc : (Nat.ble b (st.length + 1) && Nat.ble ((List.drop b (.inl x :: st)).map sCat).sum 8) = true) (hz : (if 0 ≤ x then x else 0 - x) = z) (k : X m pc' ls (.inl z :: st) t Q) : X m pc ls (.inl x :: st) t Q := by
  simp only [Bool.and_eq_true, Nat.ble_eq] at hc
  refine x_st h ?_ k
  subst hp hz
  exact if_pos hc
theorem x_max {j : Nat} {x y z : Int32} (h : sCode m pc = some (.invokestatic j, n, a, b, 6, v)) (hp : pc + n = pc') (hc : (Nat.ble b (st.length + 2) && Nat.ble ((List.drop b (.inl y :: .inl x :: st)).map sCat).sum 8) = true) (hz : (if x < y then y else x) = z) (k : X m pc' ls (.inl z :: st) t Q) : X m pc ls (.inl y :: .inl x :: st) t Q := by
  simp only [Bool.and_eq_true, Nat.ble_eq] at hc
  refine x_st h ?_ k
  subst hp hz
  exact if_pos hc
theorem x_min {j : Nat} {x y z : Int32} (h : sCode m pc = some (.invokestatic j, n, a, b, 7, v)) (hp : pc + n = pc') (hc : (Nat.ble b (st.length + 2) && Nat.ble ((List.drop b (.inl y :: .inl x :: st)).map sCat).sum 8) = true) (hz : (if y < x then y else x) = z) (k : X m pc' ls (.inl z :: st) t Q) : X m pc ls (.inl y :: .inl x :: st) t Q := by
  simp only [Bool.and_eq_true, Nat.ble_eq] at hc
  refine x_st h ?_ k
  subst hp hz
  exact if_pos hc
theorem x_lmin {j : Nat} {x y z : Int64} (h : sCode m pc = some (.invokestatic j, n, a, b, 8, v)) (hp : pc + n = pc') (hc : (Nat.ble b (st.length + 2) && Nat.ble ((List.drop b (.inr (.inl y) :: .inr (.inl x) :: st)).map sCat).sum 8) = true) (hz : (if y < x then y else x) = z) (k : X m pc' ls (.inr (.inl z) :: st) t Q) : X m pc ls (.inr (.inl y) :: .inr (.inl x) :: st) t Q := by
  simp only [Bool.and_eq_true, Nat.ble_eq] at hc
  refine x_st h ?_ k
  subst hp hz
  exact if_pos hc
/-! ends -/
theorem x_reti {x : Int32} (h : sCode m pc = some (.ireturn, n, a, b, c, v)) (hb : sRb m = false) (k : Q (.inl (some (.inl x))) t) : X m pc ls [.inl x] t Q :=
  x_nd h (by show (if sRb m = false ∨ x = 0 ∨ x = 1 then _ else none) = _; rw [if_pos (Or.inl hb)]) k
theorem x_retz {x : Int32} {z : Bool} (h : sCode m pc = some (.ireturn, n, a, b, c, v)) (hx : x = bz z) (k : Q (.inl (some (.inl (bz z)))) t) : X m pc ls [.inl x] t Q :=
  x_nd h (by subst hx; show (if sRb m = false ∨ bz z = 0 ∨ bz z = 1 then _ else none) = _; rw [if_pos (Or.inr (bz_01 z))]) k
theorem x_reta {k9 : Nat} {r : Option Nat} (h : sCode m pc = some (.areturn, n, a, b, c, v)) (hk : Nat.beq k9 31 = false) (k : Q (.inl (some (.inr (.inr (k9, r))))) t) : X m pc ls [.inr (.inr (k9, r))] t Q :=
  x_nd h (by show (if k9 = 31 then none else _) = _; rw [if_neg (Nat.ne_of_beq_eq_false hk)]) k
theorem x_ret (h : sCode m pc = some (.return_, n, a, b, c, v)) (k : Q (.inl none) t) : X m pc ls [] t Q := x_nd h rfl k
theorem x_throw {j : Nat} (h : sCode m pc = some (.new j, n, a, b, 1, v)) (hc : Nat.ble (st.map sCat).sum 8 = true) (k : Q (.inr a) (sThr t)) : X m pc ls st t Q :=
  x_nd h (by exact if_pos (by simpa using hc)) k
end S31
section S31b
variable {m pc pc' n a b c : Nat} {v : Int32} {ls st ls' st' rest : List sV} {t t' : sT} {Q : sRs → sT → Prop}
theorem x_ifne_z {o : Int} {z : Bool} {a' : Nat} (h : sCode m pc = some (.ifCond .ne o, n, a, b, c, v)) (ha : a = a') (hp : pc + n = pc') (k1 : z = true → X m a' ls st t Q) (k2 : z = false → X m pc' ls st t Q) : X m pc ls (.inl (bz z) :: st) t Q := x_if h ha hp (bz_ne0 z) k1 k2
theorem x_ifeq_z {o : Int} {z : Bool} {a' : Nat} (h : sCode m pc = some (.ifCond .eq o, n, a, b, c, v)) (ha : a = a') (hp : pc + n = pc') (k1 : z = false → X m a' ls st t Q) (k2 : z = true → X m pc' ls st t Q) : X m pc ls (.inl (bz z) :: st) t Q := x_if h ha hp (bz_eq0 z) (fun q => k1 (by simpa using q)) (fun q => k2 (by simpa using q))
theorem sK_i {g : Nat} {x : sV} (hp : pc + 3 = pc') (k : X m pc' ls (x :: st) t Q) : sK g m pc ls st Q (.inl (some x)) t := by subst hp; exact k
theorem sK_v {g : Nat} (hp : pc + 3 = pc') (k : X m pc' ls st t Q) : sK g m pc ls st Q (.inl none) t := by subst hp; exact k
theorem sK_n {g E : Nat} (hi : (sIni g || Nat.beq m 297) = false) (hh : sHnd m pc E = none) (k : Q (.inr E) t) : sK g m pc ls st Q (.inr E) t := by
  refine ⟨hi, ?_⟩
  rw [hh]; exact k
theorem sK_h {g E h : Nat} (hi : (sIni g || Nat.beq m 297) = false) (hh : sHnd m pc E = some h) (k : X m h ls [.inr (.inr (31, some 0))] t Q) : sK g m pc ls st Q (.inr E) t := by
  refine ⟨hi, ?_⟩
  rw [hh]; exact k
end S31b
theorem dec_some {a b : Nat} : decide (some a = some b) = decide (a = b) := by simp
theorem dec_some_n {a b : Nat} : decide (¬ some a = some b) = decide (¬ a = b) := by simp
theorem isSome_s {r : Option Nat} {i : Nat} (h : r = some i) : r.isSome = true := by rw [h]; rfl
theorem isSome_n {r : Option Nat} (h : r = none) : r.isSome = false := by rw [h]; rfl
theorem sI_s {t : sT} {F o : Nat} {v : Int32} : sI (sIw t F o v) F o = v := sU2_s _ _ _ _
theorem sZ_s {t : sT} {F o : Nat} {v : Bool} : sZ (sZw t F o v) F o = v := sU2_s _ _ _ _
theorem sR_s {t : sT} {F o : Nat} {v : Option Nat} : sR (sRw t F o v) F o = v := sU2_s _ _ _ _
theorem sA_s {t : sT} {F o p : Nat} {v : Int32} : sA (sAw t F o p v) F o p = v := if_pos ⟨rfl, rfl, rfl⟩
theorem sB_s {t : sT} {F o p : Nat} {v : Bool} : sB (sBw t F o p v) F o p = v := if_pos ⟨rfl, rfl, rfl⟩
theorem sE_s {t : sT} {F o p : Nat} {v : Nat × Option Nat} : sE (sEw t F o p v) F o p = v := if_pos ⟨rfl, rfl, rfl⟩
theorem sL_s {t : sT} {F o p : Nat} {v : Int64} : sL (sLw t F o p v) F o p = v := if_pos ⟨rfl, rfl, rfl⟩
theorem sN_new {t : sT} {k n i : Nat} (h : sC t k = i) : sN (sNwA t k n) k i = n := by subst h; exact sU2_s _ _ _ _
theorem sN_old {t : sT} {k n i : Nat} (h : ¬ i = sC t k) : sN (sNwA t k n) k i = sN t k i := if_neg (fun z => h z.2)
/-! truths put in: no row of these is by rfl alone, so that simp leaves a proof of each -/
theorem cd_of {α : Type} {z : Bool} (a b : α) (h : z = true) : (bif z then a else b) = a := by subst h; rfl
theorem cd_no {α : Type} {z : Bool} (a b : α) (h : z = false) : (bif z then a else b) = b := by subst h; rfl
theorem cd_t {α : Type} (a b : α) : (bif true then a else b) = a := cd_of a b (Eq.refl true)
theorem cd_f {α : Type} (a b : α) : (bif false then a else b) = b := cd_no a b (Eq.refl false)
theorem nt_t : (!true) = false := by decide
theorem nt_f : (!false) = true := by decide
theorem an_t (b : Bool) : (true && b) = b := by cases b <;> decide
theorem an_f (b : Bool) : (false && b) = false := by cases b <;> decide
theorem or_t (b : Bool) : (true || b) = true := by cases b <;> decide
theorem or_f (b : Bool) : (false || b) = b := by cases b <;> decide
section S31c
variable {m pc pc' n a b c : Nat} {v : Int32} {ls st ls' st' rest : List sV} {t t' : sT} {Q : sRs → sT → Prop}
theorem x_if_n {q : ClassFile.Cond} {o : Int} {x : Int32} {z : Bool} {a' : Nat} (h : sCode m pc = some (.ifCond q o, n, a, b, c, v)) (ha : a = a') (hp : pc + n = pc') (hz : sCond q x 0 = !z) (k1 : z = false → X m a' ls st t Q) (k2 : z = true → X m pc' ls st t Q) : X m pc ls (.inl x :: st) t Q := x_if h ha hp hz (fun q => k1 (by simpa using q)) (fun q => k2 (by simpa using q))
theorem x_icmp_n {q : ClassFile.Cond} {o : Int} {x y : Int32} {z : Bool} {a' : Nat} (h : sCode m pc = some (.if_icmp q o, n, a, b, c, v)) (ha : a = a') (hp : pc + n = pc') (hz : sCond q x y = !z) (k1 : z = false → X m a' ls st t Q) (k2 : z = true → X m pc' ls st t Q) : X m pc ls (.inl y :: .inl x :: st) t Q := x_icmp h ha hp hz (fun q => k1 (by simpa using q)) (fun q => k2 (by simpa using q))
theorem x_acmp_nen {o : Int} {k9 : Nat} {r r' : Option Nat} {z : Bool} {a' : Nat} (h : sCode m pc = some (.if_acmp .ne o, n, a, b, c, v)) (ha : a = a') (hp : pc + n = pc') (hk : (Nat.blt k9 14 || (Nat.ble 20 k9 && Nat.blt k9 28)) = true) (hz : decide (r' = r) = z) (k1 : z = false → X m a' ls st t Q) (k2 : z = true → X m pc' ls st t Q) : X m pc ls (.inr (.inr (k9, r)) :: .inr (.inr (k9, r')) :: st) t Q :=
  x_acmp_ne h ha hp hk (z := !z) (by rw [← hz]; simp) (fun q => k1 (by simpa using q)) (fun q => k2 (by simpa using q))
end S31c
theorem ik_ge (x y : Int32) : sCond .ge x y = !decide (x < y) := by
  show decide (y ≤ x) = _
  by_cases h : x < y
  · rw [decide_eq_true h, decide_eq_false (Int32.not_le.mpr h)]; rfl
  · rw [decide_eq_false h, decide_eq_true (Int32.not_lt.mp h)]; rfl
theorem ik_le (x y : Int32) : sCond .le x y = !decide (y < x) := by
  show decide (x ≤ y) = _
  by_cases h : y < x
  · rw [decide_eq_true h, decide_eq_false (Int32.not_le.mpr h)]; rfl
  · rw [decide_eq_false h, decide_eq_true (Int32.not_lt.mp h)]; rfl
theorem ik_ne (x y : Int32) : sCond .ne x y = !decide (x = y) := by
  show decide (¬ x = y) = _
  by_cases h : x = y
  · rw [decide_eq_true h, decide_eq_false (fun z => z h)]; rfl
  · rw [decide_eq_false h, decide_eq_true h]; rfl
theorem ic_gen {p q : Nat} (hp : p < 2 ^ 31) (hq : q < 2 ^ 31) : sCond .ge (io p) (io q) = !decide (p < q) := by rw [ik_ge]; exact congrArg not (decide_eq_decide.mpr (io_lt hp hq))
theorem ic_len {p q : Nat} (hp : p < 2 ^ 31) (hq : q < 2 ^ 31) : sCond .le (io p) (io q) = !decide (q < p) := by rw [ik_le]; exact congrArg not (decide_eq_decide.mpr (io_lt hq hp))
theorem ic_nen {p q : Nat} (hp : p < 2 ^ 31) (hq : q < 2 ^ 31) : sCond .ne (io p) (io q) = !decide (p = q) := by rw [ik_ne]; exact congrArg not (decide_eq_decide.mpr (io_inj hp hq))
theorem nlt_of {x y : Int32} (h : x < y) : ¬ y < x := fun z => by
  rw [Int32.lt_iff_toInt_lt] at h z
  omega
theorem sLcmp_s (x : Int64) : sLcmp x x = 0 := by
  unfold sLcmp
  rw [if_neg (fun z => by rw [Int64.lt_iff_toInt_lt] at z; omega), if_pos rfl]
