/-! pieces of the reference (printed by rw0.py) -/
/-- the orders that are noted down as taken -/
def TkL (t : sT) (L : List Nat) : Prop := sI t 811 0 = io L.length ∧ ∀ i, i < L.length → sA t 21 27 i = io (L.getD i 0)
theorem irem_io {p q : Nat} (hp : p < 2 ^ 31) (hq : q < 2 ^ 31) (h0 : 0 < q) : io p - io p / io q * io q = io (p % q) := by
  have hdl : (p / q) < 2 ^ 31 := Nat.lt_of_le_of_lt (Nat.div_le_self p q) hp
  have hd : io p / io q = io (p / q) := by
    apply Int32.toInt_inj.mp
    rw [Int32.toInt_div, io_int hp, io_int hq, io_int hdl]
    have e : ((p : Int).tdiv (q : Int)) = ((p / q : Nat) : Int) := by
      rw [Int.tdiv_eq_ediv_of_nonneg (Int.natCast_nonneg p)]; rfl
    rw [e]
    clear e
    generalize p / q = d at hdl ⊢
    exact Int.bmod_eq_of_le (by omega) (by omega)
  rw [hd, io_mul]
  have e2 : io p = io (p % q) + io (p / q * q) := by
    rw [io_add]
    congr 1
    have := Nat.mod_add_div p q
    rw [Nat.mul_comm] at this
    exact this.symm
  rw [e2, Int32.add_sub_cancel]
def laS (M : sM) (n : Nat) (b : Nat) (s : Bool) (p : Int32) (l : Int32) (k : Nat) (f : Option Nat) : Option Nat := (bif ((decide ((mA M 19 k) = 1)) && ((decide ((oB M k) = b)) && (!(xor (mB M 3 k) s) && ((decide ((mA M 14 k) = p)) && (decide (l < (mA M 18 k))))))) then (bif f.isNone then (some k) else (bif (decide ((mA M 18 k) < (mA M 18 (ovD f)))) then (some k) else f)) else f)
def laL (M : sM) (n : Nat) (b : Nat) (s : Bool) (p : Int32) (l : Int32) (f : Option Nat) : Nat → Option Nat
  | 0 => f
  | k + 1 => laS M n b s p l k (laL M n b s p l f k)
