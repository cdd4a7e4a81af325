/-! the reference's order, now, stop, quote, in pieces (printed by rord98.py) -/
def inB (p a h : Int32) : Bool := !(decide (p < a)) && !(decide (h < p))
def prB (b : Nat) (p : Int32) : Bool := bif decide (b < 3) then inB p 1 999 else inB p (-500) 500
def prY (x : Int32) (p : Int32) : Bool := bif decide (x < 3) then inB p 1 999 else inB p (-500) 500
section S98
variable {t : sT} {b : Nat} {p a h x : Int32} {Q : sRs → sT → Prop}
end S98
section S98b
variable {t : sT} {b : Nat} {p a h x : Int32} {Q : sRs → sT → Prop}
end S98b
