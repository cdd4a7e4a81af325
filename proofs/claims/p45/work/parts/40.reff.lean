/-! the reference's methods that change (printed by refgen.py) -/
def shF (M : sM) (k : Nat) (s : Bool) : sM := (bif s then (mAw (mIw (mAw M 17 k (mnc (mA M 16 k) (mA M 15 k))) 800 ((mI M 800) + 1)) 18 k ((mI M 800) + 1)) else (mAw M 17 k (mnc (mA M 16 k) (mA M 15 k))))
theorem Fr_shF {M M0 : sM} {k : Nat} {s : Bool} (fr : Fr M M0) : Fr (shF M k s) M0 := (Fr_cond (Fr_A rfl (Fr_I rfl (Fr_A rfl fr))) (Fr_A rfl fr))
def cnF (M : sM) (k : Nat) : sM := (mAw (mAw M 19 k 3) 17 k 0)
theorem Fr_cnF {M M0 : sM} {k : Nat} (fr : Fr M M0) : Fr (cnF M k) M0 := (Fr_A rfl (Fr_A rfl fr))
def rsF (M : sM) (k : Nat) : sM := (shF (mAw M 19 k 1) k true)
theorem Fr_rsF {M M0 : sM} {k : Nat} (fr : Fr M M0) : Fr (rsF M k) M0 := (Fr_shF (Fr_A rfl fr))
def ofF (M : sM) (k : Nat) (a : Int32) : sM := (bif (decide (((mA M 15 k) - a) = 0)) then (mAw (mAw (mAw (mAw M 15 k ((mA M 15 k) - a)) 26 (oM M k) ((mA M 26 (oM M k)) + (bif (mB M 4 k) then a else 0))) 19 k 2) 17 k 0) else (mAw (mAw M 15 k ((mA M 15 k) - a)) 26 (oM M k) ((mA M 26 (oM M k)) + (bif (mB M 4 k) then a else 0))))
theorem Fr_ofF {M M0 : sM} {k : Nat} {a : Int32} (fr : Fr M M0) : Fr (ofF M k a) M0 := (Fr_cond (Fr_A rfl (Fr_A rfl (Fr_A rfl (Fr_A rfl fr)))) (Fr_A rfl (Fr_A rfl fr)))
def flF (M : sM) (k : Nat) (a : Int32) : sM := (bif (decide (0 < (mA (ofF (mAw M 17 k ((mA M 17 k) - a)) k a) 15 k))) then (bif (decide ((mA (ofF (mAw M 17 k ((mA M 17 k) - a)) k a) 17 k) = 0)) then (shF (ofF (mAw M 17 k ((mA M 17 k) - a)) k a) k true) else (ofF (mAw M 17 k ((mA M 17 k) - a)) k a)) else (ofF (mAw M 17 k ((mA M 17 k) - a)) k a))
theorem Fr_flF {M M0 : sM} {k : Nat} {a : Int32} (fr : Fr M M0) : Fr (flF M k a) M0 := (Fr_cond (Fr_cond (Fr_shF (Fr_ofF (Fr_A rfl fr))) (Fr_ofF (Fr_A rfl fr))) (Fr_ofF (Fr_A rfl fr)))
def nqF (M : sM) : sM := (mAw (mAw (mAw (mAw (mAw (mAw M 26 0 0) 26 1 0) 26 2 0) 26 3 0) 26 4 0) 26 5 0)
theorem Fr_nqF {M M0 : sM} (fr : Fr M M0) : Fr (nqF M) M0 := (Fr_A rfl (Fr_A rfl (Fr_A rfl (Fr_A rfl (Fr_A rfl (Fr_A rfl fr))))))
def reS (M : sM) (n : Nat) (b : Nat) (p : Int32) (k : Nat) : sM := (mBw M 6 k ((mB M 6 k) || ((decide ((mA M 19 k) = 0)) && ((decide ((oB M k) = b)) && (bif (mB M 3 k) then (!(decide (p < (mA M 20 k)))) else (!(decide ((mA M 20 k) < p))))))))
def reL (M : sM) (n : Nat) (b : Nat) (p : Int32) : Nat → sM
  | 0 => M
  | k + 1 => reS (reL M n b p k) n b p k
theorem Fr_reS {M M0 : sM} {n : Nat} {b : Nat} {p : Int32} {k : Nat} (fr : Fr M M0) : Fr (reS M n b p k) M0 := (Fr_B rfl fr)
theorem Fr_reL {M M0 : sM} {n : Nat} {b : Nat} {p : Int32} (fr : Fr M M0) : ∀ k, Fr (reL M n b p k) M0
  | 0 => fr
  | k + 1 => Fr_reS (Fr_reL fr k)
def reF (M : sM) (n : Nat) (b : Nat) (p : Int32) : sM := (reL M n b p n)
theorem Fr_reF {M M0 : sM} {n : Nat} {b : Nat} {p : Int32} (fr : Fr M M0) : Fr (reF M n b p) M0 := (Fr_reL fr _)
def poS (M : sM) (n : Nat) (k : Nat) : sM := (bif ((decide (0 < (mA M 8 (oM M k)))) && (decide ((mA M 8 (oM M k)) < (mA M 26 (oM M k))))) then (bif (mB M 4 k) then (bif (decide ((mA M 19 k) = 1)) then (mAw (mAw M 19 k 3) 17 k 0) else M) else M) else M)
def poL (M : sM) (n : Nat) : Nat → sM
  | 0 => M
  | k + 1 => poS (poL M n k) n k
theorem Fr_poS {M M0 : sM} {n : Nat} {k : Nat} (fr : Fr M M0) : Fr (poS M n k) M0 := (Fr_cond (Fr_cond (Fr_cond (Fr_A rfl (Fr_A rfl fr)) fr) fr) fr)
theorem Fr_poL {M M0 : sM} {n : Nat} (fr : Fr M M0) : ∀ k, Fr (poL M n k) M0
  | 0 => fr
  | k + 1 => Fr_poS (Fr_poL fr k)
def poF (M : sM) (n : Nat) : sM := (poL M n n)
theorem Fr_poF {M M0 : sM} {n : Nat} (fr : Fr M M0) : Fr (poF M n) M0 := (Fr_poL fr _)
