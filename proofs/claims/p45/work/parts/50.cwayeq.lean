/-! the class's methods (printed by clsgen.py) -/
theorem cp00fF_e {M : sM} {n : Nat} : cp00fF M n = (bif wokF M n 0 false 0 then wprF M n 0 false 0 else (-10000)) := by
  have e : lgO M n 0 false 0 = lgF M n false [(0, false)] := rfl
  unfold wokF wprF
  rw [e]
  unfold cp00fF
  simp only [lgF, zok, Bool.xor_false, Bool.false_xor, Bool.xor_true, Bool.true_xor, Bool.not_not, Bool.not_false, Bool.not_true]
  cases decide (mA M 0 0 = 2) <;> cases bsF M n 0 true <;> simp [prF, prS, lgs, ovD, Nat.ble, Nat.beq, Int32.sub_eq_add_neg]
theorem cp00tF_e {M : sM} {n : Nat} : cp00tF M n = (bif wokF M n 0 true 0 then wprF M n 0 true 0 else (-10000)) := by
  have e : lgO M n 0 true 0 = lgF M n true [(0, false)] := rfl
  unfold wokF wprF
  rw [e]
  unfold cp00tF
  simp only [lgF, zok, Bool.xor_false, Bool.false_xor, Bool.xor_true, Bool.true_xor, Bool.not_not, Bool.not_false, Bool.not_true]
  cases decide (mA M 0 0 = 2) <;> cases bsF M n 0 false <;> simp [prF, prS, lgs, ovD, Nat.ble, Nat.beq, Int32.sub_eq_add_neg]
theorem cp01fF_e {M : sM} {n : Nat} : cp01fF M n = (bif wokF M n 0 false 1 then wprF M n 0 false 1 else (-10000)) := by
  have e : lgO M n 0 false 1 = lgF M n false [(3, false), (1, false)] := rfl
  unfold wokF wprF
  rw [e]
  unfold cp01fF
  simp only [lgF, zok, Bool.xor_false, Bool.false_xor, Bool.xor_true, Bool.true_xor, Bool.not_not, Bool.not_false, Bool.not_true]
  cases decide (mA M 0 3 = 2) <;> cases bsF M n 3 true <;> cases decide (mA M 0 1 = 2) <;> cases bsF M n 1 true <;> simp [prF, prS, lgs, ovD, Nat.ble, Nat.beq, Int32.sub_eq_add_neg]
theorem cp01tF_e {M : sM} {n : Nat} : cp01tF M n = (bif wokF M n 0 true 1 then wprF M n 0 true 1 else (-10000)) := by
  have e : lgO M n 0 true 1 = lgF M n true [(3, false), (1, false)] := rfl
  unfold wokF wprF
  rw [e]
  unfold cp01tF
  simp only [lgF, zok, Bool.xor_false, Bool.false_xor, Bool.xor_true, Bool.true_xor, Bool.not_not, Bool.not_false, Bool.not_true]
  cases decide (mA M 0 3 = 2) <;> cases bsF M n 3 false <;> cases decide (mA M 0 1 = 2) <;> cases bsF M n 1 false <;> simp [prF, prS, lgs, ovD, Nat.ble, Nat.beq, Int32.sub_eq_add_neg]
theorem cp02fF_e {M : sM} {n : Nat} : cp02fF M n = (bif wokF M n 0 false 2 then wprF M n 0 false 2 else (-10000)) := by
  have e : lgO M n 0 false 2 = lgF M n false [(3, false), (4, false), (2, false)] := rfl
  unfold wokF wprF
  rw [e]
  unfold cp02fF
  simp only [lgF, zok, Bool.xor_false, Bool.false_xor, Bool.xor_true, Bool.true_xor, Bool.not_not, Bool.not_false, Bool.not_true]
  cases decide (mA M 0 3 = 2) <;> cases bsF M n 3 true <;> cases decide (mA M 0 4 = 2) <;> cases bsF M n 4 true <;> cases decide (mA M 0 2 = 2) <;> cases bsF M n 2 true <;> simp [prF, prS, lgs, ovD, Nat.ble, Nat.beq, Int32.sub_eq_add_neg]
theorem cp02tF_e {M : sM} {n : Nat} : cp02tF M n = (bif wokF M n 0 true 2 then wprF M n 0 true 2 else (-10000)) := by
  have e : lgO M n 0 true 2 = lgF M n true [(3, false), (4, false), (2, false)] := rfl
  unfold wokF wprF
  rw [e]
  unfold cp02tF
  simp only [lgF, zok, Bool.xor_false, Bool.false_xor, Bool.xor_true, Bool.true_xor, Bool.not_not, Bool.not_false, Bool.not_true]
  cases decide (mA M 0 3 = 2) <;> cases bsF M n 3 false <;> cases decide (mA M 0 4 = 2) <;> cases bsF M n 4 false <;> cases decide (mA M 0 2 = 2) <;> cases bsF M n 2 false <;> simp [prF, prS, lgs, ovD, Nat.ble, Nat.beq, Int32.sub_eq_add_neg]
theorem cp10fF_e {M : sM} {n : Nat} : cp10fF M n = (bif wokF M n 1 false 0 then wprF M n 1 false 0 else (-10000)) := by
  have e : lgO M n 1 false 0 = lgF M n false [(1, false)] := rfl
  unfold wokF wprF
  rw [e]
  unfold cp10fF
  simp only [lgF, zok, Bool.xor_false, Bool.false_xor, Bool.xor_true, Bool.true_xor, Bool.not_not, Bool.not_false, Bool.not_true]
  cases decide (mA M 0 1 = 2) <;> cases bsF M n 1 true <;> simp [prF, prS, lgs, ovD, Nat.ble, Nat.beq, Int32.sub_eq_add_neg]
theorem cp10tF_e {M : sM} {n : Nat} : cp10tF M n = (bif wokF M n 1 true 0 then wprF M n 1 true 0 else (-10000)) := by
  have e : lgO M n 1 true 0 = lgF M n true [(1, false)] := rfl
  unfold wokF wprF
  rw [e]
  unfold cp10tF
  simp only [lgF, zok, Bool.xor_false, Bool.false_xor, Bool.xor_true, Bool.true_xor, Bool.not_not, Bool.not_false, Bool.not_true]
  cases decide (mA M 0 1 = 2) <;> cases bsF M n 1 false <;> simp [prF, prS, lgs, ovD, Nat.ble, Nat.beq, Int32.sub_eq_add_neg]
theorem cp11fF_e {M : sM} {n : Nat} : cp11fF M n = (bif wokF M n 1 false 1 then wprF M n 1 false 1 else (-10000)) := by
  have e : lgO M n 1 false 1 = lgF M n false [(4, false), (2, false)] := rfl
  unfold wokF wprF
  rw [e]
  unfold cp11fF
  simp only [lgF, zok, Bool.xor_false, Bool.false_xor, Bool.xor_true, Bool.true_xor, Bool.not_not, Bool.not_false, Bool.not_true]
  cases decide (mA M 0 4 = 2) <;> cases bsF M n 4 true <;> cases decide (mA M 0 2 = 2) <;> cases bsF M n 2 true <;> simp [prF, prS, lgs, ovD, Nat.ble, Nat.beq, Int32.sub_eq_add_neg]
theorem cp11tF_e {M : sM} {n : Nat} : cp11tF M n = (bif wokF M n 1 true 1 then wprF M n 1 true 1 else (-10000)) := by
  have e : lgO M n 1 true 1 = lgF M n true [(4, false), (2, false)] := rfl
  unfold wokF wprF
  rw [e]
  unfold cp11tF
  simp only [lgF, zok, Bool.xor_false, Bool.false_xor, Bool.xor_true, Bool.true_xor, Bool.not_not, Bool.not_false, Bool.not_true]
  cases decide (mA M 0 4 = 2) <;> cases bsF M n 4 false <;> cases decide (mA M 0 2 = 2) <;> cases bsF M n 2 false <;> simp [prF, prS, lgs, ovD, Nat.ble, Nat.beq, Int32.sub_eq_add_neg]
theorem cp12fF_e {M : sM} {n : Nat} : cp12fF M n = (bif wokF M n 1 false 2 then wprF M n 1 false 2 else (-10000)) := by
  have e : lgO M n 1 false 2 = lgF M n false [(3, true), (0, false)] := rfl
  unfold wokF wprF
  rw [e]
  unfold cp12fF
  simp only [lgF, zok, Bool.xor_false, Bool.false_xor, Bool.xor_true, Bool.true_xor, Bool.not_not, Bool.not_false, Bool.not_true]
  cases decide (mA M 0 3 = 2) <;> cases bsF M n 3 false <;> cases decide (mA M 0 0 = 2) <;> cases bsF M n 0 true <;> simp [prF, prS, lgs, ovD, Nat.ble, Nat.beq, Int32.sub_eq_add_neg]
theorem cp12tF_e {M : sM} {n : Nat} : cp12tF M n = (bif wokF M n 1 true 2 then wprF M n 1 true 2 else (-10000)) := by
  have e : lgO M n 1 true 2 = lgF M n true [(3, true), (0, false)] := rfl
  unfold wokF wprF
  rw [e]
  unfold cp12tF
  simp only [lgF, zok, Bool.xor_false, Bool.false_xor, Bool.xor_true, Bool.true_xor, Bool.not_not, Bool.not_false, Bool.not_true]
  cases decide (mA M 0 3 = 2) <;> cases bsF M n 3 true <;> cases decide (mA M 0 0 = 2) <;> cases bsF M n 0 false <;> simp [prF, prS, lgs, ovD, Nat.ble, Nat.beq, Int32.sub_eq_add_neg]
theorem cp20fF_e {M : sM} {n : Nat} : cp20fF M n = (bif wokF M n 2 false 0 then wprF M n 2 false 0 else (-10000)) := by
  have e : lgO M n 2 false 0 = lgF M n false [(2, false)] := rfl
  unfold wokF wprF
  rw [e]
  unfold cp20fF
  simp only [lgF, zok, Bool.xor_false, Bool.false_xor, Bool.xor_true, Bool.true_xor, Bool.not_not, Bool.not_false, Bool.not_true]
  cases decide (mA M 0 2 = 2) <;> cases bsF M n 2 true <;> simp [prF, prS, lgs, ovD, Nat.ble, Nat.beq, Int32.sub_eq_add_neg]
theorem cp20tF_e {M : sM} {n : Nat} : cp20tF M n = (bif wokF M n 2 true 0 then wprF M n 2 true 0 else (-10000)) := by
  have e : lgO M n 2 true 0 = lgF M n true [(2, false)] := rfl
  unfold wokF wprF
  rw [e]
  unfold cp20tF
  simp only [lgF, zok, Bool.xor_false, Bool.false_xor, Bool.xor_true, Bool.true_xor, Bool.not_not, Bool.not_false, Bool.not_true]
  cases decide (mA M 0 2 = 2) <;> cases bsF M n 2 false <;> simp [prF, prS, lgs, ovD, Nat.ble, Nat.beq, Int32.sub_eq_add_neg]
theorem cp21fF_e {M : sM} {n : Nat} : cp21fF M n = (bif wokF M n 2 false 1 then wprF M n 2 false 1 else (-10000)) := by
  have e : lgO M n 2 false 1 = lgF M n false [(4, true), (1, false)] := rfl
  unfold wokF wprF
  rw [e]
  unfold cp21fF
  simp only [lgF, zok, Bool.xor_false, Bool.false_xor, Bool.xor_true, Bool.true_xor, Bool.not_not, Bool.not_false, Bool.not_true]
  cases decide (mA M 0 4 = 2) <;> cases bsF M n 4 false <;> cases decide (mA M 0 1 = 2) <;> cases bsF M n 1 true <;> simp [prF, prS, lgs, ovD, Nat.ble, Nat.beq, Int32.sub_eq_add_neg]
theorem cp21tF_e {M : sM} {n : Nat} : cp21tF M n = (bif wokF M n 2 true 1 then wprF M n 2 true 1 else (-10000)) := by
  have e : lgO M n 2 true 1 = lgF M n true [(4, true), (1, false)] := rfl
  unfold wokF wprF
  rw [e]
  unfold cp21tF
  simp only [lgF, zok, Bool.xor_false, Bool.false_xor, Bool.xor_true, Bool.true_xor, Bool.not_not, Bool.not_false, Bool.not_true]
  cases decide (mA M 0 4 = 2) <;> cases bsF M n 4 true <;> cases decide (mA M 0 1 = 2) <;> cases bsF M n 1 false <;> simp [prF, prS, lgs, ovD, Nat.ble, Nat.beq, Int32.sub_eq_add_neg]
theorem cp22fF_e {M : sM} {n : Nat} : cp22fF M n = (bif wokF M n 2 false 2 then wprF M n 2 false 2 else (-10000)) := by
  have e : lgO M n 2 false 2 = lgF M n false [(4, true), (3, true), (0, false)] := rfl
  unfold wokF wprF
  rw [e]
  unfold cp22fF
  simp only [lgF, zok, Bool.xor_false, Bool.false_xor, Bool.xor_true, Bool.true_xor, Bool.not_not, Bool.not_false, Bool.not_true]
  cases decide (mA M 0 4 = 2) <;> cases bsF M n 4 false <;> cases decide (mA M 0 3 = 2) <;> cases bsF M n 3 false <;> cases decide (mA M 0 0 = 2) <;> cases bsF M n 0 true <;> simp [prF, prS, lgs, ovD, Nat.ble, Nat.beq, Int32.sub_eq_add_neg]
theorem cp22tF_e {M : sM} {n : Nat} : cp22tF M n = (bif wokF M n 2 true 2 then wprF M n 2 true 2 else (-10000)) := by
  have e : lgO M n 2 true 2 = lgF M n true [(4, true), (3, true), (0, false)] := rfl
  unfold wokF wprF
  rw [e]
  unfold cp22tF
  simp only [lgF, zok, Bool.xor_false, Bool.false_xor, Bool.xor_true, Bool.true_xor, Bool.not_not, Bool.not_false, Bool.not_true]
  cases decide (mA M 0 4 = 2) <;> cases bsF M n 4 true <;> cases decide (mA M 0 3 = 2) <;> cases bsF M n 3 true <;> cases decide (mA M 0 0 = 2) <;> cases bsF M n 0 false <;> simp [prF, prS, lgs, ovD, Nat.ble, Nat.beq, Int32.sub_eq_add_neg]
theorem cp30fF_e {M : sM} {n : Nat} : cp30fF M n = (bif wokF M n 3 false 0 then wprF M n 3 false 0 else (-10000)) := by
  have e : lgO M n 3 false 0 = lgF M n false [(3, false)] := rfl
  unfold wokF wprF
  rw [e]
  unfold cp30fF
  simp only [lgF, zok, Bool.xor_false, Bool.false_xor, Bool.xor_true, Bool.true_xor, Bool.not_not, Bool.not_false, Bool.not_true]
  cases decide (mA M 0 3 = 2) <;> cases bsF M n 3 true <;> simp [prF, prS, lgs, ovD, Nat.ble, Nat.beq, Int32.sub_eq_add_neg]
theorem cp30tF_e {M : sM} {n : Nat} : cp30tF M n = (bif wokF M n 3 true 0 then wprF M n 3 true 0 else (-10000)) := by
  have e : lgO M n 3 true 0 = lgF M n true [(3, false)] := rfl
  unfold wokF wprF
  rw [e]
  unfold cp30tF
  simp only [lgF, zok, Bool.xor_false, Bool.false_xor, Bool.xor_true, Bool.true_xor, Bool.not_not, Bool.not_false, Bool.not_true]
  cases decide (mA M 0 3 = 2) <;> cases bsF M n 3 false <;> simp [prF, prS, lgs, ovD, Nat.ble, Nat.beq, Int32.sub_eq_add_neg]
theorem cp31fF_e {M : sM} {n : Nat} : cp31fF M n = (bif wokF M n 3 false 1 then wprF M n 3 false 1 else (-10000)) := by
  have e : lgO M n 3 false 1 = lgF M n false [(0, false), (1, true)] := rfl
  unfold wokF wprF
  rw [e]
  unfold cp31fF
  simp only [lgF, zok, Bool.xor_false, Bool.false_xor, Bool.xor_true, Bool.true_xor, Bool.not_not, Bool.not_false, Bool.not_true]
  cases decide (mA M 0 0 = 2) <;> cases bsF M n 0 true <;> cases decide (mA M 0 1 = 2) <;> cases bsF M n 1 false <;> simp [prF, prS, lgs, ovD, Nat.ble, Nat.beq, Int32.sub_eq_add_neg]
theorem cp31tF_e {M : sM} {n : Nat} : cp31tF M n = (bif wokF M n 3 true 1 then wprF M n 3 true 1 else (-10000)) := by
  have e : lgO M n 3 true 1 = lgF M n true [(0, false), (1, true)] := rfl
  unfold wokF wprF
  rw [e]
  unfold cp31tF
  simp only [lgF, zok, Bool.xor_false, Bool.false_xor, Bool.xor_true, Bool.true_xor, Bool.not_not, Bool.not_false, Bool.not_true]
  cases decide (mA M 0 0 = 2) <;> cases bsF M n 0 false <;> cases decide (mA M 0 1 = 2) <;> cases bsF M n 1 true <;> simp [prF, prS, lgs, ovD, Nat.ble, Nat.beq, Int32.sub_eq_add_neg]
theorem cp40fF_e {M : sM} {n : Nat} : cp40fF M n = (bif wokF M n 4 false 0 then wprF M n 4 false 0 else (-10000)) := by
  have e : lgO M n 4 false 0 = lgF M n false [(4, false)] := rfl
  unfold wokF wprF
  rw [e]
  unfold cp40fF
  simp only [lgF, zok, Bool.xor_false, Bool.false_xor, Bool.xor_true, Bool.true_xor, Bool.not_not, Bool.not_false, Bool.not_true]
  cases decide (mA M 0 4 = 2) <;> cases bsF M n 4 true <;> simp [prF, prS, lgs, ovD, Nat.ble, Nat.beq, Int32.sub_eq_add_neg]
theorem cp40tF_e {M : sM} {n : Nat} : cp40tF M n = (bif wokF M n 4 true 0 then wprF M n 4 true 0 else (-10000)) := by
  have e : lgO M n 4 true 0 = lgF M n true [(4, false)] := rfl
  unfold wokF wprF
  rw [e]
  unfold cp40tF
  simp only [lgF, zok, Bool.xor_false, Bool.false_xor, Bool.xor_true, Bool.true_xor, Bool.not_not, Bool.not_false, Bool.not_true]
  cases decide (mA M 0 4 = 2) <;> cases bsF M n 4 false <;> simp [prF, prS, lgs, ovD, Nat.ble, Nat.beq, Int32.sub_eq_add_neg]
theorem cp41fF_e {M : sM} {n : Nat} : cp41fF M n = (bif wokF M n 4 false 1 then wprF M n 4 false 1 else (-10000)) := by
  have e : lgO M n 4 false 1 = lgF M n false [(1, false), (2, true)] := rfl
  unfold wokF wprF
  rw [e]
  unfold cp41fF
  simp only [lgF, zok, Bool.xor_false, Bool.false_xor, Bool.xor_true, Bool.true_xor, Bool.not_not, Bool.not_false, Bool.not_true]
  cases decide (mA M 0 1 = 2) <;> cases bsF M n 1 true <;> cases decide (mA M 0 2 = 2) <;> cases bsF M n 2 false <;> simp [prF, prS, lgs, ovD, Nat.ble, Nat.beq, Int32.sub_eq_add_neg]
theorem cp41tF_e {M : sM} {n : Nat} : cp41tF M n = (bif wokF M n 4 true 1 then wprF M n 4 true 1 else (-10000)) := by
  have e : lgO M n 4 true 1 = lgF M n true [(1, false), (2, true)] := rfl
  unfold wokF wprF
  rw [e]
  unfold cp41tF
  simp only [lgF, zok, Bool.xor_false, Bool.false_xor, Bool.xor_true, Bool.true_xor, Bool.not_not, Bool.not_false, Bool.not_true]
  cases decide (mA M 0 1 = 2) <;> cases bsF M n 1 false <;> cases decide (mA M 0 2 = 2) <;> cases bsF M n 2 true <;> simp [prF, prS, lgs, ovD, Nat.ble, Nat.beq, Int32.sub_eq_add_neg]
