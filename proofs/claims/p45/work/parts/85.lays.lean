/-! an order is laid: the reference (printed by lay85.py) -/
section S85
variable {t t' t0 : sT} {M M' M0 N : sM} {n T A B b c m o k x y K w f v j : Nat} {p a h d sz : Int32} {s z : Bool} {L L' l : List Nat} {r r0 : Option Nat} {y0 y1 y2 : sV} {Q : sRs → sT → Prop}
/-- the state when an order has been laid -/
def layM (M : sM) (n m b : Nat) (s : Bool) (p a h : Int32) : sM := mIw (mBw (mAw (mBw (mBw (mAw (mAw (mAw (mAw (mAw (mAw (mBw (mAw (mAw M 12 n (io m)) 13 n (io b)) 3 n s) 14 n p) 15 n a) 16 n h) 17 n 0) 18 n 0) 19 n 0) 4 n false) 5 n false) 20 n 0) 6 n false) 786 (io (n + 1))
theorem mA_B {q : Nat} {v : Bool} : mA (mBw M q x v) = mA M := rfl
theorem mA_I {F : Nat} {v : Int32} : mA (mIw M F v) = mA M := rfl
theorem mI_B {q : Nat} {v : Bool} : mI (mBw M q x v) = mI M := rfl
theorem mI_s85 {F : Nat} {v : Int32} : mI (mIw M F v) F = v := if_pos rfl
theorem aw_s {q : Nat} {v : Int32} : mA (mAw M q x v) q x = v := if_pos ⟨rfl, rfl⟩
theorem aw_q {q y : Nat} {v : Int32} (h : ¬ y = q) : mA (mAw M q x v) y k = mA M y k := if_neg (fun z => h z.1)
theorem lay_o {q : Nat} (hk : ¬ k = n) : mA (layM M n m b s p a h) q k = mA M q k := by
  unfold layM
  rw [mA_I, mA_B, aw_o hk, mA_B, mA_B, aw_o hk, aw_o hk, aw_o hk, aw_o hk, aw_o hk, aw_o hk, mA_B, aw_o hk, aw_o hk]
theorem lay_12 : mA (layM M n m b s p a h) 12 n = io m := by
  unfold layM
  rw [mA_I, mA_B, aw_q (by decide), mA_B, mA_B, aw_q (by decide), aw_q (by decide), aw_q (by decide), aw_q (by decide), aw_q (by decide), aw_q (by decide), mA_B, aw_q (by decide), aw_s]
theorem lay_13 : mA (layM M n m b s p a h) 13 n = io b := by
  unfold layM
  rw [mA_I, mA_B, aw_q (by decide), mA_B, mA_B, aw_q (by decide), aw_q (by decide), aw_q (by decide), aw_q (by decide), aw_q (by decide), aw_q (by decide), mA_B, aw_s]
theorem lay_786 : mI (layM M n m b s p a h) 786 = io (n + 1) := by
  unfold layM
  rw [mI_s85]
theorem lay_Ri (hR : Ri M n) (hm : m < 6) (hb : b < 5) (hn : n < 200) : Ri (layM M n m b s p a h) (n + 1) := by
  have e12 : oM (layM M n m b s p a h) n = m := by unfold oM; rw [lay_12]; exact nn_io (by omega)
  have e13 : oB (layM M n m b s p a h) n = b := by unfold oB; rw [lay_13]; exact nn_io (by omega)
  refine ⟨lay_786, hn, fun k hk => ?_, fun k hk => ?_⟩
  · by_cases e : k = n
    · rw [e, e12, lay_12]; exact ⟨rfl, hm⟩
    · have e1 : oM (layM M n m b s p a h) k = oM M k := by unfold oM; rw [lay_o e]
      rw [e1, lay_o e]; exact hR.2.2.1 k (by omega)
  · by_cases e : k = n
    · rw [e, e13, lay_13]; exact ⟨rfl, hb⟩
    · have e1 : oB (layM M n m b s p a h) k = oB M k := by unfold oB; rw [lay_o e]
      rw [e1, lay_o e]; exact hR.2.2.2 k (by omega)
theorem Ri_aw {q : Nat} {v : Int32} (hR : Ri M n) : Ri (mAw M q n v) n := by
  have e : ∀ r k, k < n → mA (mAw M q n v) r k = mA M r k := fun r k hk => aw_o (by omega)
  refine ⟨hR.1, hR.2.1, fun k hk => ?_, fun k hk => ?_⟩
  · unfold oM; rw [e 12 k hk]; exact hR.2.2.1 k hk
  · unfold oB; rw [e 13 k hk]; exact hR.2.2.2 k hk
theorem Ri_bw {q : Nat} {v : Bool} (hR : Ri M n) : Ri (mBw M q x v) n := hR
end S85
