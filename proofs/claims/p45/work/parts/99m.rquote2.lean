/-! quote: the class and the reference answer alike -/
section S99m
variable {t t' t0 : sT} {M M' M0 N Y Z R F1 C : sM} {n T A B b c m o k x y K w v j F e f q : Nat} {p a h d sz u p0 p1 g0 h0 : Int32} {s z : Bool} {L L' l : List Nat} {r r0 : Option Nat} {y0 y1 y2 y3 y4 y5 y6 : sV} {P : Nat → Bool} {Q : sRs → sT → Prop}
theorem qP_lo (h : Qt M n m b r) (hk : n ≤ k) : qP M r k = false := by
  cases r with
  | none => rfl
  | some q =>
    have := (h.2.1 q rfl).1
    show ((decide (k = q) || decide (k = q + 1)) && qlv M k) = false
    rw [decide_eq_false (by omega), decide_eq_false (by omega)]; rfl
theorem qP_L (h : Qt M n m b r) : qP (qL M n m b p u a) r = qP M r := by
  funext k
  cases r with
  | none => rfl
  | some q =>
    have h1 := (h.2.1 q rfl).1
    show ((decide (k = q) || decide (k = q + 1)) && qlv (qL M n m b p u a) k) = ((decide (k = q) || decide (k = q + 1)) && qlv M k)
    by_cases e : k = q ∨ k = q + 1
    · have e2 : qlv (qL M n m b p u a) k = qlv M k := by unfold qlv; rw [qL_A (by omega)]
      rw [e2]
    · rw [decide_eq_false (fun g => e (Or.inl g)), decide_eq_false (fun g => e (Or.inr g))]; rfl
theorem qL_wqs (h : Qt M n m b r) : wdF (qL M n m b p u a) (qP (qL M n m b p u a) r) = qL (wqsF M n m b) n m b p u a := by
  rw [qP_L h, qL_wd (qP_lo h (Nat.le_refl n)) (qP_lo h (Nat.le_succ n)), wqs_qP h]
theorem io_s2 (hn : n ≤ 198) : (io (n + 2) - 2 : Int32) = io n := io_sub (p := n + 2) (q := 2) (by omega)
end S99m
