/-! a loss is covered by shares: the reference -/
section S99zg
variable {t t' t0 : sT} {M M' M0 N Y Z : sM} {n T A B b c m o k x K w v e i d R H C D : Nat} {p a h u p0 p1 : Int32} {s z : Bool} {L L' l V : List Nat} {f f2 : Nat → Nat} {g g2 : Nat → Int32} {y0 y1 : sV} {Q : sRs → sT → Prop}
/-- what the others have -/
def qN (M : sM) (m x : Nat) : Nat := if x = m then 0 else oN M x
theorem qN_m : qN M m m = 0 := if_pos rfl
theorem qN_o (h : ¬ x = m) : qN M m x = oN M x := if_neg h
theorem qN_le (hS : Hs M) (hx : x < 6) : qN M m x ≤ 1000000 := by
  have := oN_le hS hx
  unfold qN
  split <;> omega
theorem Vr_7 {v : Int32} (hx : x < 6) (hV : Vr t (shM M g) n) : Vr (sAw t 21 7 x v) (shM M (sU1 g x v)) n :=
  Vr_mk hV (by rw [rp_A rfl, hV.1]; exact sh_w hx) cp_A (by rw [← sh_w hx]; exact Fr_A rfl (Fr.refl _))
end S99zg
