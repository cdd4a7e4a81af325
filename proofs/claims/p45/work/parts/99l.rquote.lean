/-! quote: the reference -/
section S99l
variable {t t' t0 : sT} {M M' M0 N Y Z R F1 C : sM} {n T A B b c m o k x y K w v j F e f q : Nat} {p a h d sz u p0 p1 g0 h0 : Int32} {s z : Bool} {L L' l : List Nat} {r r0 : Option Nat} {y0 y1 y2 y3 y4 y5 y6 : sV} {P : Nat → Bool} {Q : sRs → sT → Prop}
theorem qC_R (hR : Ri M n) : Ri (qC M r) n := by
  cases r with
  | none => exact hR
  | some q => exact (Fr_A rfl (Fr_A rfl (Fr.refl M))).ri hR
theorem q_nm (hQ : Qt M n m b r) (hR : Ri M n) (hI : Iv M n) (hP : Pv M) (hm : m < 6) (hb : b < 5) (hn : n ≤ 198) (ha : inB a 1 100 = true) : nmF (qL (qC M r) n m b p u a) (n + 2) m = qd M n m b a := by
  obtain ⟨e, rfl, he1, he⟩ := inB_100 ha
  have eO : opL (qL (qC M r) n m b p u (io e)) m none (n + 2) = oaF (oaF (opL M m (some b) n) b true (io e)) b false (io e) := by
    unfold qL
    rw [op_lay hm hb, op_lay hm hb, qC_op hQ n (Nat.le_refl n)]
  have hO := oaF_b (b := b) (s := false) (oaF_b (b := b) (s := true) (opL_b (m := m) (r := some b) hI n (Nat.le_refl n)) (rfl : (io e : Int32) = io e) he (by omega)) (rfl : (io e : Int32) = io e) he (by omega)
  have e6 : ∀ {i : Nat}, i < 12 → mA (qL (qC M r) n m b p u (io e)) i = mA M i := fun {i} hi => by
    rw [← qC_o (M := M) (r := r) (show ¬ i = 19 by omega)]
    exact funext fun k => qL_A (Or.inl hi)
  have hRL : Ri (qL (qC M r) n m b p u (io e)) (n + 2) := by
    unfold qL
    exact lay_Ri (lay_Ri (qC_R hR) hm hb (by omega)) hm hb (by omega)
  have hd : ndF (qL (qC M r) n m b p u (io e)) (n + 2) m = cndG M m (oaF (oaF (opL M m (some b) n) b true (io e)) b false (io e)) := by
    rw [nd_op (f := fun _ => 0) hRL hm (Pv_cg (e6 (by decide)) (e6 (by decide)) hP) (K := 200 * n + 200 + 200) (by rw [eO]; exact hO) (by omega), eO]
    exact cndG_cg (e6 (by decide)) (e6 (by decide))
  unfold nmF qd
  rw [hd, fd_cg (M := M) (n := n) (e6 (by decide)) (e6 (by decide)) (e6 (by decide)) (e6 (by decide)), cfd_fd]
theorem ep_io1 {q : Nat} (h : q < 200) : ¬ io q = -1 := fun g => absurd g (io_ne1 (by omega))
theorem wdq (h : qlv Y k = true) : cnF Y k = wdF Y (fun j => decide (j = k) && qlv Y j) := by
  rw [wd_cn]
  refine congrArg (wdF Y) (funext fun j => ?_)
  by_cases e : j = k
  · rw [e, h]; simp
  · rw [decide_eq_false e]; rfl
theorem wd0 (h : qlv Y k = false) : Y = wdF Y (fun j => decide (j = k) && qlv Y j) := by
  refine (wd_no (fun j => ?_)).symm
  by_cases e : j = k
  · rw [e, h]; simp
  · rw [decide_eq_false e]; rfl
end S99l
