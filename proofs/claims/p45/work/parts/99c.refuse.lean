/-! an order laid: its need; the class refuses as the reference does -/
section S99c
variable {t t' t0 u : sT} {M M' M0 N : sM} {n T A B b c m o k x y K w v j F e f : Nat} {p a h d sz : Int32} {s z : Bool} {L L' l : List Nat} {r r0 : Option Nat} {y0 y1 y2 : sV} {Q : sRs → sT → Prop}
theorem opL_cg (h1 : ∀ q k, k < n → mA M' q k = mA M q k) (h2 : ∀ q k, k < n → mB M' q k = mB M q k) : ∀ k, k ≤ n → opL M' m r k = opL M m r k
  | 0, _ => rfl
  | k + 1, hk => by
    have ih : opL M' m r k = opL M m r k := opL_cg h1 h2 k (by omega)
    have e1 : oM M' k = oM M k := by unfold oM; rw [h1 12 k (by omega)]
    have e2 : oB M' k = oB M k := by unfold oB; rw [h1 13 k (by omega)]
    have e3 : opn M' m r k = opn M m r k := by unfold opn; rw [e1, e2, h1 19 k (by omega), h2 4 k (by omega)]
    show (bif opn M' m r k then oaF (opL M' m r k) (oB M' k) (mB M' 3 k) (mA M' 15 k) else opL M' m r k) = (bif opn M m r k then oaF (opL M m r k) (oB M k) (mB M 3 k) (mA M 15 k) else opL M m r k)
    rw [ih, e2, e3, h1 15 k (by omega), h2 3 k (by omega)]
theorem lay_oM (hm : m < 6) : oM (layM M n m b s p a h) n = m := by unfold oM; rw [lay_12]; exact nn_io (by omega)
theorem lay_oB (hb : b < 5) : oB (layM M n m b s p a h) n = b := by unfold oB; rw [lay_13]; exact nn_io (by omega)
theorem op_lay (hm : m < 6) (hb : b < 5) : opL (layM M n m b s p a h) m none (n + 1) = oaF (opL M m none n) b s a := by
  have e := opL_cg (M := M) (M' := layM M n m b s p a h) (n := n) (m := m) (r := none) (fun q k hk => lay_o (by omega)) (fun q k hk => lay_Bo (by omega)) n (Nat.le_refl n)
  have e2 : opn (layM M n m b s p a h) m none n = true := by
    unfold opn
    rw [lay_oM hm, lay_19]
    simp
  show (bif opn (layM M n m b s p a h) m none n then oaF (opL (layM M n m b s p a h) m none n) (oB (layM M n m b s p a h) n) (mB (layM M n m b s p a h) 3 n) (mA (layM M n m b s p a h) 15 n) else _) = _
  rw [e2, e, lay_oB hb, lay_B3, lay_15]
  rfl
theorem cndG_cg {f : Nat → Int32} (h6 : mA M' 6 = mA M 6) (h11 : mA M' 11 = mA M 11) : cndG M' m f = cndG M m f := by
  unfold cndG
  rw [h6, h11]
theorem Pv_cg (h6 : mA M' 6 = mA M 6) (h11 : mA M' 11 = mA M 11) (h : Pv M) : Pv M' := by
  unfold Pv
  rw [h6, h11]; exact h
theorem lay_6 : mA (layM M n m b s p a h) 6 = mA M 6 := funext fun k => lay_q (Or.inl (by decide))
theorem lay_11 : mA (layM M n m b s p a h) 11 = mA M 11 := funext fun k => lay_q (Or.inl (by decide))
theorem fd_cg (h1 : mA M' 1 = mA M 1) (h4 : mA M' 4 = mA M 4) (h5 : mA M' 5 = mA M 5) (h6 : mA M' 6 = mA M 6) : fdF M' k m = fdF M n m := by
  unfold fdF
  rw [h1, h4, h5, h6]
theorem cfd_fd : cfdF M n m = fdF M n m := rfl
theorem nd_op {f : Nat → Int32} {K : Nat} (hR : Ri M n) (hm : m < 6) (hP : Pv M) (hO : Ob (opL M m none n) K) (hK : K ≤ 100000) : ndF M n m = cndG M m (opL M m none n) :=
  (cnd_nd hm hP hO hK (cdF_op (s := true) hR (by decide)) (cdF_op (s := true) hR (by decide)) (cdF_op (s := true) hR (by decide)) (cdF_op (s := false) hR (by decide)) (cdF_op (s := false) hR (by decide)) (cdF_op (s := false) hR (by decide))).symm
theorem nd_lay (hR : Ri M n) (hI : Iv M n) (hP : Pv M) (hm : m < 6) (hb : b < 5) (hn : n < 200) (ha : a = io e) (he : e ≤ 100) :
    ndF (layM M n m b s p a h) (n + 1) m = cndG M m (oaF (opL M m none n) b s a) := by
  have hO := oaF_b (b := b) (s := s) (opL_b (m := m) (r := none) hI n (Nat.le_refl n)) ha he (by omega)
  rw [nd_op (f := fun _ => 0) (lay_Ri hR hm hb hn) hm (Pv_cg lay_6 lay_11 hP) (K := 200 * n + 200) (by rw [op_lay hm hb]; exact hO) (by omega), op_lay hm hb]
  exact cndG_cg lay_6 lay_11
theorem nm_lay (hR : Ri M n) (hI : Iv M n) (hP : Pv M) (hm : m < 6) (hb : b < 5) (hn : n < 200) (ha : a = io e) (he : e ≤ 100) :
    nmF (layM M n m b s p a h) (n + 1) m = decide (cfdF M n m < cndG M m (oaF (opL M m none n) b s a)) := by
  unfold nmF
  rw [nd_lay hR hI hP hm hb hn ha he]
  rw [fd_cg (M := M) (n := n) (funext fun k => lay_q (Or.inl (by decide))) (funext fun k => lay_q (Or.inl (by decide))) (funext fun k => lay_q (Or.inl (by decide))) lay_6]
  rfl
/-- the class: would it be too much -/
theorem w138 (hz : Zr t) (hW : Wc t M n T L A B) (hm : m < 6) (hb : b < 5) (q : ∀ u, Wc u M n T L (A + 1) (B + 6) → ep u = ep t → Q (.inl (some (.inl (bz (decide (cfdF M n m < cndG M m (oaF (opL M m none n) b s a))))))) u) :
    X 138 0 [.inr (.inr (11, (some 0))), .inr (.inr (7, (some m))), .inr (.inr (1, (some b))), .inl (bz s), .inl a, sJk] [] t Q := by
  refine n138 hW hm hb ?_
  refine w39 hz hW (fun u1 h1 => ?_)
  refine sK_i (pc' := 9) rfl ?_
  refine n138_39 (oR_W h1 hW) hm hb ?_
  refine w40 h1 hW hb (fun u2 h2 => ?_)
  refine sK_v (pc' := 20) rfl ?_
  refine n138_40 (oR_W h2 hW) hm hb ?_
  refine n51 (oR_W h2 hW) hm h2.2.2.2.2.2.2.2.2.2.2.1 h2.2.2.2.2.2.2.1 ?_
  refine sK_i (pc' := 30) rfl ?_
  refine n138_51 (oR_W h2 hW) hm hb (fun h => ?_) (fun h => ?_)
  · have := q u2 (oR_W h2 hW) (oR_ep h2)
    rw [decide_eq_false h] at this; exact this
  · have := q u2 (oR_W h2 hW) (oR_ep h2)
    rw [decide_eq_true h] at this; exact this
end S99c
