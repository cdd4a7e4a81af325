/-! quote: the reference -/
section S99l
variable {t t' t0 : sT} {M M' M0 N Y Z R F1 C : sM} {n T A B b c m o k x y K w v j F e f q : Nat} {p a h d sz u p0 p1 g0 h0 : Int32} {s z : Bool} {L L' l : List Nat} {r r0 : Option Nat} {y0 y1 y2 y3 y4 y5 y6 : sV} {P : Nat → Bool} {Q : sRs → sT → Prop}
theorem qC_R (hR : Ri M n) : Ri (qC M r) n := by
  cases r with
  | none => exact hR
  | some q => exact (Fr_A rfl (Fr_A rfl (Fr.refl M))).ri hR
theorem q_nm (hQ : Qt M n m b r) (hR : Ri M n) (hI : Iv M n) (hP : Pv M) (hm : m < 6) (hb : b < 5) (hn : n ≤ 198) (ha : inB a 1 100 = true) : nmF (qL (qC M r) n m b p u a) (n + 2) m = qd M n m b a := by
  obtain ⟨e, rfl, he1, he⟩ := inB_100 ha
  have eO : opL (qL (qC M r) n m b p u (io e)) m none (n + 2) = oaF (oaF (opL M m (some b) n) b true (io e)) b false (io e) := by
    unfold qL
    rw [op_lay hm hb, op_lay hm hb, qC_op hQ n (Nat.le_refl n)]
  have hO := oaF_b (b := b) (s := false) (oaF_b (b := b) (s := true) (opL_b (m := m) (r := some b) hI n (Nat.le_refl n)) (rfl : (io e : Int32) = io e) he (by omega)) (rfl : (io e : Int32) = io e) he (by omega)
  have e6 : ∀ {i : Nat}, i < 12 → mA (qL (qC M r) n m b p u (io e)) i = mA M i := fun {i} hi => by
    rw [← qC_o (M := M) (r := r) (show ¬ i = 19 by omega)]
    exact funext fun k => qL_A (Or.inl hi)
  have hRL : Ri (qL (qC M r) n m b p u (io e)) (n + 2) := by
    unfold qL
    exact lay_Ri (lay_Ri (qC_R hR) hm hb (by omega)) hm hb (by omega)
  have hd : ndF (qL (qC M r) n m b p u (io e)) (n + 2) m = cndG M m (oaF (oaF (opL M m (some b) n) b true (io e)) b false (io e)) := by
    rw [nd_op (f := fun _ => 0) hRL hm (Pv_cg (e6 (by decide)) (e6 (by decide)) hP) (K := 200 * n + 200 + 200) (by rw [eO]; exact hO) (by omega), eO]
    exact cndG_cg (e6 (by decide)) (e6 (by decide))
  unfold nmF qd
  rw [hd, fd_cg (M := M) (n := n) (e6 (by decide)) (e6 (by decide)) (e6 (by decide)) (e6 (by decide)), cfd_fd]
/-- the two come -/
theorem r208_tl (hV : Vr t (qL Y n m b p u a) (n + 2)) (hK : Kv Y n) (hn : n ≤ 198) (hm : m < 6) (hb : b < 5) (ha : inB a 1 100 = true) (hp : prB b p = true) (hu : prB b u = true)
    (q : Kr t (ok (io n) (qF2 (qR (qL (qX Y n m b) n m b p u a) n) n) (n + 2)) Q) :
    X 179 0 [.inr (.inr (12, (some 0))), sJk] [] t (sK 179 208 298 [.inr (.inr (12, (some 0))), .inl (io m), .inl (io b), .inl p, .inl u, .inl a, y0, y1, y2, y3, y4, .inl (io n), .inl (io (n + 1)), y5, y6] [] Q) := by
  refine r179 hV.1 hV.2.1 hV.2.2 (fun t2 h2 c2 _ => ?_)
  have V2 : Vr t2 (nqF (qL Y n m b p u a)) (n + 2) := Vr_mk hV h2 c2 (Fr_nqF (Fr.refl _))
  refine sK_v (pc' := 301) rfl ?_
  refine r208_7 V2 hb hm (Nat.lt_succ_of_lt (Nat.lt_succ_self n)) (Nat.lt_succ_self (n + 1)) (by omega) ?_
  have eX : mAw (nqF (qL Y n m b p u a)) 10 ((5 * m) + b) (io n) = qL (qX Y n m b) n m b p u a := by
    unfold qX
    rw [qL_nq, qL_aw (Or.inl (by decide))]
  obtain ⟨-, a2, a3, a4, a5, a6, a7, a8⟩ := q_all (u := u) (Kv_X (m := m) (b := b) hK) hn hm hb ha hp hu
  have V3 : Vr (sBw (sBw (sAw (sAw (sAw t2 21 10 ((5 * m) + b) (io n)) 21 19 n 4) 21 19 (n + 1) 4) 22 4 n true) 22 4 (n + 1) true) (qR (mAw (nqF (qL Y n m b p u a)) 10 ((5 * m) + b) (io n)) n) (n + 2) := by
    refine Vr_mk V2 (by rw [rp_B, rp_B, rp_A rfl, rp_A rfl, rp_A rfl, V2.1]; rfl) (cp_B.trans (cp_B.trans (cp_A.trans (cp_A.trans cp_A)))) ?_
    exact Fr_B rfl (Fr_B rfl (Fr_A rfl (Fr_A rfl (Fr_A rfl (Fr.refl _)))))
  have c3 : cp (sBw (sBw (sAw (sAw (sAw t2 21 10 ((5 * m) + b) (io n)) 21 19 n 4) 21 19 (n + 1) 4) 22 4 n true) 22 4 (n + 1) true) = cp t2 := cp_B.trans (cp_B.trans (cp_A.trans (cp_A.trans cp_A)))
  rw [eX] at V3
  have hU := q_half (f := n + 2) a2 a3 a4 a5
  clear eX
  generalize qR (qL (qX Y n m b) n m b p u a) n = R at *
  obtain ⟨b1, b2, b3, b4⟩ := hU
  obtain ⟨T, hT, hT4⟩ := a2.2.2.2.2
  refine v176 V3 a2.1 (Nat.lt_succ_of_lt (Nat.lt_succ_self n)) (Or.inr a4) a6 hT hT4 (fun t4 V4 c4 => ?_)
  refine sK_v (pc' := 351) rfl ?_
  refine r208_8 V4 hb hm (Nat.lt_succ_of_lt (Nat.lt_succ_self n)) (Nat.lt_succ_self (n + 1)) ?_
  have k1 := (com_all a2 (o := n) (Nat.lt_succ_of_lt (Nat.lt_succ_self n)) (Or.inr a4)).1
  refine v178 (f := n + 2) V4 k1 (wt0_n _) (fun t5 V5 c5 => ?_)
  refine sK_v (pc' := 355) rfl ?_
  have h19 := (b2.1 19 (by decide) (by decide)).trans a5
  have h15 : 1 ≤ lfN (folF (n + 2) (n + 2) (comF R (n + 2) n)) (n + 1) := by
    unfold lfN at a7 ⊢
    rw [b2.1 15 (by decide) (by decide)]; exact a7
  unfold qF2 qF1 at q
  clear b1 b2 b4
  generalize folF (n + 2) (n + 2) (comF R (n + 2) n) = F1 at *
  refine r208_9 V5 hb hm (Nat.lt_succ_of_lt (Nat.lt_succ_self n)) (Nat.lt_succ_self (n + 1)) ?_
  obtain ⟨T', hT', hT4'⟩ := b3.2.2.2.2
  refine v176 V5 b3.1 (Nat.lt_succ_self (n + 1)) (Or.inr h19) h15 hT' hT4' (fun t6 V6 c6 => ?_)
  refine sK_v (pc' := 361) rfl ?_
  refine r208_10 V6 hb hm (Nat.lt_succ_of_lt (Nat.lt_succ_self n)) (Nat.lt_succ_self (n + 1)) ?_
  have k2 := (com_all b3 (Nat.lt_succ_self (n + 1)) (Or.inr h19)).1
  refine v178 (f := n + 2) V6 k2 (wt0_n _) (fun t7 V7 c7 => ?_)
  refine sK_v (pc' := 365) rfl ?_
  refine r208_11 V7 hb hm (Nat.lt_succ_of_lt (Nat.lt_succ_self n)) (Nat.lt_succ_self (n + 1)) ?_
  exact q t7 V7.1 (c7.trans (c6.trans (c5.trans (c4.trans (c3.trans c2)))))
theorem ep_io1 {q : Nat} (h : q < 200) : ¬ io q = -1 := fun g => absurd g (io_ne1 (by omega))
theorem wdq (h : qlv Y k = true) : cnF Y k = wdF Y (fun j => decide (j = k) && qlv Y j) := by
  rw [wd_cn]
  refine congrArg (wdF Y) (funext fun j => ?_)
  by_cases e : j = k
  · rw [e, h]; simp
  · rw [decide_eq_false e]; rfl
theorem wd0 (h : qlv Y k = false) : Y = wdF Y (fun j => decide (j = k) && qlv Y j) := by
  refine (wd_no (fun j => ?_)).symm
  by_cases e : j = k
  · rw [e, h]; simp
  · rw [decide_eq_false e]; rfl
/-- those of the quote that live are withdrawn -/
theorem r208_wd (hV : Vr t Z (n + 2)) (hq : q + 1 < n + 2) (hm : m < 6) (hb : b < 5) (hq2 : q < 200)
    (k : ∀ t' (e : sV), Vr t' (wdF Z (qP Z (some q))) (n + 2) → cp t' = cp t → X 179 0 [.inr (.inr (12, (some 0))), sJk] [] t' (sK 179 208 298 [.inr (.inr (12, (some 0))), .inl (io m), .inl (io b), .inl p, .inl u, .inl a, .inl g0, .inl h0, .inl (io q), .inl d, .inl sz, .inl (io n), .inl (io (n + 1)), .inl (bz z), e] [] Q)) :
    X 208 258 [.inr (.inr (12, (some 0))), .inl (io m), .inl (io b), .inl p, .inl u, .inl a, .inl g0, .inl h0, .inl (io q), .inl d, .inl sz, .inl (io n), .inl (io (n + 1)), .inl (bz z), .inl 0] [] t Q := by
  have hn1 : n < n + 2 := Nat.lt_succ_of_lt (Nat.lt_succ_self n)
  have hn2 : n + 1 < n + 2 := Nat.lt_succ_self (n + 1)
  have e2 : ∀ (W : sM), qlv W (q + 1) = qlv Z (q + 1) → qlv Z q = true → W = cnF Z q → (if qlv Z (q + 1) = true then cnF W (q + 1) else W) = wdF Z (qP Z (some q)) := fun W h1 h2 h3 => by
    by_cases g : qlv Z (q + 1) = true
    · rw [if_pos g, h3, wd_cn, wd_cn, wd_wd]
      refine congrArg (wdF Z) (funext fun j => ?_)
      show (decide (j = q) || decide (j = q + 1)) = ((decide (j = q) || decide (j = q + 1)) && qlv Z j)
      by_cases e1 : j = q
      · rw [e1, h2]; simp
      · by_cases e2 : j = q + 1
        · rw [e2, g]; simp
        · rw [decide_eq_false e1, decide_eq_false e2]; rfl
    · rw [if_neg g, h3, wd_cn]
      refine congrArg (wdF Z) (funext fun j => ?_)
      show decide (j = q) = ((decide (j = q) || decide (j = q + 1)) && qlv Z j)
      by_cases e1 : j = q
      · rw [e1, h2]; simp
      · by_cases e2 : j = q + 1
        · rw [e2, Bool.eq_false_iff.mpr g]; simp
        · rw [decide_eq_false e1, decide_eq_false e2]; rfl
  have e3 : qlv Z q = false → qlv Z (q + 1) = true → cnF Z (q + 1) = wdF Z (qP Z (some q)) := fun h1 h2 => by
    rw [wd_cn]
    refine congrArg (wdF Z) (funext fun j => ?_)
    show decide (j = q + 1) = ((decide (j = q) || decide (j = q + 1)) && qlv Z j)
    by_cases e1 : j = q
    · rw [e1, h1]; simp
    · by_cases e2 : j = q + 1
      · rw [e2, h2]; simp
      · rw [decide_eq_false e1, decide_eq_false e2]; rfl
  have e4 : qlv Z q = false → qlv Z (q + 1) = false → Z = wdF Z (qP Z (some q)) := fun h1 h2 => by
    refine (wd_no (fun j => ?_)).symm
    show ((decide (j = q) || decide (j = q + 1)) && qlv Z j) = false
    by_cases e1 : j = q
    · rw [e1, h1]; simp
    · by_cases e2 : j = q + 1
      · rw [e2, h2]; simp
      · rw [decide_eq_false e1, decide_eq_false e2]; rfl
  have l1 : ∀ k, mA Z 19 k = 0 → qlv Z k = true := fun k h => by unfold qlv; rw [h]; rfl
  have l2 : ∀ k, mA Z 19 k = 1 → qlv Z k = true := fun k h => by unfold qlv; rw [h]; rfl
  have l3 : ∀ k, ¬ mA Z 19 k = 0 → ¬ mA Z 19 k = 1 → qlv Z k = false := fun k h h2 => by unfold qlv; rw [decide_eq_false h, decide_eq_false h2]; rfl
  have first : qlv Z q = true → X 156 0 [.inr (.inr (12, (some 0))), .inl (io q)] [] t (sK 156 208 288 [.inr (.inr (12, (some 0))), .inl (io m), .inl (io b), .inl p, .inl u, .inl a, .inl g0, .inl h0, .inl (io q), .inl d, .inl sz, .inl (io n), .inl (io (n + 1)), .inl (bz z), .inl 0] [] Q) := fun g => by
    refine v156 hV (by omega) (fun t1 V1 c1 _ => ?_)
    refine sK_v (pc' := 291) rfl ?_
    have hc19 : mA (cnF Z q) 19 (q + 1) = mA Z 19 (q + 1) := by rw [cn_19, if_neg (by omega)]
    have hql : qlv (cnF Z q) (q + 1) = qlv Z (q + 1) := by unfold qlv; rw [hc19]
    have e2' := e2 _ hql g rfl
    refine r208_5 V1 hb hm hn1 hn2 hq (fun h => absurd h (ep_io1 hq2)) (fun _ h => ?_) (fun _ h h2 => ?_) (fun _ _ h => ?_)
    · rw [hc19] at h
      rw [if_pos (l1 _ h)] at e2'
      refine v156 V1 hq (fun t2 V2 c2 _ => ?_)
      refine sK_v (pc' := 291) rfl ?_
      rw [e2'] at V2
      exact r208_6 V2 hb hm hn1 hn2 hq (k t2 _ V2 (c2.trans c1))
    · rw [hc19] at h h2
      rw [if_neg (by rw [l3 _ h h2]; decide)] at e2'
      rw [e2'] at V1
      exact k t1 _ V1 c1
    · rw [hc19] at h
      rw [if_pos (l2 _ h)] at e2'
      refine v156 V1 hq (fun t2 V2 c2 _ => ?_)
      refine sK_v (pc' := 291) rfl ?_
      rw [e2'] at V2
      exact r208_6 V2 hb hm hn1 hn2 hq (k t2 _ V2 (c2.trans c1))
  have second : qlv Z q = false → qlv Z (q + 1) = true → X 156 0 [.inr (.inr (12, (some 0))), .inl (io (q + 1))] [] t (sK 156 208 288 [.inr (.inr (12, (some 0))), .inl (io m), .inl (io b), .inl p, .inl u, .inl a, .inl g0, .inl h0, .inl (io q), .inl d, .inl sz, .inl (io n), .inl (io (n + 1)), .inl (bz z), .inl 1] [] Q) := fun g g2 => by
    refine v156 hV hq (fun t2 V2 c2 _ => ?_)
    refine sK_v (pc' := 291) rfl ?_
    rw [e3 g g2] at V2
    exact r208_6 V2 hb hm hn1 hn2 hq (k t2 _ V2 c2)
  refine r208_4q hV hb hm hn1 hn2 hq (by omega) (fun h => absurd h (ep_io1 hq2)) (fun _ h => first (l1 _ h)) (fun _ h h2 h3 => second (l3 _ h h2) (l1 _ h3)) (fun _ h h2 h3 h4 => ?_) (fun _ h h2 _ h4 => second (l3 _ h h2) (l2 _ h4)) (fun _ _ h => first (l2 _ h))
  have V9 := hV
  rw [e4 (l3 _ h h2) (l3 _ h3 h4)] at V9
  exact k t _ V9 rfl
end S99l
