/-! quote: the class and the reference answer alike -/
section S99m
variable {t t' t0 : sT} {M M' M0 N Y Z R F1 C : sM} {n T A B b c m o k x y K w v j F e f q : Nat} {p a h d sz u p0 p1 g0 h0 : Int32} {s z : Bool} {L L' l : List Nat} {r r0 : Option Nat} {y0 y1 y2 y3 y4 y5 y6 : sV} {P : Nat → Bool} {Q : sRs → sT → Prop}
theorem qP_lo (h : Qt M n m b r) (hk : n ≤ k) : qP M r k = false := by
  cases r with
  | none => rfl
  | some q =>
    have := (h.2.1 q rfl).1
    show ((decide (k = q) || decide (k = q + 1)) && qlv M k) = false
    rw [decide_eq_false (by omega), decide_eq_false (by omega)]; rfl
theorem qP_L (h : Qt M n m b r) : qP (qL M n m b p u a) r = qP M r := by
  funext k
  cases r with
  | none => rfl
  | some q =>
    have h1 := (h.2.1 q rfl).1
    show ((decide (k = q) || decide (k = q + 1)) && qlv (qL M n m b p u a) k) = ((decide (k = q) || decide (k = q + 1)) && qlv M k)
    by_cases e : k = q ∨ k = q + 1
    · have e2 : qlv (qL M n m b p u a) k = qlv M k := by unfold qlv; rw [qL_A (by omega)]
      rw [e2]
    · rw [decide_eq_false (fun g => e (Or.inl g)), decide_eq_false (fun g => e (Or.inr g))]; rfl
theorem qL_wqs (h : Qt M n m b r) : wdF (qL M n m b p u a) (qP (qL M n m b p u a) r) = qL (wqsF M n m b) n m b p u a := by
  rw [qP_L h, qL_wd (qP_lo h (Nat.le_refl n)) (qP_lo h (Nat.le_succ n)), wqs_qP h]
theorem io_s2 (hn : n ≤ 198) : (io (n + 2) - 2 : Int32) = io n := io_sub (p := n + 2) (q := 2) (by omega)
/-- from the note of quotes on -/
theorem R208_n (hV : Vr t M n) (hQ : Qt M n m b none) (hK : Kv M n) (hP : Pv M) (hn : n ≤ 198) (hm : m < 6) (hb : b < 5) (ha : inB a 1 100 = true) (hp : prB b p = true) (hu : prB b u = true)
    (q1 : qd M n m b a = true → Kr t (ok (-1) (mIw (qL M n m b p u a) 786 (io n)) n) Q)
    (q2 : qd M n m b a = false → Kr t (ok (io n) (qF2 (qR (qL (qX (wqsF M n m b) n m b) n m b p u a) n) n) (n + 2)) Q) :
    X 208 112 [.inr (.inr (12, (some 0))), .inl (io m), .inl (io b), .inl p, .inl u, .inl a, .inl g0, .inl h0, .inl (-1), sJk, sJk, sJk, sJk, sJk, sJk] [] t Q := by
  have hn1 : n < n + 2 := Nat.lt_succ_of_lt (Nat.lt_succ_self n)
  have hn2 : n + 1 < n + 2 := Nat.lt_succ_self (n + 1)
  refine r208_cn hV hb hm ?_
  refine v200 (s := true) hV hm hb (by omega) (fun t1 V1 c1 => ?_)
  refine sK_i (pc' := 188) rfl ?_
  refine r208_1n V1 hb hm (Nat.lt_succ_self n) ?_
  refine v200 (s := false) V1 hm hb (by omega) (fun t2 V2 c2 => ?_)
  refine sK_i (pc' := 203) rfl ?_
  have V3 : Vr t2 (qL M n m b p u a) (n + 2) := V2
  have e1 := q_nm (p := p) (u := u) hQ hK.2.1 hK.1.1 hP hm hb hn ha
  have e0 : qC M none = M := rfl
  rw [e0] at e1
  have e2 : wqsF M n m b = M := by rw [wqs_qP hQ]; exact wd_no (fun _ => rfl)
  clear V1 V2
  have hKw := hK
  rw [e2] at q2
  refine r208_2n V3 hb hm hn1 hn2 (fun hz => ?_) (fun hz => ?_)
  · rw [e1] at hz
    refine r208_4n V3 hb hm hn1 hn2 ?_
    exact r208_tl V3 hK hn hm hb ha hp hu (fun t' g1 g2 => q2 hz t' g1 (g2.trans (c2.trans c1)))
  · rw [e1] at hz
    refine q1 hz _ ?_ ((cp_I rfl).trans (c2.trans c1))
    rw [rp_I rfl, V3.1, io_s2 hn]
    rfl
theorem R208_q (hV : Vr t M n) (hQ : Qt M n m b (some q)) (hK : Kv M n) (hP : Pv M) (hn : n ≤ 198) (hm : m < 6) (hb : b < 5) (ha : inB a 1 100 = true) (hp : prB b p = true) (hu : prB b u = true)
    (q1 : qd M n m b a = true → Kr t (ok (-1) (mIw (qL M n m b p u a) 786 (io n)) n) Q)
    (q2 : qd M n m b a = false → Kr t (ok (io n) (qF2 (qR (qL (qX (wqsF M n m b) n m b) n m b p u a) n) n) (n + 2)) Q) :
    X 208 112 [.inr (.inr (12, (some 0))), .inl (io m), .inl (io b), .inl p, .inl u, .inl a, .inl g0, .inl h0, .inl (io q), sJk, sJk, sJk, sJk, sJk, sJk] [] t Q := by
  have hn1 : n < n + 2 := Nat.lt_succ_of_lt (Nat.lt_succ_self n)
  have hn2 : n + 1 < n + 2 := Nat.lt_succ_self (n + 1)
  have hq1 := (hQ.2.1 q rfl).1
  have hx : ¬ io q = -1 := ep_io1 (by omega)
  refine r208_cq hV hb hm hq1 (fun _ => ?_) (fun g => absurd g hx)
  have V0 : Vr (sAw (sAw t 21 19 q 3) 21 19 (q + 1) 3) (qC M (some q)) n := Vr_mk hV (by rw [rp_A rfl, rp_A rfl, hV.1]; rfl) (cp_A.trans cp_A) (Fr_A rfl (Fr_A rfl (Fr.refl M)))
  have c0 : cp (sAw (sAw t 21 19 q 3) 21 19 (q + 1) 3) = cp t := cp_A.trans cp_A
  generalize sAw (sAw t 21 19 q 3) 21 19 (q + 1) 3 = t0 at *
  refine v200 (s := true) V0 hm hb (by omega) (fun t1 V1 c1 => ?_)
  refine sK_i (pc' := 188) rfl ?_
  refine r208_1q V1 hb hm (Nat.lt_succ_self n) (by omega) ?_
  refine v200 (s := false) V1 hm hb (by omega) (fun t2 V2 c2 => ?_)
  refine sK_i (pc' := 203) rfl ?_
  have V3 : Vr t2 (qL (qC M (some q)) n m b p u a) (n + 2) := V2
  have e1 : nmF (qL (qC M (some q)) n m b p u a) (n + 2) m = qd M n m b a := q_nm hQ hK.2.1 hK.1.1 hP hm hb hn ha
  have e3 : mAw (mAw (qL (qC M (some q)) n m b p u a) 19 q (mA M 19 q)) 19 (q + 1) (mA M 19 (q + 1)) = qL M n m b p u a := qL_back hq1 rfl rfl
  have e4 : wdF (qL M n m b p u a) (qP (qL M n m b p u a) (some q)) = qL (wqsF M n m b) n m b p u a := qL_wqs hQ
  have hKw : Kv (wqsF M n m b) n := Kv_wqs hK n (Nat.le_refl n)
  clear V1 V2
  have V4 : Vr (sAw (sAw t2 21 19 q (mA M 19 q)) 21 19 (q + 1) (mA M 19 (q + 1))) (qL M n m b p u a) (n + 2) := by
    refine Vr_mk (M' := qL M n m b p u a) V3 (by rw [rp_A rfl, rp_A rfl, V3.1]; exact e3) (cp_A.trans cp_A) ?_
    rw [← e3]; exact Fr_A rfl (Fr_A rfl (Fr.refl _))
  refine r208_2q V3 hb hm hn1 hn2 (by omega) (fun g => absurd g hx) (fun g => absurd g hx) (fun _ hz => ?_) (fun _ hz => ?_)
  · rw [e1] at hz
    refine r208_wd V4 (by omega) hm hb (by omega) (fun t3 e V5 c3 => ?_)
    rw [e4] at V5
    exact r208_tl V5 hKw hn hm hb ha hp hu (fun t' g1 g2 => q2 hz t' g1 (g2.trans (c3.trans (cp_A.trans (cp_A.trans (c2.trans (c1.trans c0)))))))
  · rw [e1] at hz
    refine q1 hz _ ?_ ((cp_I rfl).trans (cp_A.trans (cp_A.trans (c2.trans (c1.trans c0)))))
    rw [rp_I rfl, V4.1, io_s2 hn]
    rfl
theorem R208 (hV : Vr t M n) (hK : Kv M n) (hP : Pv M) (hQ : ∀ m b, m < 6 → b < 5 → ∃ r, Qt M n m b r) (q : Kr t (sp97 M n p0 p1 p u a) Q) :
    X 208 0 [.inr (.inr (12, (some 0))), .inl p0, .inl p1, .inl p, .inl u, .inl a, sJk, sJk, sJk, sJk, sJk, sJk, sJk, sJk, sJk] [] t Q := by
  unfold sp97 at q
  cases e0 : ixo p0 6 with
  | none =>
    simp only [e0] at q
    have qe : Q (.inl (some (.inl 0))) (sIw t 768 0 1) := q _ (V_er hV) (cp_I rfl)
    cases e1 : ixo p1 5 with
    | none => exact r208_x01 hV e0 e1 qe
    | some b =>
      obtain ⟨hb, rfl⟩ := ixo_s e1
      exact r208_x0 hV e0 hb (fun _ _ => qe) (fun _ _ _ => qe) (fun _ _ _ => qe) (fun _ _ _ => qe) (fun _ _ _ _ => qe) (fun _ _ _ _ => qe) (fun _ _ _ _ => qe) (fun _ _ _ _ _ => qe) (fun _ _ _ _ _ => qe) (fun _ _ _ _ _ => qe) (fun _ _ _ _ _ _ => qe) (fun _ _ _ _ _ _ => qe) (fun _ _ _ _ _ => qe) (fun _ _ _ _ _ _ => qe) (fun _ _ _ _ _ _ => qe)
  | some m =>
    obtain ⟨hm, rfl⟩ := ixo_s e0
    simp only [e0] at q
    cases e1 : ixo p1 5 with
    | none =>
      simp only [e1] at q
      exact r208_x1 hV hm e1 (q _ (V_er hV) (cp_I rfl))
    | some b =>
      obtain ⟨hb, rfl⟩ := ixo_s e1
      simp only [e1] at q
      refine r208q hV hb hm (fun h1 => ?_) (fun h1 h2 => ?_) (fun h1 h2 => ?_)
      · rw [h1] at q; exact q _ (V_er hV) (cp_I rfl)
      · rw [h1, h2] at q; exact q _ (V_er hV) (cp_I rfl)
      · rw [h1, h2, cd_t, cd_t] at q
        have hn : n ≤ 198 := by unfold stQ at h2; simp at h2; exact h2.2.2
        have ho := h1
        unfold okQ at ho
        simp only [Bool.and_eq_true] at ho
        obtain ⟨ho1, ho2, -, ho3⟩ := ho
        have V1 : Vr (sIw t 768 0 0) (m0 M) n := V_768 hV
        have c1 : cp (sIw t 768 0 0) = cp t := cp_I rfl
        have hK1 := Kv_m0 hK
        have hP1 : Pv (m0 M) := Pv_cg rfl rfl hP
        obtain ⟨r, hr⟩ := hQ m b hm hb
        have hr1 : Qt (m0 M) n m b r := hr
        have eq1 : qd (m0 M) n m b a = qd M n m b a := by
          unfold qd
          have e2 : opL (m0 M) m (some b) n = opL M m (some b) n := opL_cg (M := M) (M' := m0 M) (n := n) (fun _ _ _ => rfl) (fun _ _ _ => rfl) n (Nat.le_refl n)
          have e3 : cfdF (m0 M) n m = cfdF M n m := rfl
          rw [e2, e3, cndG_cg (M := M) (M' := m0 M) rfl rfl]
        unfold qres at q
        rw [← eq1] at q
        generalize m0 M = Y at *
        refine r208_b V1 hb hm (by omega) ?_
        rw [hr1.1]
        have q1 : qd Y n m b a = true → Kr (sIw t 768 0 0) (ok (-1) (mIw (qL Y n m b p u a) 786 (io n)) n) Q := fun g t' g1 g2 => by
          rw [g] at q; exact q t' g1 (g2.trans c1)
        have q2 : qd Y n m b a = false → Kr (sIw t 768 0 0) (ok (io n) (qF2 (qR (qL (qX (wqsF Y n m b) n m b) n m b p u a) n) n) (n + 2)) Q := fun g t' g1 g2 => by
          rw [g] at q; exact q t' g1 (g2.trans c1)
        cases r with
        | none => exact R208_n V1 hr1 hK1 hP1 hn hm hb ho3 ho1 ho2 q1 q2
        | some k => exact R208_q V1 hr1 hK1 hP1 hn hm hb ho3 ho1 ho2 q1 q2
end S99m
