/-! what holds between the calls: kept by a quote -/
section S99zn
variable {t t' t0 : sT} {M M' M0 N Y Z R : sM} {n T A B b c m o k x K w e i j d H C D : Nat} {p a h u p0 p1 : Int32} {s z : Bool} {L L' l : List Nat} {V : List Nat} {v : Int32} {P : Nat → Bool}
theorem qR_A {q : Nat} (hq : ¬ q = 19) : mA (qR Z n) q = mA Z q := funext fun k => by
  have := congrFun (qR_q (Z := Z) (n := n) hq) k
  exact this
theorem qR_19 (h1 : ¬ k = n) (h2 : ¬ k = n + 1) : mA (qR Z n) 19 k = mA Z 19 k := by
  show (if 19 = 19 ∧ k = n + 1 then (4 : Int32) else if 19 = 19 ∧ k = n then 4 else mA Z 19 k) = mA Z 19 k
  rw [if_neg (fun z => h2 z.2), if_neg (fun z => h1 z.2)]
theorem qR_4 (h1 : ¬ k = n) (h2 : ¬ k = n + 1) : mB (qR Z n) 4 k = mB Z 4 k := by
  show (if 4 = 4 ∧ k = n + 1 then true else if 4 = 4 ∧ k = n then true else mB Z 4 k) = mB Z 4 k
  rw [if_neg (fun z => h2 z.2), if_neg (fun z => h1 z.2)]
theorem qR_4n (h : k = n ∨ k = n + 1) : mB (qR Z n) 4 k = true := by
  show (if 4 = 4 ∧ k = n + 1 then true else if 4 = 4 ∧ k = n then true else mB Z 4 k) = true
  by_cases h1 : k = n + 1
  · rw [if_pos ⟨rfl, h1⟩]
  · rw [if_neg (fun z => h1 z.2), if_pos ⟨rfl, by omega⟩]
theorem qR_I : mI (qR Z n) = mI Z := rfl
/-- a quote that comes: what holds beside the orders -/
theorem Ha_qR (hW : Hv N n e) (hd : ∀ k, k < n → mB N 4 k = true → oM N k = m → oB N k = b → (mA N 19 k = 0 ∨ mA N 19 k = 1 ∨ mA N 19 k = 4) → False) (hm : m < 6) (hb : b < 5) :
    Ha (qR (qL (qX N n m b) n m b p u a) n) (n + 2) e ∧ (∀ k, k < n → mA (qR (qL (qX N n m b) n m b p u a) n) 19 k = mA N 19 k) ∧ mI (qR (qL (qX N n m b) n m b p u a) n) 801 = mI N 801 ∧ mB (qR (qL (qX N n m b) n m b p u a) n) 2 = mB N 2 := by
  have xA : ∀ q, ¬ q = 10 → ¬ q = 26 → mA (qX N n m b) q = mA N q := fun q h1 h2 => by
    unfold qX
    rw [aw_f h1, nq_A h2]
  have x10 : ∀ k, mA (qX N n m b) 10 k = if k = (5 * m) + b then io n else mA N 10 k := fun k => by
    unfold qX
    rw [aw_cell, nq_A (by decide)]
    by_cases e1 : k = (5 * m) + b
    · rw [if_pos ⟨rfl, e1⟩, if_pos e1]
    · rw [if_neg (fun z => e1 z.2), if_neg e1]
  have xB : mB (qX N n m b) = mB N := rfl
  have xI : mI (qX N n m b) = mI N := rfl
  have rA : ∀ q k, (q < 12 ∨ 20 < q ∨ k < n) → ¬ q = 19 → ¬ q = 10 → ¬ q = 26 → mA (qR (qL (qX N n m b) n m b p u a) n) q k = mA N q k := fun q k h1 h2 h3 h4 => by
    rw [qR_A h2, qL_A (by omega), xA q h3 h4]
  have r10 : ∀ k, mA (qR (qL (qX N n m b) n m b p u a) n) 10 k = if k = (5 * m) + b then io n else mA N 10 k := fun k => by
    rw [qR_A (by decide), qL_A (by omega), x10]
  have r19 : ∀ k, k < n → mA (qR (qL (qX N n m b) n m b p u a) n) 19 k = mA N 19 k := fun k hk => by
    rw [qR_19 (by omega) (by omega), qL_A (by omega), xA 19 (by decide) (by decide)]
  have r4 : ∀ k, k < n → mB (qR (qL (qX N n m b) n m b p u a) n) 4 k = mB N 4 k := fun k hk => by
    rw [qR_4 (by omega) (by omega), qL_B (by omega), xB]
  have rB : ∀ q k, ¬ q = 4 → (q < 3 ∨ 6 < q) → mB (qR (qL (qX N n m b) n m b p u a) n) q k = mB N q k := fun q k h1 h2 => by
    rw [qR_B h1, qL_B (by omega), xB]
  have rI : ∀ F, ¬ F = 786 → mI (qR (qL (qX N n m b) n m b p u a) n) F = mI N F := fun F h => by
    rw [qR_I, qL_I h, xI]
  have rMn : ∀ k, k = n ∨ k = n + 1 → oM (qR (qL (qX N n m b) n m b p u a) n) k = m ∧ oB (qR (qL (qX N n m b) n m b p u a) n) k = b := fun k hk => by
    have e12 : mA (qR (qL (qX N n m b) n m b p u a) n) 12 k = io m ∧ mA (qR (qL (qX N n m b) n m b p u a) n) 13 k = io b := by
      rw [qR_A (by decide), qR_A (by decide)]
      unfold qL
      rcases hk with hk | hk
      · rw [hk]
        exact ⟨(lay_eA (by omega)).trans lay_12, (lay_eA (by omega)).trans lay_13⟩
      · rw [hk]
        exact ⟨lay_12, lay_13⟩
    unfold oM oB
    rw [e12.1, e12.2]
    exact ⟨nn_io (by omega), nn_io (by omega)⟩
  obtain ⟨hK, ⟨g1, g2, g3, g4, g5⟩, hn4, hbd⟩ := hW
  have r4n : ∀ k, k = n ∨ k = n + 1 → mB (qR (qL (qX N n m b) n m b p u a) n) 4 k = true := fun k hk => qR_4n hk
  generalize qR (qL (qX N n m b) n m b p u a) n = R at *
  have eM : ∀ k, k < n → oM R k = oM N k := fun k hk => by unfold oM; rw [rA 12 k (by omega) (by decide) (by decide) (by decide)]
  have eB : ∀ k, k < n → oB R k = oB N k := fun k hk => by unfold oB; rw [rA 13 k (by omega) (by decide) (by decide) (by decide)]
  have fA : ∀ q, (q < 12 ∨ 20 < q) → ¬ q = 10 → ¬ q = 26 → mA R q = mA N q := fun q h1 h2 h3 => funext fun k => rA q k (by omega) (by omega) h2 h3
  have fB : mB R 2 = mB N 2 := funext fun k => rB 2 k (by decide) (by decide)
  refine ⟨⟨fun m' b' hm' hb' => ?_, Hs_eq (fA 7 (by decide) (by decide) (by decide)) g2, by rw [rI 784 (by decide)]; exact g3, fun q hq => by rw [fA 11 (by decide) (by decide) (by decide)]; exact g4 q hq, Pt_cg g5 (fA 6 (by decide) (by decide) (by decide)) (fA 22 (by decide) (by decide) (by decide)) (fA 23 (by decide) (by decide) (by decide)) (fA 25 (by decide) (by decide) (by decide)) fB (rI 801 (by decide))⟩, r19, rI 801 (by decide), fB⟩
  by_cases hmb : m' = m ∧ b' = b
  · obtain ⟨rfl, rfl⟩ := hmb
    refine ⟨some n, by rw [r10, if_pos rfl]; rfl, fun q hq => ?_, fun k hk c1 c2 c3 c4 => ?_⟩
    · have e1 : n = q := Option.some.inj hq
      subst e1
      exact ⟨Nat.lt_succ_self _, fun k hk => ⟨r4n k hk, rMn k hk⟩⟩
    · by_cases h1 : k < n
      · exfalso
        rw [r4 k h1] at c1
        rw [eM k h1] at c2
        rw [eB k h1] at c3
        rw [r19 k h1] at c4
        exact hd k h1 c1 c2 c3 c4
      · exact ⟨n, rfl, by omega⟩
  · obtain ⟨r, h1, h2, h3⟩ := g1 m' b' hm' hb'
    refine ⟨r, ?_, fun q hq => ?_, fun k hk c1 c2 c3 c4 => ?_⟩
    · rw [r10, if_neg (fun z => hmb (by omega))]; exact h1
    · obtain ⟨a1, a2⟩ := h2 q hq
      refine ⟨by omega, fun k hk => ?_⟩
      have hk2 : k < n := by omega
      rw [r4 k hk2, eM k hk2, eB k hk2]
      exact a2 k hk
    · by_cases hk2 : k < n
      · rw [r4 k hk2] at c1
        rw [eM k hk2] at c2
        rw [eB k hk2] at c3
        rw [r19 k hk2] at c4
        exact h3 k hk2 c1 c2 c3 c4
      · exfalso
        obtain ⟨d1, d2⟩ := rMn k (by omega)
        exact hmb ⟨c2.symm.trans d1, c3.symm.trans d2⟩
/-- both come -/
theorem Hv_qF2 (hA : Ha R (n + 2) e) (he : e ≤ 600) (hK : Kv R (n + 2)) (hK1 : Kv (mIw R 786 (io (n + 1))) (n + 1)) (h4 : mA R 19 n = 4) (h5 : mA R 19 (n + 1) = 4) (hn4 : ∀ k, k < n → ¬ mA R 19 k = 4) (hbd : tN R ≤ 1899 + 2 * dnN R (n + 2) + 18 * ouN R) : Hv (qF2 R n) (n + 2) e := by
  have ho1 : n < n + 2 := by omega
  obtain ⟨d1, z1, G1⟩ := com_D hK ho1 (Or.inr h4)
  have k1 := (com_all hK ho1 (Or.inr h4)).1
  have t1 := com_t hK ho1 (Or.inr h4)
  obtain ⟨d2, G2, t2⟩ := fol_D (n + 2) (comF R (n + 2) n) k1
  have k2 := fol_K (n + 2) (comF R (n + 2) n) k1
  have hU := (q_half (f := n + 2) hK hK1 h4 h5).2.1
  have h6 : mA (qF1 R n) 19 (n + 1) = 4 := (hU.1 19 (by decide) (by decide)).trans h5
  have dd : Dd (qF1 R n) R (n + 2) := d2.trans d1
  have GG : Gk (qF1 R n) R := G2.trans G1
  have kk : Kv (qF1 R n) (n + 2) := k2
  have tt : tN (qF1 R n) ≤ max (tN R) 1899 := by
    have e1 : tN (qF1 R n) = tN (folF (n + 2) (n + 2) (comF R (n + 2) n)) := rfl
    omega
  have zz : ¬ mA (qF1 R n) 19 n = 4 := fun g => by
    have g2 := (d2 n ho1).2 g
    rcases z1 with z | z | z <;> rw [z] at g2 <;> exact absurd g2 (by decide)
  clear hU d2 G2 t2 k2 d1 G1 t1 k1 z1
  have e2 : qF2 R n = folF (n + 2) (n + 2) (comF (qF1 R n) (n + 2) (n + 1)) := rfl
  rw [e2]
  generalize qF1 R n = F1 at *
  obtain ⟨d3, z3, G3⟩ := com_D kk (Nat.lt_succ_self (n + 1)) (Or.inr h6)
  have k3 := (com_all kk (Nat.lt_succ_self (n + 1)) (Or.inr h6)).1
  have t3 := com_t kk (Nat.lt_succ_self (n + 1)) (Or.inr h6)
  obtain ⟨d4, G4, t4⟩ := fol_D (n + 2) (comF F1 (n + 2) (n + 1)) k3
  have k4 := fol_K (n + 2) (comF F1 (n + 2) (n + 1)) k3
  refine Hv_go hA he k4 ((d4.trans d3).trans dd) ((G4.trans G3).trans GG) (fun k hk g => ?_) hbd (by omega)
  have g2 := (d4 k hk).2 g
  by_cases e1 : k = n + 1
  · rw [e1] at g2
    rcases z3 with z | z | z <;> rw [z] at g2 <;> exact absurd g2 (by decide)
  · have g3 := (d3 k hk).2 g2
    by_cases e3 : k = n
    · rw [e3] at g3; exact zz g3
    · exact hn4 k (by omega) ((dd k hk).2 g3)
theorem Hr_cond {r1 r2 : Rs4} {z : Bool} (h1 : Hr r1 e) (h2 : Hr r2 e) : Hr (bif z then r1 else r2) e := by
  cases z
  · exact h2
  · exact h1
theorem Hv_qt (HW : Hv N n e) (he : e ≤ 600) (hn : n ≤ 198) (hm : m < 6) (hb : b < 5) (ho3 : inB a 1 100 = true) (ho1 : prB b p = true) (ho2 : prB b u = true) (hdead : ∀ k, k < n → mB N 4 k = true → oM N k = m → oB N k = b → (mA N 19 k = 0 ∨ mA N 19 k = 1 ∨ mA N 19 k = 4) → False) :
    Hv (qF2 (qR (qL (qX N n m b) n m b p u a) n) n) (n + 2) e := by
  obtain ⟨a1, r19, rT, rB⟩ := Ha_qR (p := p) (u := u) (a := a) HW hdead hm hb
  obtain ⟨-, b2, b3, b4, b5, -, -, -⟩ := q_all (u := u) (p := p) (a := a) (Kv_X (m := m) (b := b) HW.1) hn hm hb ho3 ho1 ho2
  generalize qR (qL (qX N n m b) n m b p u a) n = R at *
  refine Hv_qF2 a1 he b2 b3 b4 b5 (fun k hk => by rw [r19 k hk]; exact HW.2.2.1 k hk) ?_
  have e2 : tN R = tN N := by unfold tN; rw [rT]
  have e3 : ouN R = ouN N := by unfold ouN; rw [rB]
  have e4 : dnN N n ≤ dnN R n := dn_mono (fun k hk g => by rw [r19 k hk]; exact g)
  have e5 : dnN R (n + 2) = dnN R n + (if mA R 19 n = 2 then 1 else 0) + (if mA R 19 (n + 1) = 2 then 1 else 0) := rfl
  have := HW.2.2.2
  rw [e2, e3]
  omega
theorem Hr_qres (hv : Hv M n e) (he : e ≤ 600) (hn : n ≤ 198) (hm : m < 6) (hb : b < 5) (ho3 : inB a 1 100 = true) (ho1 : prB b p = true) (ho2 : prB b u = true) : Hr (qres M n m b p u a) e := by
  unfold qres
  refine Hr_cond (Hr_ok (Hv_ag (Hv_m0 hv) (qL_ag (Hv_m0 hv).1.2.1))) (Hr_ok ?_)
  have HW : Hv (wqsF (m0 M) n m b) n e := Hv_wqs (Hv_m0 hv) he
  have hdead : ∀ k, k < n → mB (wqsF (m0 M) n m b) 4 k = true → oM (wqsF (m0 M) n m b) k = m → oB (wqsF (m0 M) n m b) k = b → (mA (wqsF (m0 M) n m b) 19 k = 0 ∨ mA (wqsF (m0 M) n m b) 19 k = 1 ∨ mA (wqsF (m0 M) n m b) 19 k = 4) → False := fun k hk c1 c2 c3 c4 => wqs_dead hk c1 c2 c3 ((Hv_m0 hv).2.2.1 k hk) c4
  generalize wqsF (m0 M) n m b = N at *
  exact Hv_qt HW he hn hm hb ho3 ho1 ho2 hdead
theorem H97 (hv : Hv M n e) (he : e ≤ 600) : Hr (sp97 M n p0 p1 p u a) e := by
  unfold sp97
  split
  · exact Hv_768 hv
  · rename_i m e0
    obtain ⟨hm, rfl⟩ := ixo_s e0
    split
    · exact Hv_768 hv
    · rename_i b e1
      obtain ⟨hb, rfl⟩ := ixo_s e1
      cases h1 : okQ b p u a with
      | false => exact Hv_768 hv
      | true =>
        cases h2 : stQ M n m b with
        | false => exact Hv_768 hv
        | true =>
          have hn : n ≤ 198 := by unfold stQ at h2; simp at h2; exact h2.2.2
          have ho := h1
          unfold okQ at ho
          simp only [Bool.and_eq_true] at ho
          obtain ⟨ho1, ho2, -, ho3⟩ := ho
          rw [cond_true, cond_true]
          exact Hr_qres hv he hn hm hb ho3 ho1 ho2
end S99zn
