/-! uncross: the calls -/
section S99w
variable {t t' t0 : sT} {M M' M0 N Y Z R : sM} {n T A B b c m o k K w v e q j i d : Nat} {p a h u g p0 p1 : Int32} {s z : Bool} {L L' l : List Nat} {r r0 : Option Nat} {P P' : Nat → Bool} {y1 y2 y3 y4 : sV} {Q : sRs → sT → Prop}
def du (M : sM) (n : Nat) (Z : sM) : Nat := 2 * (dnN Z n - dnN M n)
noncomputable def d86 (M : sM) (n : Nat) (p0 : Int32) : Nat := match ixo p0 5 with
  | none => 0
  | some b => du M n (unZ (nqF (m0 M)) n b)
theorem rc_nq : rcN (nqF (m0 M)) n = rcN M n := by
  unfold rcN
  rw [nq_A (by decide)]; rfl
theorem dn_nq : dnN (nqF (m0 M)) n = dnN M n := by
  unfold dnN
  rw [nq_A (by decide)]; rfl
theorem un_K (hK : Kv Y n) (hT : mI (unZ Y n b) 801 = io T) (hT4 : T < 4096) : Kv (poF (unG (unS (unZ Y n b) n b) n b K p) n) n := by
  obtain ⟨f1, f2⟩ := un_facts (b := b) hK
  exact Kv_po (unG_K (Kv_un hK f1 f2 hT hT4))
theorem C86 (hW : Wc t M n T L A B) (hK : Kv M n) (hT : T + 2 * rcN M n < 4094) (q : Kc t T A B (d86 M n p0) [0, 2] (sp86 M n p0) Q) : X 86 0 [.inr (.inr (11, (some 0))), .inl p0, sJk, sJk] [] t Q := by
  unfold sp86 d86 at q
  cases e0 : ixo p0 5 with
  | none =>
    simp only [e0] at q
    exact n86_x0 hW e0 (q _ T L (W_er hW) ep_thr Tm)
  | some b =>
    obtain ⟨hb, rfl⟩ := ixo_s e0
    simp only [e0] at q
    have go : Kc t T A B (du M n (unZ (nqF (m0 M)) n b)) [0, 2] (ok (io (usz (nqF (m0 M)) n b)) (unR (nqF (m0 M)) n b) n) Q → X 52 0 [.inr (.inr (5, (some 0))), sJk, sJk, sJk, sJk] [] t (sK 52 86 34 [.inr (.inr (11, (some 0))), .inl (io b), .inr (.inr (1, (some b))), sJk] [] Q) := fun q => by
      refine w52 (W_ok hW) (fun t1 W1 ep1 => ?_)
      refine sK_v (pc' := 37) rfl ?_
      refine n86_1 W1 hb ?_
      have hKY : Kv (nqF (m0 M)) n := Kv_nq (Kv_m0 hK)
      have hTY : T + 2 * rcN (nqF (m0 M)) n < 4094 := by rw [rc_nq]; exact hT
      have hdn : dnN (nqF (m0 M)) n = dnN M n := dn_nq
      unfold du at q
      rw [← hdn] at q
      generalize nqF (m0 M) = Y at *
      refine w4 W1 hKY hb hTY (fun t2 T2 W2 hT2 ep2 => ?_)
      refine sK_i (pc' := 45) rfl ?_
      refine n86_2 W2 hb ?_
      obtain ⟨f1, f2⟩ := un_facts (b := b) hKY
      have hKG : Kv (unG (unS (unZ Y n b) n b) n b (usz Y n b) (auF Y n b)) n := by
        refine unG_K ?_
        refine Kv_un hKY f1 f2 (T := T2) ?_ (W_T W2)
        have e : mI (unG (unS (unZ Y n b) n b) n b (usz Y n b) (auF Y n b)) 801 = mI (unZ Y n b) 801 := by
          unfold unG
          split
          · cases decide (b < 3)
            · rw [cond_false, reF_eq]; rfl
            · rw [cond_true, mI_aw, reF_eq]; rfl
          · rfl
        rw [← e]; exact W_801 W2
      unfold unR at q
      generalize unG (unS (unZ Y n b) n b) n b (usz Y n b) (auF Y n b) = G at *
      refine w141 W2 hKG.2.2.1 (fun t3 W3 ep3 => ?_)
      refine sK_v (pc' := 50) rfl ?_
      refine n86_3 W3 hb ?_
      refine c37 W3.1 W3.2.1 W3.2.2.1 ?_
      refine sK_i (pc' := 58) rfl ?_
      refine n86_4 W3 hb ?_
      refine w140_f (f := n) W3 (Kv_po hKG) (wt0_n n) (W_n W3) (fun t4 T4 L4 W4 _ _ hT4 ep4 => ?_)
      refine sK_v (pc' := 61) rfl ?_
      refine n86_5 W4 hb ?_
      exact q t4 T4 L4 W4 (ep4.trans (ep3.trans (ep2.trans ep1))) (by omega)
    refine n86 hW hb (fun g => ?_) (fun g g2 => ?_) (fun g g2 => ?_)
    · rw [if_pos (Or.inl g)] at q; exact go q
    · rw [if_neg (fun z => z.elim g g2)] at q; exact q _ T L (W_er hW) ep_thr Tm
    · rw [if_pos (Or.inr g2)] at q; exact go q
theorem dn_rc (h : Uw M0 Z n b) : dnN Z n ≤ dnN M0 n + rcN M0 n := by
  have key : ∀ N, sumN (fun k => if mA Z 19 k = 2 then 1 else 0) N ≤ sumN (fun k => if mA M0 19 k = 2 then 1 else 0) N + sumN (fun k => if mA M0 19 k = 1 then 1 else 0) N := fun N => by
    induction N with
    | zero => exact Nat.le_refl 0
    | succ N ih =>
      have e1 : ∀ f : Nat → Nat, sumN f (N + 1) = sumN f N + f N := fun f => rfl
      rw [e1, e1, e1]
      have hk : (if mA Z 19 N = 2 then 1 else 0) ≤ (if mA M0 19 N = 2 then 1 else 0) + (if mA M0 19 N = 1 then 1 else 0) := by
        rcases h.2.2.2.2.2.1 N with e | ⟨e, e2⟩
        · rw [e]; omega
        · rw [e, e2]; decide
      omega
  exact key n
end S99w
