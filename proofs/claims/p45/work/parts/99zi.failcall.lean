/-! fail on both sides -/
section S99zi
variable {t t' t0 : sT} {M M' M0 N Y Z : sM} {n T A B b c m o k x K w v e i d R H C D : Nat} {p a h u p0 p1 : Int32} {s z : Bool} {L L' l V : List Nat} {f f2 : Nat → Nat} {g g2 : Nat → Int32} {y0 y1 : sV} {r : Option Nat} {Q : sRs → sT → Prop}
theorem W_451 {v : Int32} (hW : Wc t M n T L A B) : Wc (sIw t 451 x v) (mAw M 5 x v) n T L A B := W_np hW (Rl_I rfl hW.1) (np_I rfl) (rlC_fr hW.2.2.2.1 rfl rfl rfl rfl rfl rfl) (Fc_A rfl (Fc.refl M))
theorem w_end (hW : Wc t Z n T L A B) (hm : m < 6) (hS : Hs Z) (hc : 0 ≤ (mI Z 784).toInt) (q : ∀ t', Wc t' (clF (cnbF Z) n m) n T L A B → ep t' = ep t → X 101 97 [.inr (.inr (11, (some 0))), .inl (io m), .inr (.inr (7, (some m))), .inr (.inr (7, r))] [] t' Q)
    (h3 : X 54 0 [.inr (.inr (5, (some 0))), sJk, sJk, sJk, sJk] [] t (sK 54 101 86 [.inr (.inr (11, (some 0))), .inl (io m), .inr (.inr (7, (some m))), .inr (.inr (7, r))] [] Q) → X 101 82 [.inr (.inr (11, (some 0))), .inl (io m), .inr (.inr (7, (some m))), .inr (.inr (7, r))] [] t Q)
    (h4 : ∀ t', Wc t' (cnbF Z) n T L A B → X 23 0 [.inr (.inr (3, (some 0))), .inr (.inr (7, (some m))), sJk, sJk] [] t' (sK 23 101 94 [.inr (.inr (11, (some 0))), .inl (io m), .inr (.inr (7, (some m))), .inr (.inr (7, r))] [] Q) → X 101 89 [.inr (.inr (11, (some 0))), .inl (io m), .inr (.inr (7, (some m))), .inr (.inr (7, r))] [] t' Q) :
    X 101 82 [.inr (.inr (11, (some 0))), .inl (io m), .inr (.inr (7, (some m))), .inr (.inr (7, r))] [] t Q := by
  refine h3 (w54 hW (fun t1 W1 e1 => ?_))
  refine sK_v (pc' := 89) rfl ?_
  refine h4 t1 W1 (w23 W1 hm hS hc (fun t2 W2 e2 => ?_))
  refine sK_v (pc' := 97) rfl ?_
  exact q t2 W2 (e2.trans e1)
theorem aw_7 {q : Nat} {v : Int32} (h : ¬ 7 = q) : mA (mAw M q x v) 7 = mA M 7 := funext fun p => (show (if 7 = q ∧ p = x then v else mA M 7 p) = mA M 7 p from if_neg (fun z => h z.1))
theorem payF_7 : mA (payF M m k) 7 = mA M 7 := by
  unfold payF
  exact (aw_7 (by decide)).trans (aw_7 (by decide))
theorem payF_I {F : Nat} : mI (payF M m k) F = mI M F := rfl
theorem Hs_pay (h : Hs M) : Hs (payF (toL M m k 3) m k) := by
  have h1 : Hs (toL M m k 3) := Hs_eq (toL_A rfl 3) h
  generalize toL M m k 3 = Z at *
  exact Hs_eq payF_7 h1
theorem I_pay (h : 0 ≤ (mI M 784).toInt) : 0 ≤ (mI (payF (toL M m k 3) m k) 784).toInt := by
  have h1 : mI (toL M m k 3) 784 = mI M 784 := toL_I rfl 3
  generalize toL M m k 3 = Z at *
  rw [payF_I, h1]
  exact h
theorem C101 (hW : Wc t M n T L A B) (hF : ∀ m, m < 6 → mB M 2 m = false → Fo (waF_ (m0 M) n m) n m) (hT : T + 19 < 4096) (q : Kc t T A B 18 [0, 2] (sp101 M n p0) Q) :
    X 101 0 [.inr (.inr (11, (some 0))), .inl p0, sJk, sJk] [] t Q := by
  unfold sp101 at q
  cases e0 : ixo p0 6 with
  | none =>
    simp only [e0] at q
    exact n101_x0 hW e0 (q (sThr t) T L (W_er hW) ep_thr Tm)
  | some m =>
    obtain ⟨hm, rfl⟩ := ixo_s e0
    simp only [e0] at q
    refine n101 hW hm (fun h0 => ?_) (fun h0 h1 => ?_) (fun h0 h1 => ?_)
    · rw [if_pos h0] at q; exact q (sThr t) T L (W_er hW) ep_thr Tm
    · rw [cfd_fd, cmg_ma] at h1
      rw [if_neg (zf h0), if_neg h1] at q; exact q (sThr t) T L (W_er hW) ep_thr Tm
    · rw [cfd_fd, cmg_ma] at h1
      rw [if_neg (zf h0), if_pos h1] at q
      obtain ⟨f1, f2, f3⟩ := hF m hm h0
      refine w31 (W_ok hW) hm (fun t1 W1 e1 => ?_)
      refine sK_v (pc' := 49) rfl ?_
      refine n101_1 W1 hm (w15 W1 hm ?_)
      refine sK_i (pc' := 57) rfl ?_
      generalize waF_ (m0 M) n m = Y at *
      cases hr : tkrL Y n m 6 with
      | none =>
        rw [hr] at q
        refine n101_2n W1 hm (w19 W1 hm f1 hT (fun t2 T2 W2 l2 e2 => ?_))
        refine sK_v (pc' := 82) rfl ?_
        have hS : Hs (teA Y m 3) := Hs_eq (teA_A rfl 3) f2
        have hc : 0 ≤ (mI (teA Y m 3) 784).toInt := by rw [teA_I rfl]; exact f3
        have q2 : ∀ t', Wc t' (clF (cnbF (teA Y m 3)) n m) n T2 L (A + 2) (B + 12) → ep t' = ep t → Q (.inl (some (.inl (-1)))) t' := fun t' g1 g2 => q t' T2 L g1 g2 (by omega)
        generalize teA Y m 3 = Z at *
        exact w_end W2 hm hS hc (fun t3 W3 e3 => n101_5n W3 hm (q2 t3 W3 (e3.trans (e2.trans e1)))) (n101_3n W2 hm) (fun t3 W3 => n101_4n W3 hm)
      | some k =>
        rw [hr] at q
        have hk : k < 6 := tkrL_lt 6 k hr
        refine n101_2s W1 hm hk (n17_0 W1 hm hk ?_)
        refine w17_run (M := Y) hm hk 3 0 t1 T _ rfl W1 (by omega) (fun t2 T2 y2 W2 l2 e2 => ?_)
        have hS : Hs (payF (toL Y m k 3) m k) := Hs_pay f2
        have hc : 0 ≤ (mI (payF (toL Y m k 3) m k) 784).toInt := I_pay f3
        have q2 : ∀ t', Wc t' (clF (cnbF (payF (toL Y m k 3) m k)) n m) n T2 L (A + 2) (B + 12) → ep t' = ep t → Q (.inl (some (.inl (io k)))) t' := fun t' g1 g2 => q t' T2 L g1 g2 (by omega)
        generalize toL Y m k 3 = Z at *
        refine n17_e W2 hm hk ?_
        refine sK_v (pc' := 71) rfl ?_
        refine x_goto (pc' := 82) rfl rfl ?_
        have W3 := W_451 (x := k) (v := (mA (mAw Z 5 m ((mA Z 5 m) - (mA Z 9 k))) 5 k) + (mA Z 9 k)) (W_451 (x := m) (v := (mA Z 5 m) - (mA Z 9 k)) W2)
        have W4 : Wc (sIw (sIw t2 451 m ((mA Z 5 m) - (mA Z 9 k))) 451 k ((mA (mAw Z 5 m ((mA Z 5 m) - (mA Z 9 k))) 5 k) + (mA Z 9 k))) (payF Z m k) n T2 L (A + 2) (B + 12) := W3
        have E4 : ep (sIw (sIw t2 451 m ((mA Z 5 m) - (mA Z 9 k))) 451 k ((mA (mAw Z 5 m ((mA Z 5 m) - (mA Z 9 k))) 5 k) + (mA Z 9 k))) = ep t := ((ep_I rfl).trans (ep_I rfl)).trans (e2.trans e1)
        generalize payF Z m k = N at *
        exact w_end W4 hm hS hc (fun t3 W3 e3 => n101_5s W3 hm hk (q2 t3 W3 (e3.trans E4))) (n101_3s W4 hm hk) (fun t3 W3 => n101_4s W3 hm hk)
/-- the reference's end -/
theorem rp_en (h : rp t = M) : rp (sAw (sAw (sAw (sBw t 22 2 m true) 21 5 m 0) 21 4 m 0) 21 7 m 0) = enM M m := by
  rw [rp_A rfl, rp_A rfl, rp_A rfl, rp_B, h]; rfl
theorem cp_en : cp (sAw (sAw (sAw (sBw t 22 2 m true) 21 5 m 0) 21 4 m 0) 21 7 m 0) = cp t := by
  rw [cp_A, cp_A, cp_A, cp_B]
theorem rp_cnb (h : rp t = M) : rp (sBw (sBw (sBw (sBw (sBw (sBw t 22 1 0 false) 22 1 1 false) 22 1 2 false) 22 1 3 false) 22 1 4 false) 22 1 5 false) = cnbF M := by
  rw [rp_B, rp_B, rp_B, rp_B, rp_B, rp_B, h]; rfl
theorem cp_cnb : cp (sBw (sBw (sBw (sBw (sBw (sBw t 22 1 0 false) 22 1 1 false) 22 1 2 false) 22 1 3 false) 22 1 4 false) 22 1 5 false) = cp t := by
  rw [cp_B, cp_B, cp_B, cp_B, cp_B, cp_B]
end S99zi
