/-! an order comes: the reference; the class's settling -/
section S77
variable {t t' t0 : sT} {M M' M0 N : sM} {n T A B b c m o k x y K w f v : Nat} {p a d sz : Int32} {s z : Bool} {L L' l : List Nat} {V : TV} {y0 y1 y2 : sV} {Q : sRs → sT → Prop}
/-- what becomes of the rest of an order -/
def seF (N : sM) (o : Nat) : sM := bif decide (0 < mA N 15 o) then (bif mB N 5 o then cnF N o else rsF N o) else N
noncomputable def mtR (M : sM) (n o : Nat) : sM := bif decide (mA M 0 (oB M o) = 2) then mtF n o 305 (mAw M 19 o 4) else mAw M 19 o 4
noncomputable def comF (M : sM) (n o : Nat) : sM := poF (seF (finF (mtR M n o) o) o) n
theorem lf_4 : lfN (mAw M 19 o 4) k = lfN M k := rfl
theorem w4_19 : mA (mAw M 19 o a) 19 o = a := if_pos ⟨rfl, rfl⟩
theorem Jv_4 (h : Jv M n) (ho : o < n) (hs : mA M 19 o = 0 ∨ mA M 19 o = 4) : Jv (mAw M 19 o 4) n := by
  obtain ⟨e, f, h1, h2, h3, h4, h5, h6, h7⟩ := h.1.1 o ho
  refine ⟨?_, Sd_mono h.2 (fun k h1 => ?_)⟩
  · refine Iv_up h.1 ho (show mI (mAw M 19 o 4) 800 = io (stN M) from h.1.2.1) (Nat.le_refl _) (fun k _ hn => ⟨rfl, rfl, rfl, aw_o (M := M) (B := 19) (v := 4) hn⟩) rfl rfl rfl ?_ ?_
    · rw [w4_19]
      exact ⟨e, f, h1, h2, h3, h4, h5, h6, fun q => absurd q (by decide)⟩
    · rw [w4_19]
      have e1 : wtN (mA M 19 o) = 1 := by
        rcases hs with g | g <;> rw [g] <;> rfl
      rw [e1]
      show stN M + (lfN M o + 1) ≤ _
      omega
  · by_cases e : k = o
    · rw [e, w4_19] at h1; exact absurd h1 (by decide)
    · rw [aw_o (M := M) (B := 19) (v := 4) e] at h1; exact ⟨h1, rfl⟩
/-! the class -/
theorem W_17 (hW : Wc t M n T L A B) (ho : o < n) (hs : ¬ mA M 19 o = 1) : mA M 17 o = 0 := (hW.1.2.2.2.2 o ho).trans (if_neg hs)
theorem st17 (h : mA M 17 o = 0) : mAw (mAw M 19 o a) 17 o 0 = mAw M 19 o a := by
  refine Prod.ext (funext fun q => funext fun r => ?_) rfl
  show (if q = 17 ∧ r = o then 0 else if q = 19 ∧ r = o then a else mA M q r) = if q = 19 ∧ r = o then a else mA M q r
  by_cases e : q = 17 ∧ r = o
  · rw [if_pos e, if_neg (fun z => by have := e.1.symm.trans z.1; cases this), e.1, e.2]
    exact h.symm
  · rw [if_neg e]
theorem W_st (hW : Wc t M n T L A B) (hs : ¬ mA M 19 o = 1) (ha : ¬ a = 1) : Wc (sIw t 522 o a) (mAw (mAw M 19 o a) 17 o 0) n T L A B :=
  W_np hW (Rl_st ha hW.1) (np_I rfl) (rlC_st hW.2.2.2.1 hs ha) (Fc_A rfl (Fc_A rfl (Fc.refl M)))
theorem Fc_rsF' : Fc (rsF M o) M := Fc_I rfl (Fc_A rfl (Fc_A rfl (Fc_A rfl (Fc.refl M))))
theorem w29 (hW : Wc t N n T L A B) (hJ : Jv N n) (ho : o < n) (h19 : mA N 19 o = 4)
    (q : ∀ t', Wc t' (seF (finF N o) o) n T L A B → ep t' = ep t → Q (.inl none) t') :
    X 29 0 [.inr (.inr (4, (some 0))), .inr (.inr (8, (some o)))] [] t Q := by
  have hlf := Iv_lf hJ.1 ho
  have hs1 : ¬ mA N 19 o = 1 := by rw [h19]; decide
  have hst := Iv_st hJ.1
  refine n29_0 hW ho (fun h1 h2 => ?_) (fun h1 h2 => ?_) (fun h1 => ?_)
  · have hp : 0 < mA N 15 o := by
      rw [hlf.1] at h1 ⊢
      refine (io_pos (by omega)).mpr ?_
      rcases Nat.eq_zero_or_pos (lfN N o) with e | e
      · rw [e] at h1; exact absurd rfl h1
      · exact e
    rw [fin_no h1] at q
    unfold seF at q
    rw [decide_eq_true hp, h2] at q
    refine c28 hW.1 hW.2.1 hW.2.2.1 ho (rlC_away hW.2.2.2.1 hs1) hJ.1.2.2.2.2.1 ((Iv_Sq hJ.1).sp (by omega)) (fun t1 g1 g2 g3 => ?_)
    refine sK_v (pc' := 35) rfl ?_
    exact n29_35 (q t1 (W_np hW g1 g2 g3 Fc_rsF') (ep_np g2))
  · have hp : 0 < mA N 15 o := by
      rw [hlf.1] at h1 ⊢
      refine (io_pos (by omega)).mpr ?_
      rcases Nat.eq_zero_or_pos (lfN N o) with e | e
      · rw [e] at h1; exact absurd rfl h1
      · exact e
    rw [fin_no h1] at q
    unfold seF at q
    rw [decide_eq_true hp, h2] at q
    exact q _ (W_st hW hs1 (by decide)) (ep_I rfl)
  · have e : seF (finF N o) o = mAw (mAw N 19 o 2) 17 o 0 := by
      have e1 : finF N o = mAw (mAw N 19 o 2) 17 o 0 := by unfold finF; rw [decide_eq_true h1]; rfl
      rw [e1]
      unfold seF
      have e2 : mA (mAw (mAw N 19 o 2) 17 o 0) 15 o = 0 := h1
      rw [e2]
      rfl
    rw [e] at q
    exact q _ (W_st hW hs1 (by decide)) (ep_I rfl)
end S77
