/-! an order comes: the reference; the class's settling -/
section S77
variable {t t' t0 : sT} {M M' M0 N : sM} {n T A B b c m o k x y K w f v : Nat} {p a d sz : Int32} {s z : Bool} {L L' l : List Nat} {V : TV} {y0 y1 y2 : sV} {Q : sRs → sT → Prop}
/-- what becomes of the rest of an order -/
def seF (N : sM) (o : Nat) : sM := bif decide (0 < mA N 15 o) then (bif mB N 5 o then cnF N o else rsF N o) else N
noncomputable def mtR (M : sM) (n o : Nat) : sM := bif decide (mA M 0 (oB M o) = 2) then mtF n o 305 (mAw M 19 o 4) else mAw M 19 o 4
noncomputable def comF (M : sM) (n o : Nat) : sM := poF (seF (finF (mtR M n o) o) o) n
theorem lf_4 : lfN (mAw M 19 o 4) k = lfN M k := rfl
theorem w4_19 : mA (mAw M 19 o a) 19 o = a := if_pos ⟨rfl, rfl⟩
theorem Jv_4 (h : Jv M n) (ho : o < n) (hs : mA M 19 o = 0 ∨ mA M 19 o = 4) : Jv (mAw M 19 o 4) n := by
  obtain ⟨e, f, h1, h2, h3, h4, h5, h6, h7⟩ := h.1.1 o ho
  refine ⟨?_, Sd_mono h.2 (fun k h1 => ?_)⟩
  · refine Iv_up h.1 ho (show mI (mAw M 19 o 4) 800 = io (stN M) from h.1.2.1) (Nat.le_refl _) (fun k _ hn => ⟨rfl, rfl, rfl, aw_o (M := M) (B := 19) (v := 4) hn⟩) rfl rfl rfl ?_ ?_
    · rw [w4_19]
      exact ⟨e, f, h1, h2, h3, h4, h5, h6, fun q => absurd q (by decide)⟩
    · rw [w4_19]
      have e1 : wtN (mA M 19 o) = 1 := by
        rcases hs with g | g <;> rw [g] <;> rfl
      rw [e1]
      show stN M + (lfN M o + 1) ≤ _
      omega
  · by_cases e : k = o
    · rw [e, w4_19] at h1; exact absurd h1 (by decide)
    · rw [aw_o (M := M) (B := 19) (v := 4) e] at h1; exact ⟨h1, rfl⟩
theorem v176_60 (ho : o < n) (hV : Vr t N n) (q : ∀ t', Vr t' (poF (seF N o) n) n → cp t' = cp t → Q (.inl none) t') :
    X 176 60 [.inr (.inr (12, (some 0))), .inl (io o), y0] [] t Q := by
  unfold seF at q
  have tail : ∀ N' t1, Vr t1 N' n → cp t1 = cp t → (∀ t', Vr t' (poF N' n) n → cp t' = cp t → Q (.inl none) t') → X 177 0 [.inr (.inr (12, (some 0))), sJk, sJk, sJk] [] t1 (sK 177 176 101 [.inr (.inr (12, (some 0))), .inl (io o), y0] [] Q) := fun N' t1 h1 c1 q1 => by
    refine v177 h1 (fun t2 h2 c2 _ => ?_)
    refine sK_v (pc' := 104) rfl ?_
    exact r176_104 h2.1 h2.2.1 h2.2.2 ho (q1 t2 h2 (c2.trans c1))
  refine r176_60 hV.1 hV.2.1 hV.2.2 ho (fun h => ?_) (fun h1 h2 => ?_) (fun h1 h2 => ?_)
  · rw [decide_eq_false h] at q
    exact tail N t hV rfl q
  · rw [decide_eq_true h1, h2] at q
    refine v154 hV ho (fun t1 g1 c1 _ => ?_)
    refine sK_v (pc' := 100) rfl ?_
    exact r176_100 g1.1 g1.2.1 g1.2.2 ho (tail _ t1 g1 c1 q)
  · rw [decide_eq_true h1, h2] at q
    refine v156 hV ho (fun t1 g1 c1 _ => ?_)
    refine sK_v (pc' := 83) rfl ?_
    exact r176_83 g1.1 g1.2.1 g1.2.2 ho (tail _ t1 g1 c1 q)
/-- the reference: an order comes -/
theorem v176 (hV : Vr t M n) (hJ : Jv M n) (ho : o < n) (hs : mA M 19 o = 0 ∨ mA M 19 o = 4) (hl1 : 1 ≤ lfN M o) (hT : mI M 801 = io T) (hT4 : T < 4096)
    (q : ∀ t', Vr t' (comF M n o) n → cp t' = cp t → Q (.inl none) t') :
    X 176 0 [.inr (.inr (12, (some 0))), .inl (io o), sJk] [] t Q := by
  have hlf := Iv_lf hJ.1 ho
  have hnz : ¬ mA (mAw M 19 o 4) 15 o = 0 := by
    show ¬ mA M 15 o = 0
    rw [hlf.1]
    exact pos_ne0 ((io_pos (by omega)).mpr hl1)
  have hV1 : Vr (sAw t 21 19 o 4) (mAw M 19 o 4) n := Vr_mk hV (by rw [rp_A rfl, hV.1]) cp_A (Fr_A rfl (Fr.refl M))
  have hc1 : cp (sAw t 21 19 o 4) = cp t := cp_A
  refine r176_0 hV.1 hV.2.1 hV.2.2 ho ?_
  unfold comF mtR at q
  cases hp : decide (mA M 0 (oB M o) = 2) with
  | false =>
    rw [hp] at q
    refine r176_28f hV1.1 hV1.2.1 hV1.2.2 ho ?_
    refine v176_60 ho hV1 (fun t1 g1 c1 => q t1 ?_ (c1.trans hc1))
    have e : finF (mAw M 19 o 4) o = mAw M 19 o 4 := fin_no hnz
    show Vr t1 (poF (seF (finF (mAw M 19 o 4) o) o) n) n
    rw [e]; exact g1
  | true =>
    rw [hp] at q
    have hJ1 := Jv_4 hJ ho hs
    refine v176_28 ho 305 (mAw M 19 o 4) _ T (by rw [fin_no hnz]; exact hV1) hJ1 w4_19 (mu_b hlf.2 hJ.1.2.2.2.2.2) hT hT4 (fun t1 y0 h1 c1 => ?_)
    exact v176_60 ho h1 (fun t2 g1 c2 => q t2 g1 (c2.trans (c1.trans hc1)))
/-! the class -/
theorem W_17 (hW : Wc t M n T L A B) (ho : o < n) (hs : ¬ mA M 19 o = 1) : mA M 17 o = 0 := (hW.1.2.2.2.2 o ho).trans (if_neg hs)
theorem st17 (h : mA M 17 o = 0) : mAw (mAw M 19 o a) 17 o 0 = mAw M 19 o a := by
  refine Prod.ext (funext fun q => funext fun r => ?_) rfl
  show (if q = 17 ∧ r = o then 0 else if q = 19 ∧ r = o then a else mA M q r) = if q = 19 ∧ r = o then a else mA M q r
  by_cases e : q = 17 ∧ r = o
  · rw [if_pos e, if_neg (fun z => by have := e.1.symm.trans z.1; cases this), e.1, e.2]
    exact h.symm
  · rw [if_neg e]
theorem W_st (hW : Wc t M n T L A B) (hs : ¬ mA M 19 o = 1) (ha : ¬ a = 1) : Wc (sIw t 522 o a) (mAw (mAw M 19 o a) 17 o 0) n T L A B :=
  W_np hW (Rl_st ha hW.1) (np_I rfl) (rlC_st hW.2.2.2.1 hs ha) (Fc_A rfl (Fc_A rfl (Fc.refl M)))
theorem Fc_rsF' : Fc (rsF M o) M := Fc_I rfl (Fc_A rfl (Fc_A rfl (Fc_A rfl (Fc.refl M))))
theorem w29 (hW : Wc t N n T L A B) (hJ : Jv N n) (ho : o < n) (h19 : mA N 19 o = 4)
    (q : ∀ t', Wc t' (seF (finF N o) o) n T L A B → ep t' = ep t → Q (.inl none) t') :
    X 29 0 [.inr (.inr (4, (some 0))), .inr (.inr (8, (some o)))] [] t Q := by
  have hlf := Iv_lf hJ.1 ho
  have hs1 : ¬ mA N 19 o = 1 := by rw [h19]; decide
  have hst := Iv_st hJ.1
  refine n29_0 hW ho (fun h1 h2 => ?_) (fun h1 h2 => ?_) (fun h1 => ?_)
  · have hp : 0 < mA N 15 o := by
      rw [hlf.1] at h1 ⊢
      refine (io_pos (by omega)).mpr ?_
      rcases Nat.eq_zero_or_pos (lfN N o) with e | e
      · rw [e] at h1; exact absurd rfl h1
      · exact e
    rw [fin_no h1] at q
    unfold seF at q
    rw [decide_eq_true hp, h2] at q
    refine c28 hW.1 hW.2.1 hW.2.2.1 ho (rlC_away hW.2.2.2.1 hs1) hJ.1.2.2.2.2.1 ((Iv_Sq hJ.1).sp (by omega)) (fun t1 g1 g2 g3 => ?_)
    refine sK_v (pc' := 35) rfl ?_
    exact n29_35 (q t1 (W_np hW g1 g2 g3 Fc_rsF') (ep_np g2))
  · have hp : 0 < mA N 15 o := by
      rw [hlf.1] at h1 ⊢
      refine (io_pos (by omega)).mpr ?_
      rcases Nat.eq_zero_or_pos (lfN N o) with e | e
      · rw [e] at h1; exact absurd rfl h1
      · exact e
    rw [fin_no h1] at q
    unfold seF at q
    rw [decide_eq_true hp, h2] at q
    exact q _ (W_st hW hs1 (by decide)) (ep_I rfl)
  · have e : seF (finF N o) o = mAw (mAw N 19 o 2) 17 o 0 := by
      have e1 : finF N o = mAw (mAw N 19 o 2) 17 o 0 := by unfold finF; rw [decide_eq_true h1]; rfl
      rw [e1]
      unfold seF
      have e2 : mA (mAw (mAw N 19 o 2) 17 o 0) 15 o = 0 := h1
      rw [e2]
      rfl
    rw [e] at q
    exact q _ (W_st hW hs1 (by decide)) (ep_I rfl)
end S77
