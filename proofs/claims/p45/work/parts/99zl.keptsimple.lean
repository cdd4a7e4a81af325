/-! what holds between the calls: kept by the simple calls (printed by gen99zl.py) -/
section S99zl
variable {t t' t0 : sT} {M M' M0 N Y Z : sM} {n T A B b c m o k x K w e i d R H C D : Nat} {p a h u p0 p1 : Int32} {s z : Bool} {L L' l : List Nat} {V : List Nat} {v : Int32}
def Hr (r : Rs4) (e : Nat) : Prop := Hv r.2.2.1 r.2.2.2 e
theorem Hv_sA {q : Nat} (hq : q = 0 ∨ q = 1 ∨ q = 2 ∨ q = 4 ∨ q = 5 ∨ q = 8 ∨ q = 9) (hv : Hv M n e) : Hv (mAw M q k v) n e :=
  Hv_cg hv (fun q' h' => funext fun k' => if_neg (fun z => by have := z.1; omega)) (fun c hc => by
    show 0 ≤ (if 3 = q ∧ c = k then v else mA M 3 c)
    rw [if_neg (fun z => by have := z.1; omega)]
    exact Hv_3 hv c hc) (fun _ _ => rfl) (fun _ _ => rfl)
theorem Hv_s3 (h0 : 0 ≤ v) (hv : Hv M n e) : Hv (mAw M 3 k v) n e :=
  Hv_cg hv (fun q' h' => funext fun k' => if_neg (fun z => by have := z.1; omega)) (fun c hc => by
    show 0 ≤ (if 3 = 3 ∧ c = k then v else mA M 3 c)
    split
    · exact h0
    · exact Hv_3 hv c hc) (fun _ _ => rfl) (fun _ _ => rfl)
theorem Hv_sB {q : Nat} {y : Bool} (hq : ¬ q = 2 ∧ ¬ q = 4) (hv : Hv M n e) : Hv (mBw M q k y) n e :=
  Hv_cg hv (fun _ _ => rfl) (fun c hc => (show 0 ≤ mA M 3 c from Hv_3 hv c hc)) (fun q' h' => funext fun k' => (show (if q' = q ∧ k' = k then y else mB M q' k') = mB M q' k' from if_neg (fun z => by have := z.1; omega))) (fun _ _ => rfl)
theorem ge0 (h : ¬ v < 0) : 0 ≤ v := by
  rw [Int32.lt_iff_toInt_lt] at h
  rw [Int32.le_iff_toInt_le]
  omega
theorem Hv_s7 (h0 : ¬ v < 0) (h1 : ¬ 1000000 < v) (hv : Hv M n e) : Hv (mAw M 7 k v) n e := by
  have e7 : ∀ q, ¬ q = 7 → mA (mAw M 7 k v) q = mA M q := fun q hq => funext fun k' => if_neg (fun z => hq z.1)
  obtain ⟨hK, ⟨g1, g2, g3, g4, g5⟩, hn4, hb⟩ := hv
  obtain ⟨T, hT, hT4⟩ := hK.2.2.2.2
  refine ⟨Kv_cgT hK (fun q a1 a2 => e7 q (by omega)) (fun c hc => by rw [e7 3 (by decide)]; exact hK.1.1.2.2.2.1 c hc) rfl (fun _ _ => rfl) hT hT4, ⟨Qa_go g1 (Dd_eq (e7 19 (by decide))) (e7 10 (by decide)) (e7 12 (by decide)) (e7 13 (by decide)) rfl, fun k' hk => ?_, g3, fun q hq => by rw [e7 11 (by decide)]; exact g4 q hq, Pt_cg g5 (e7 6 (by decide)) (e7 22 (by decide)) (e7 23 (by decide)) (e7 25 (by decide)) rfl rfl⟩, hn4, hb⟩
  show 0 ≤ (if 7 = 7 ∧ k' = k then v else mA M 7 k').toInt ∧ (if 7 = 7 ∧ k' = k then v else mA M 7 k').toInt ≤ 1000000
  split
  · rw [Int32.lt_iff_toInt_lt] at h0 h1
    have e0 : (0 : Int32).toInt = 0 := rfl
    have e1 : (1000000 : Int32).toInt = 1000000 := rfl
    omega
  · exact g2 k' hk
theorem Hv_s11 (h0 : ¬ v < -500) (h1 : ¬ 500 < v) (hv : Hv M n e) : Hv (mAw M 11 k v) n e := by
  have e7 : ∀ q, ¬ q = 11 → mA (mAw M 11 k v) q = mA M q := fun q hq => funext fun k' => if_neg (fun z => hq z.1)
  obtain ⟨hK, ⟨g1, g2, g3, g4, g5⟩, hn4, hb⟩ := hv
  obtain ⟨T, hT, hT4⟩ := hK.2.2.2.2
  refine ⟨Kv_cgT hK (fun q a1 a2 => e7 q (by omega)) (fun c hc => by rw [e7 3 (by decide)]; exact hK.1.1.2.2.2.1 c hc) rfl (fun _ _ => rfl) hT hT4, ⟨Qa_go g1 (Dd_eq (e7 19 (by decide))) (e7 10 (by decide)) (e7 12 (by decide)) (e7 13 (by decide)) rfl, Hs_eq (e7 7 (by decide)) g2, g3, fun q hq => ?_, Pt_cg g5 (e7 6 (by decide)) (e7 22 (by decide)) (e7 23 (by decide)) (e7 25 (by decide)) rfl rfl⟩, hn4, hb⟩
  show -500 ≤ (if 11 = 11 ∧ q = k then v else mA M 11 q).toInt ∧ (if 11 = 11 ∧ q = k then v else mA M 11 q).toInt ≤ 500
  split
  · rw [Int32.lt_iff_toInt_lt] at h0 h1
    have e0 : (-500 : Int32).toInt = -500 := rfl
    have e1 : (500 : Int32).toInt = 500 := rfl
    omega
  · exact g4 q hq
theorem Hv_784 (h0 : ¬ v < 0) (hv : Hv M n e) : Hv (mIw M 784 v) n e := by
  have e7 : ∀ F, ¬ F = 784 → mI (mIw M 784 v) F = mI M F := fun q hq => if_neg hq
  obtain ⟨hK, ⟨g1, g2, g3, g4, g5⟩, hn4, hb⟩ := hv
  obtain ⟨T, hT, hT4⟩ := hK.2.2.2.2
  refine ⟨Kv_cgT hK (fun _ _ _ => rfl) hK.1.1.2.2.2.1 rfl (fun F hF => e7 F (by omega)) ((e7 801 (by decide)).trans hT) hT4, ⟨Qa_go g1 (Dd_eq rfl) rfl rfl rfl rfl, g2, ?_, g4, Pt_cg g5 rfl rfl rfl rfl rfl (e7 801 (by decide))⟩, hn4, ?_⟩
  · have e8 : mI (mIw M 784 v) 784 = v := mI_s
    rw [e8]
    rw [Int32.lt_iff_toInt_lt] at h0
    have e0 : (0 : Int32).toInt = 0 := rfl
    omega
  · have e1 : tN (mIw M 784 v) = tN M := by unfold tN; rw [e7 801 (by decide)]
    rw [e1]
    exact hb

theorem H102 (hv : Hv M n e) : Hr (sp102 M n p0) e := by
  unfold sp102
  repeat' split
  all_goals first | exact Hv_768 hv | exact Hv_m0 hv
theorem H103 (hv : Hv M n e) : Hr (sp103 M n) e := by
  unfold sp103
  exact Hv_m0 hv
theorem H104 (hv : Hv M n e) : Hr (sp104 M n p0) e := by
  unfold sp104
  repeat' split
  all_goals first | exact Hv_768 hv | exact Hv_m0 hv
theorem H105 (hv : Hv M n e) : Hr (sp105 M n p0) e := by
  unfold sp105
  repeat' split
  all_goals first | exact Hv_768 hv | exact Hv_m0 hv
theorem H106 (hv : Hv M n e) : Hr (sp106 M n p0) e := by
  unfold sp106
  repeat' split
  all_goals first | exact Hv_768 hv | exact Hv_m0 hv
theorem H107 (hv : Hv M n e) : Hr (sp107 M n p0 s) e := by
  unfold sp107
  repeat' split
  all_goals first | exact Hv_768 hv | exact Hv_m0 hv
theorem H109 (hv : Hv M n e) : Hr (sp109 M n p0 s) e := by
  unfold sp109
  repeat' split
  all_goals first | exact Hv_768 hv | exact Hv_m0 hv
theorem H110 (hv : Hv M n e) : Hr (sp110 M n p0 s) e := by
  unfold sp110
  repeat' split
  all_goals first | exact Hv_768 hv | exact Hv_m0 hv
theorem H111 (hv : Hv M n e) : Hr (sp111 M n p0) e := by
  unfold sp111
  repeat' split
  all_goals first | exact Hv_768 hv | exact Hv_m0 hv
theorem H112 (hv : Hv M n e) : Hr (sp112 M n p0) e := by
  unfold sp112
  repeat' split
  all_goals first | exact Hv_768 hv | exact Hv_m0 hv
theorem H113 (hv : Hv M n e) : Hr (sp113 M n p0) e := by
  unfold sp113
  repeat' split
  all_goals first | exact Hv_768 hv | exact Hv_m0 hv
theorem H114 (hv : Hv M n e) : Hr (sp114 M n T) e := by
  unfold sp114
  exact Hv_m0 hv
theorem H115 (hv : Hv M n e) : Hr (sp115 M n T p0 p) e := by
  unfold sp115
  repeat' split
  all_goals first | exact Hv_768 hv | exact Hv_m0 hv
theorem H116 (hv : Hv M n e) : Hr (sp116 M n p0 p1) e := by
  unfold sp116
  repeat' split
  all_goals first | exact Hv_768 hv | exact Hv_m0 hv
theorem H117 (hv : Hv M n e) : Hr (sp117 M n T p0 p1) e := by
  unfold sp117
  repeat' split
  all_goals first | exact Hv_768 hv | exact Hv_m0 hv
theorem H118 (hv : Hv M n e) : Hr (sp118 M n p0) e := by
  unfold sp118
  repeat' split
  all_goals first | exact Hv_768 hv | exact Hv_m0 hv
theorem H119 (hv : Hv M n e) : Hr (sp119 M n p0) e := by
  unfold sp119
  repeat' split
  all_goals first | exact Hv_768 hv | exact Hv_m0 hv
theorem H120 (hv : Hv M n e) : Hr (sp120 M n p0) e := by
  unfold sp120
  repeat' split
  all_goals first | exact Hv_768 hv | exact Hv_m0 hv
theorem H121 (hv : Hv M n e) : Hr (sp121 M n p0) e := by
  unfold sp121
  repeat' split
  all_goals first | exact Hv_768 hv | exact Hv_m0 hv
theorem H122 (hv : Hv M n e) : Hr (sp122 M n p0) e := by
  unfold sp122
  repeat' split
  all_goals first | exact Hv_768 hv | exact Hv_m0 hv
theorem H123 (hv : Hv M n e) : Hr (sp123 M n p0) e := by
  unfold sp123
  repeat' split
  all_goals first | exact Hv_768 hv | exact Hv_m0 hv
theorem H124 (hv : Hv M n e) : Hr (sp124 M n) e := by
  unfold sp124
  exact Hv_m0 hv
theorem H125 (hv : Hv M n e) : Hr (sp125 M n) e := by
  unfold sp125
  exact Hv_m0 hv
theorem H84 (hv : Hv M n e) : Hr (sp84 M n p0) e := by
  unfold sp84
  repeat' split
  all_goals first | exact Hv_768 hv | exact Hv_sA (by decide) (Hv_m0 hv)
theorem H85 (hv : Hv M n e) : Hr (sp85 M n p0) e := by
  unfold sp85
  repeat' split
  all_goals first | exact Hv_768 hv | exact Hv_sA (by decide) (Hv_m0 hv)
theorem H87 (hv : Hv M n e) : Hr (sp87 M n p0 s) e := by
  unfold sp87
  repeat' split
  all_goals first | exact Hv_768 hv | exact Hv_sB (by decide) (Hv_m0 hv)
theorem H88 (hv : Hv M n e) : Hr (sp88 M n p0 p u) e := by
  unfold sp88
  repeat' split
  all_goals first | exact Hv_768 hv | exact Hv_s3 (ge0 (by assumption)) (Hv_sA (by decide) (Hv_m0 hv))
theorem H89 (hv : Hv M n e) : Hr (sp89 M n p0 p) e := by
  unfold sp89
  repeat' split
  all_goals first | exact Hv_768 hv | exact Hv_sA (by decide) (Hv_m0 hv)
theorem H90 (hv : Hv M n e) : Hr (sp90 M n p0 p) e := by
  unfold sp90
  repeat' split
  all_goals first | exact Hv_768 hv | exact Hv_s7 (by assumption) (by assumption) (Hv_m0 hv)
theorem H91 (hv : Hv M n e) : Hr (sp91 M n p) e := by
  unfold sp91
  repeat' split
  all_goals first | exact Hv_768 hv | exact Hv_784 (by assumption) (Hv_m0 hv)
theorem H92 (hv : Hv M n e) : Hr (sp92 M n p0 p) e := by
  unfold sp92
  repeat' split
  all_goals first | exact Hv_768 hv | exact Hv_sA (by decide) (Hv_m0 hv)
theorem H93 (hv : Hv M n e) : Hr (sp93 M n p0 p1 p) e := by
  unfold sp93
  repeat' split
  all_goals first | exact Hv_768 hv | exact Hv_s11 (by assumption) (by assumption) (Hv_m0 hv)
theorem H100 (hv : Hv M n e) : Hr (sp100 M n p0 p) e := by
  unfold sp100
  repeat' split
  all_goals first | exact Hv_768 hv | exact Hv_sB (by decide) (Hv_sA (by decide) (Hv_m0 hv))
theorem Hv_cn (hv : Hv M n e) (he : e ≤ 600) (ho : o < n) (hs : mA M 19 o = 0 ∨ mA M 19 o = 1) : Hv (cnF M o) n e := by
  have hd : Dd (cnF M o) M n := Dd_cn (by rcases hs with h | h; exact Or.inl h; exact Or.inr (Or.inl h))
  have ht : tN (cnF M o) = tN M := rfl
  exact Hv_go hv.2.1 he (Kv_cn hv.1 ho) hd (Gk_cn (Gk.refl M)) (no4_D hd hv.2.2.1) hv.2.2.2 (by rw [ht]; omega)
theorem H98 (hv : Hv M n e) (he : e ≤ 600) : Hr (sp98 M n p0) e := by
  unfold sp98
  split
  · exact Hv_768 hv
  · rename_i o e0
    obtain ⟨ho, rfl⟩ := ixo_s e0
    split
    · rename_i h0
      exact Hv_cn (Hv_m0 hv) he ho (Or.inl h0)
    · split
      · rename_i h1
        exact Hv_cn (Hv_m0 hv) he ho (Or.inr h1)
      · exact Hv_768 hv
theorem mvF_A {q c m o : Nat} {p a : Int32} (h5 : ¬ q = 5) (h6 : ¬ q = 6) : mA (mvF M c m o p a) q = mA M q := funext fun k' => by
  unfold mvF
  rw [mA_n (nb_f h5), mA_n (nb_f h5), mA_n (nb_f h6), mA_n (nb_f h6)]
theorem H99 (hv : Hv M n e) (he : e ≤ 599) (hT : tN M = T) (hTi : Ti M T) : Hr (sp99 M n T p0) (e + 1) := by
  unfold sp99
  split
  · exact Hv_e (Hv_768 hv)
  · rename_i o e0
    obtain ⟨ho, rfl⟩ := ixo_s e0
    split
    · exact Hv_e (Hv_768 hv)
    · split
      · exact Hv_e (Hv_768 hv)
      · split
        · exact Hv_e (Hv_768 hv)
        · rename_i h1 h2 h3
          obtain ⟨⟨_, k1⟩, ⟨_, k2⟩, _, k3⟩ := hTi.2.2 o ho
          have hq := hv.2.1.2.2.2.2.2 o (by rw [hT]; exact ho)
          have hs : ∃ v, v ≤ 100 ∧ mA M 25 o = io v := by
            rcases hq with g | g | g | g | g
            · exact g
            · exact absurd g h2
            · exact absurd g h3
            · cases g
            · cases g
          obtain ⟨v, hv1, hv2⟩ := hs
          have H0 : Hv (mBw (m0 M) 7 o true) n (e + 1) := Hv_e (Hv_sB (by decide) (Hv_m0 hv))
          have H1 : Hv (mBw (m0 M) 7 o true) n e := Hv_sB (by decide) (Hv_m0 hv)
          have hT2 := (Hv_T hv).1
          show Hv (mvF (mBw (m0 M) 7 o true) (tK M o) (tB M o) (tS M o) (mA M 24 o) (-(mA M 25 o))) n (e + 1)
          have tY : tN (mBw (m0 M) 7 o true) = tN M := rfl
          generalize mBw (m0 M) 7 o true = Y at *
          have hW : (-(mA M 25 o)).toInt = -(v : Int) := by
            rw [hv2, Int32.toInt_neg, io_int (by omega), Int.bmod_eq_of_le (by omega) (by omega)]
          have hPo := Po_mv (W := -(v : Int)) H1.2.1.2.2.2.2.1 (by omega) (mv_6 (M := Y) (c := tK M o) (m := tB M o) (o := tS M o) (p := mA M 24 o) (a := -(mA M 25 o))) k1 k2 k3 hW (by omega)
          generalize -(mA M 25 o) = a at *
          have eA : ∀ q, ¬ q = 5 → ¬ q = 6 → mA (mvF Y (tK M o) (tB M o) (tS M o) (mA M 24 o) a) q = mA Y q := fun q h5 h6 => mvF_A h5 h6
          have eB : mB (mvF Y (tK M o) (tB M o) (tS M o) (mA M 24 o) a) = mB Y := rfl
          have eI : mI (mvF Y (tK M o) (tB M o) (tS M o) (mA M 24 o) a) = mI Y := rfl
          generalize mvF Y (tK M o) (tB M o) (tS M o) (mA M 24 o) a = N at *
          obtain ⟨hK, ⟨g1, g2, g3, g4, g5⟩, hn4, hb⟩ := H0
          obtain ⟨T', hT', hT4⟩ := hK.2.2.2.2
          have e1 : tN N = tN Y := by unfold tN; rw [eI]
          refine ⟨Kv_cgT hK (fun q a1 a2 => eA q (by omega) (by omega)) (fun c hc => by rw [eA 3 (by decide) (by decide)]; exact hK.1.1.2.2.2.1 c hc) (by rw [eB]) (fun F _ => by rw [eI]) (by rw [eI]; exact hT') hT4, ⟨Qa_go g1 (Dd_eq (eA 19 (by decide) (by decide))) (eA 10 (by decide) (by decide)) (eA 12 (by decide) (by decide)) (eA 13 (by decide) (by decide)) (by rw [eB]), Hs_eq (eA 7 (by decide) (by decide)) g2, by rw [eI]; exact g3, fun q hq => by rw [eA 11 (by decide) (by decide)]; exact g4 q hq, ⟨?_, Tq_cg g5.2 (eA 22 (by decide) (by decide)) (eA 23 (by decide) (by decide)) (eA 25 (by decide) (by decide)) (fun k g => by rw [eB]; exact g) (by rw [eI])⟩⟩, fun k hk => by rw [eA 19 (by decide) (by decide)]; exact hn4 k hk, ?_⟩
          · rw [e1]
            exact Po_le hPo (by omega)
          · have e2 : dnN N n = dnN Y n := by unfold dnN; rw [eA 19 (by decide) (by decide)]
            have e3 : ouN N = ouN Y := by unfold ouN; rw [eB]
            rw [e1, e2, e3]
            exact hb
end S99zl
