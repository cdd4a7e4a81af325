/-! a step of the class is a step of the reference -/
section S70
variable {t t' t0 : sT} {M M' M0 N : sM} {n T A B b c m o k x y K w f : Nat} {p a d sz : Int32} {s z : Bool} {L L' l : List Nat} {V : TV} {Lg : List (Nat × Int32)} {tr : sM} {y0 y1 y2 : sV} {Q : sRs → sT → Prop}
theorem W_801 (hW : Wc t M n T L A B) : mI M 801 = io T := hW.2.1.2.2.2.2.2.1.1
theorem stp_own (hb : badP M o p = false) (h : ownB M (oM M o) L = true) : stpM M n o p L Lg tr = ownF (oM M o) L M ∧ stpZ M n o p L Lg = true := by
  unfold stpM stpZ
  rw [hb, h]
  exact ⟨rfl, rfl⟩
theorem stp_tr (hb : badP M o p = false) (h : ownB M (oM M o) L = false) (ho : obF M n Lg Lg.length = none) : stpM M n o p L Lg tr = tr ∧ stpZ M n o p L Lg = true := by
  unfold stpM stpZ
  rw [hb, h, ho]
  exact ⟨rfl, rfl⟩
theorem stp_h (hb : badP M o p = false) (h : ownB M (oM M o) L = false) (ho : obF M n Lg Lg.length = some c) : stpM M n o p L Lg tr = mAw M 0 c 3 ∧ stpZ M n o p L Lg = !(ehB M c o L) := by
  have e1 : stpM M n o p L Lg tr = mAw M 0 c 3 := by
    unfold stpM
    rw [hb, h, ho]
    rfl
  refine ⟨e1, ?_⟩
  rw [stp_Z, hb, h, ho]
  show (!(decide (c = oB M o)) && L.any (fun x => decide (oB M x = c))) = _
  unfold ehB
  have e2 : decide (c = oB M o) = decide (oB M o = c) := by
    by_cases e : c = oB M o
    · rw [decide_eq_true e, decide_eq_true e.symm]
    · rw [decide_eq_false e, decide_eq_false (fun h => e h.symm)]
  rw [e2, Bool.not_or, Bool.not_not]
theorem stp_bad (hb : badP M o p = true) : stpM M n o p L Lg tr = M ∧ stpZ M n o p L Lg = false := by
  unfold stpM stpZ
  rw [hb]
  exact ⟨rfl, rfl⟩
theorem w56_g (hW : Wc t M n T L A B) (ho : o < n) (hk : k < 1000) (hx : ∀ x, x ∈ L → x < n ∧ mA M 19 x = 1)
    (hfar : ∀ V, ltF M (plV M (oB M o) (decide (io w = 0)) p L V) none L = obF M n Lg Lg.length ∧ ∀ y d, (plV M (oB M o) (decide (io w = 0)) p L V).2.2.1 y = some d → y ∈ L → d < 3)
    (hbad : badP M o p = false) (hM : csM M n o = stpM M n o p L Lg tr) (hZ : csZ M n o = stpZ M n o p L Lg) (e0 : ep t = ep t0)
    (htr : ∀ t1 V, Wc t1 M n T L A B → tv t1 = plV M (oB M o) (decide (io w = 0)) p L V → (∀ t' T' y2', Wc t' tr n T' L A B → T ≤ T' → T' ≤ T + 400 → ep t' = ep t1 → X 56 2 [.inr (.inr (6, (some 0))), .inr (.inr (8, (some o))), .inl (io (k + 1)), .inl (io w), .inl p, y2'] [] t' Q) → X 56 116 [.inr (.inr (6, (some 0))), .inr (.inr (8, (some o))), .inl (io k), .inl (io w), .inl p, y2] [.inr (.inr (2, none))] t1 Q)
    (q0 : csZ M n o = false → ∀ t' T' L', Wc t' (csM M n o) n T' L' A B → T ≤ T' → T' ≤ T + 400 → ep t' = ep t0 → Q (.inl none) t')
    (q1 : csZ M n o = true → ∀ t' T' L' y0 y1 y2, Wc t' (csM M n o) n T' L' A B → T ≤ T' → T' ≤ T + 400 → ep t' = ep t0 → X 56 2 [.inr (.inr (6, (some 0))), .inr (.inr (8, (some o))), .inl (io (k + 1)), y0, y1, y2] [] t' Q) :
    X 56 90 [.inr (.inr (6, (some 0))), .inr (.inr (8, (some o))), .inl (io k), .inl (io w), .inl p, y2] [] t Q := by
  rw [hM, hZ] at q0 q1
  refine n56_90 (y0 := y2) (y1 := y2) hW ho hk ?_
  refine w59 hW (fun x h => (hx x h).1) (fun t1 h1 e1 v1 => ?_)
  refine sK_i (pc' := 98) rfl ?_
  cases hown : ownB M (oM M o) L with
  | true =>
    obtain ⟨s1, s2⟩ := stp_own (n := n) (Lg := Lg) (tr := tr) hbad hown
    rw [s1, s2] at q1
    refine n56_98 (y0 := y2) (y1 := y2) h1 ho hk (fun h => by cases h) (fun _ => ?_)
    exact q1 rfl t1 T L _ _ _ h1 (by omega) (by omega) (e1.trans e0)
  | false =>
    rw [ownF_none hown] at h1
    refine n56_98 (y0 := y2) (y1 := y2) h1 ho hk (fun _ => ?_) (fun h => by cases h)
    refine w60 h1 ho (fun x h => (hx x h).1) (fun t2 h2 e2 v2 => ?_)
    refine sK_v (pc' := 112) rfl ?_
    refine n56_112 (y0 := y2) (y1 := y2) h2 ho hk ?_
    obtain ⟨f1, f2⟩ := hfar (tv t1)
    refine w62 h2 v2 (fun x h => ⟨(hx x h).1, fun d hd => f2 x d hd h⟩) ?_
    refine sK_i (pc' := 116) rfl ?_
    have hlt := ltF_lt (M := M) (f := none) (fun x h d hd => f2 x d hd h) obd_n
    rw [f1] at hlt ⊢
    cases hob : obF M n Lg Lg.length with
    | none =>
      obtain ⟨s1, s2⟩ := stp_tr (tr := tr) hbad hown hob
      rw [s1, s2] at q1
      exact htr t2 (tv t1) h2 v2 (fun t' T' y2' g1 g2 g3 g4 => q1 rfl t' T' L _ _ _ g1 g2 g3 (g4.trans (e2.trans (e1.trans e0))))
    | some c =>
      have hc3 := hlt c hob
      obtain ⟨s1, s2⟩ := stp_h (tr := tr) hbad hown hob
      rw [s1, s2] at q0 q1
      refine n56_116s (y0 := y2) (y1 := y2) h2 ho hk ?_
      refine w63 h2 hc3 ho (fun x h => (hx x h).1) (fun t3 h3 e3 v3 => ?_)
      refine sK_i (pc' := 130) rfl ?_
      cases heh : ehB M c o L with
      | false =>
        rw [heh] at q1
        refine n56_130 (y0 := y2) (y1 := y2) h3 ho hk (fun _ => ?_) (fun h => by cases h)
        exact q1 rfl t3 T L _ _ _ h3 (by omega) (by omega) (e3.trans (e2.trans (e1.trans e0)))
      | true =>
        rw [heh] at q0
        refine n56_130 (y0 := y2) (y1 := y2) h3 ho hk (fun h => by cases h) (fun _ => ?_)
        exact q0 rfl t3 T L h3 (by omega) (by omega) (e3.trans (e2.trans (e1.trans e0)))
theorem w56_tb (hW : Wc t M n T L A B) (hI : Iv M n) (ho : o < n) (hk : k < 1000) (h19 : mA M 19 o = 4) (hx : ∀ x, x ∈ L → x < n ∧ mA M 19 x = 1) (hnd : L.Nodup) (hne : L = x :: l) (hT : T < 1500) (hw0 : w = 0)
    (q : ∀ t' T' y2', Wc t' (cshF M n T o p L (portN (L.map (shN M)) (lfN M o))) n T' L A B → T ≤ T' → T' ≤ T + 400 → ep t' = ep t → X 56 2 [.inr (.inr (6, (some 0))), .inr (.inr (8, (some o))), .inl (io (k + 1)), .inl (io w), .inl p, y2'] [] t' Q) :
    X 56 116 [.inr (.inr (6, (some 0))), .inr (.inr (8, (some o))), .inl (io k), .inl (io w), .inl p, y2] [.inr (.inr (2, none))] t Q := by
  subst hw0
  have hlen := nd_len n L hnd (fun y hy => (hx y hy).1)
  have hn := hI.2.2.2.2.2
  have hst := Iv_st hI
  obtain ⟨hlf, hlf1⟩ := Iv_lf hI ho
  have hno : ∀ y, y ∈ L → ¬ y = o ∧ mA M 19 y = 1 := fun y hy => ⟨fun e => by have := (hx y hy).2; rw [e, h19] at this; exact absurd this (by decide), (hx y hy).2⟩
  have hS := Iv_Sh hI hx
  refine n56_116n (y0 := y2) (y1 := y2) hW ho hk (fun h => absurd rfl h) (fun _ => ?_)
  subst hne
  refine w64 hW ho hI.2.2.2.2.1 (Iv_Sq hI) (by omega) (by omega) hnd hx (fun t1 h1 e1 => ?_)
  refine sK_v (pc' := 145) rfl ?_
  refine n56_145 (y0 := y2) (y1 := y2) h1 ho hk ?_
  have eg := ptF_io (g := (tv t).1) hS hnd (by omega) hlf1
  have hb9 := tbT_b (b := oB M o) (ptF M (mA M 15 o) (x :: l) (tv t).1) (x :: l) T
  rw [hlf] at h1 hb9
  rw [tb_csh eg (fun v hv => Nat.lt_of_le_of_lt (leL_b (portN_le (Sh_1 hS)) (Sh_b hS) v hv) (by decide)) hno hnd ((portN_len (Sh_1 hS)).trans (List.length_map _))] at h1
  exact q t1 _ _ h1 hb9.1 (by omega) e1
theorem w56_tl (hW : Wc t M n T L A B) (hI : Iv M n) (ho : o < n) (hk : k < 1000) (h19 : mA M 19 o = 4) (hx : ∀ x, x ∈ L → x < n ∧ mA M 19 x = 1) (hnd : L.Nodup) (hlen : L.length ≤ 3) (hT : T < 1500) (hw1 : 1 ≤ w) (hw3 : w < 3)
    (hv : tv t = plV M (oB M o) (decide (io w = 0)) p L V) (hf : ∀ y d, (plV M (oB M o) false p L V).2.2.1 y = some d → y ∈ L → d < 3) (hU : ∀ T, T ≤ tlU (plV M (oB M o) false p L V) L T ∧ tlU (plV M (oB M o) false p L V) L T ≤ T + 3)
    (q : ∀ t' T' y2', Wc t' (wayF M n T o p L (plV M (oB M o) false p L dV)) n T' L A B → T ≤ T' → T' ≤ T + 400 → ep t' = ep t → X 56 2 [.inr (.inr (6, (some 0))), .inr (.inr (8, (some o))), .inl (io (k + 1)), .inl (io w), .inl p, y2'] [] t' Q) :
    X 56 116 [.inr (.inr (6, (some 0))), .inr (.inr (8, (some o))), .inl (io k), .inl (io w), .inl p, y2] [.inr (.inr (2, none))] t Q := by
  have hst := Iv_st hI
  have hw0 : ¬ io w = 0 := pos_ne0 ((io_pos (by omega)).mpr hw1)
  rw [decide_eq_false hw0] at hv
  have hno : ∀ y, y ∈ L → ¬ y = o ∧ mA M 19 y = 1 := fun y hy => ⟨fun e => by have := (hx y hy).2; rw [e, h19] at this; exact absurd this (by decide), (hx y hy).2⟩
  refine n56_116n (y0 := y2) (y1 := y2) hW ho hk (fun _ => ?_) (fun h => absurd h hw0)
  refine w67 hW ho hI.2.2.2.2.1 (Iv_Sq hI) (by omega) (by omega) hnd hv hf hx (fun t1 h1 e1 => ?_)
  refine sK_v (pc' := 155) rfl ?_
  rw [tl_way hno hnd, wayF_ind (V' := plV M (oB M o) false p L dV) (fun y hy => plV_ind hy)] at h1
  refine n56_155 (y0 := y2) (y1 := y2) h1 ho hk ?_
  obtain ⟨u1, u2⟩ := hU T
  exact q t1 _ _ h1 u1 (by omega) e1
end S70
