/-! the reference tears up a position -/
section S99ze
variable {t t' t0 : sT} {M M' M0 N Y Z : sM} {n T A B b c m o k x K w v e i d R H D C : Nat} {p a h u g p0 p1 : Int32} {s z : Bool} {L L' l V : List Nat} {f f2 : Nat → Nat} {y0 y1 : sV} {Q : sRs → sT → Prop}
theorem v216 (hV : Vr t M n) (hP : Pv M) (hm : m < 6) (hk : k < 6) (hc3 : c < 3) (q : Q (.inl (some (.inl (io (gF M c m k))))) t) :
    X 216 0 [.inr (.inr (12, (some 0))), .inl (io c), .inl (io k), .inl (mA M 6 ((3 * m) + c)), sJk] [] t Q := by
  obtain ⟨e1, e2⟩ := io_abs (hP.1 ((3 * k) + c) (by omega)).1 (hP.1 ((3 * k) + c) (by omega)).2
  unfold gF at q
  refine r216 hV hk hc3 (by omega) (fun h1 h2 => ?_) (fun h1 h2 h3 => ?_) (fun h1 h2 h3 => ?_) (fun h1 h2 => ?_) (fun h1 h2 => ?_)
  · rw [gN_0 (fun z => z.elim (fun z => h2 z.2) (fun z => h1 z.2))] at q; exact q
  · rw [gN_0 (fun z => z.elim (fun z => h3 z.1) (fun z => h1 z.2))] at q; exact q
  · rw [gN_1 (Or.inl ⟨h3, h2⟩), ← e1 (nlt_p h3)] at q; exact q
  · rw [gN_0 (fun z => z.elim (fun z => nlt_p h1 z.2) (fun z => h2 z.1))] at q; exact q
  · rw [gN_1 (Or.inr ⟨h2, h1⟩), ← e2 h2] at q; exact q
theorem v215_20 (hV : Vr t M n) (hP : Pv M) (hm : m < 6) (hc3 : c < 3) : ∀ (d k acc : Nat) (y0 : sV), k + d = 6 →
    X 215 20 [.inr (.inr (12, (some 0))), .inl (io c), .inl (io m), .inl (mA M 6 ((3 * m) + c)), .inl (io (acc + (fl (gF M c m) k d).sum)), .inl h, .inl 6, y0] [] t Q →
    X 215 20 [.inr (.inr (12, (some 0))), .inl (io c), .inl (io m), .inl (mA M 6 ((3 * m) + c)), .inl (io acc), .inl h, .inl (io k), y0] [] t Q
  | 0, k, acc, y0, hk, q => by
    have e : k = 6 := by omega
    subst e
    exact q
  | d + 1, k, acc, y0, hk, q => by
    have hk6 : k < 6 := by omega
    have e1 : (fl (gF M c m) k (d + 1)).sum = gF M c m k + (fl (gF M c m) (k + 1) d).sum := List.sum_cons
    rw [e1, ← Nat.add_assoc] at q
    refine r215_k hV hm hc3 hk6 (v216 hV hP hm hk6 hc3 ?_)
    refine sK_i (pc' := 37) rfl ?_
    refine r215_k2 hV hm hc3 hk6 ?_
    rw [io_add]
    exact v215_20 hV hP hm hc3 d (k + 1) (acc + gF M c m k) _ (by omega) q
theorem v215_49 (hP : Pv M) (hm : m < 6) (hc3 : c < 3) (ea : ¬ mA M 6 ((3 * m) + c) = 0) (hR : gR M c m = R) (hH : H < 2 ^ 31) (hH0 : 0 < H) : ∀ (d k acc : Nat) (t : sT) (y0 : sV), k + d = 6 → Vr t M n →
    (∀ t' y0, Vr t' M n → cp t' = cp t → (∀ j, j < k → sA t' 21 28 j = sA t 21 28 j) → Am t' k (fl (fun x => R * gF M c m x / H) k d) →
      X 215 49 [.inr (.inr (12, (some 0))), .inl (io c), .inl (io m), .inl (mA M 6 ((3 * m) + c)), .inl (io H), .inl (io (acc + (fl (fun x => R * gF M c m x / H) k d).sum)), .inl 6, y0] [] t' Q) →
    X 215 49 [.inr (.inr (12, (some 0))), .inl (io c), .inl (io m), .inl (mA M 6 ((3 * m) + c)), .inl (io H), .inl (io acc), .inl (io k), y0] [] t Q
  | 0, k, acc, t, y0, hk, hV, q => by
    have e : k = 6 := by omega
    subst e
    exact q t y0 hV rfl (fun _ _ => rfl) (fun i hi => absurd hi (Nat.not_lt_zero i))
  | d + 1, k, acc, t, y0, hk, hV, q => by
    have hk6 : k < 6 := by omega
    have hg := gF_le (m := m) hP hc3 hk6
    have hRb := gR_le hP hc3 hm
    have e1 : (fl (fun x => R * gF M c m x / H) k (d + 1)).sum = R * gF M c m k / H + (fl (fun x => R * gF M c m x / H) (k + 1) d).sum := List.sum_cons
    rw [e1] at q
    obtain ⟨a1, a2⟩ := io_abs (hP.1 ((3 * m) + c) (by omega)).1 (hP.1 ((3 * m) + c) (by omega)).2
    have hRe : (mA M 6 ((3 * m) + c)).toInt.natAbs = R := hR
    rw [hRe] at a1 a2
    rw [hR] at hRb
    have next : ∀ y0, X 215 49 [.inr (.inr (12, (some 0))), .inl (io c), .inl (io m), .inl (mA M 6 ((3 * m) + c)), .inl (io H), .inl (io acc + io (R * gF M c m k / H)), .inl (io (k + 1)), y0] [] (sAw t 21 28 k (io (R * gF M c m k / H))) Q := fun y0 => by
      rw [io_add]
      refine v215_49 hP hm hc3 ea hR hH hH0 d (k + 1) (acc + R * gF M c m k / H) _ _ (by omega) (Vr_28 hV) (fun t' y1 g1 g2 g3 g4 => ?_)
      rw [Nat.add_assoc]
      refine q t' y1 g1 (g2.trans cp_A) (fun j hj => ?_) (Am_cons ?_ g4)
      · rw [g3 j (by omega), am_w, if_neg (by omega)]
      · rw [g3 k (by omega), am_w, if_pos rfl]
    have hne : ¬ (io H).toInt64 = 0 := by rw [io_jo hH]; exact jo_ne0 (by omega) hH0
    refine r215_s hV hm hc3 hk6 (fun z => absurd z ea) (fun _ => ?_)
    refine v216 hV hP hm hk6 hc3 ?_
    refine sK_i (pc' := 74) rfl ?_
    refine r215_s2 hV hm hc3 hk6 hne (fun h0 => ?_) (fun h0 => ?_)
    · have e2 : ((((io (gF M c m k)).toInt64 * (mA M 6 ((3 * m) + c)).toInt64) / (io H).toInt64).toInt32) = io (R * gF M c m k / H) := by
        rw [a1 h0, io_jo hH]
        exact j_quo (by omega) (by omega) hH
      rw [e2]
      exact next _
    · have e2 : ((((io (gF M c m k)).toInt64 * (-(mA M 6 ((3 * m) + c))).toInt64) / (io H).toInt64).toInt32) = io (R * gF M c m k / H) := by
        rw [a2 h0, io_jo hH]
        exact j_quo (by omega) (by omega) hH
      rw [e2]
      exact next _
theorem v215_u (hV : Vr t M n) (hP : Pv M) (hm : m < 6) (hx : x < 6) (hc3 : c < 3) (hR : gR M c m = R) (hD : D < 2 ^ 31)
    (q0 : ¬ D < R → X 215 176 [.inr (.inr (12, (some 0))), .inl (io c), .inl (io m), .inl (mA M 6 ((3 * m) + c)), .inl h, .inl (io D), .inl 0, y0] [] t Q)
    (q1 : D < R → X 216 0 [.inr (.inr (12, (some 0))), .inl (io c), .inl (io x), .inl (mA M 6 ((3 * m) + c)), sJk] [] t (sK 216 215 122 [.inr (.inr (12, (some 0))), .inl (io c), .inl (io m), .inl (mA M 6 ((3 * m) + c)), .inl h, .inl (io D), .inl (io x), y0] [] Q)) :
    X 215 108 [.inr (.inr (12, (some 0))), .inl (io c), .inl (io m), .inl (mA M 6 ((3 * m) + c)), .inl h, .inl (io D), .inl (io x), y0] [] t Q := by
  have hRb := gR_le hP hc3 hm
  obtain ⟨a1, a2⟩ := io_abs (hP.1 ((3 * m) + c) (by omega)).1 (hP.1 ((3 * m) + c) (by omega)).2
  have hRe : (mA M 6 ((3 * m) + c)).toInt.natAbs = R := hR
  rw [hRe] at a1 a2
  rw [hR] at hRb
  refine r215_u hV hm hc3 hx (fun h0 h1 => q0 (fun z => h1 ?_)) (fun h0 h1 => q1 ?_) (fun h0 h1 => q0 (fun z => h1 ?_)) (fun h0 h1 => q1 ?_)
  · rw [a1 h0]; exact (io_lt hD (by omega)).mpr z
  · rw [a1 h0] at h1; exact (io_lt hD (by omega)).mp h1
  · rw [a2 h0]; exact (io_lt hD (by omega)).mpr z
  · rw [a2 h0] at h1; exact (io_lt hD (by omega)).mp h1
theorem v215_108 (hP : Pv M) (hm : m < 6) (hc3 : c < 3) (hR : gR M c m = R) : ∀ (d k D : Nat) (V : List Nat) (t : sT) (y0 : sV), k + d = 6 → Vr t M n → leL V (fl (gF M c m) k d) → Am t k V → D ≤ R → R ≤ D + cntN (fl (gF M c m) k d) V →
    (∀ t' (y1 : Int32) (y0 : sV), Vr t' M n → cp t' = cp t → (∀ j, j < k → sA t' 21 28 j = sA t 21 28 j) → Am t' k (dN (fl (gF M c m) k d) (R - D) V) →
      X 215 176 [.inr (.inr (12, (some 0))), .inl (io c), .inl (io m), .inl (mA M 6 ((3 * m) + c)), .inl h, .inl y1, .inl 0, y0] [] t' Q) →
    X 215 108 [.inr (.inr (12, (some 0))), .inl (io c), .inl (io m), .inl (mA M 6 ((3 * m) + c)), .inl h, .inl (io D), .inl (io (k % 6)), y0] [] t Q
  | 0, k, D, [], t, y0, hk, hV, hle, hA, hD, hcl, q => by
    have hRb := gR_le hP hc3 hm
    rw [hR] at hRb
    have hcl2 : R ≤ D + 0 := hcl
    refine v215_u hV hP hm (Nat.mod_lt _ (by decide)) hc3 hR (by omega) (fun _ => ?_) (fun z => by omega)
    exact q t _ _ hV rfl (fun _ _ => rfl) hA
  | 0, k, D, _ :: _, t, y0, hk, hV, hle, hA, hD, hcl, q => by cases hle
  | d + 1, k, D, [], t, y0, hk, hV, hle, hA, hD, hcl, q => by cases hle
  | d + 1, k, D, v :: V, t, y0, hk, hV, hle, hA, hD, hcl, q => by
    have hRb := gR_le hP hc3 hm
    rw [hR] at hRb
    have hk6 : k < 6 := by omega
    have e6 : k % 6 = k := Nat.mod_eq_of_lt hk6
    rw [e6]
    refine v215_u hV hP hm hk6 hc3 hR (by omega) (fun hn => ?_) (fun hlt => ?_)
    · have e : R - D = 0 := by omega
      rw [e, dN_0] at q
      exact q t _ _ hV rfl (fun _ _ => rfl) hA
    · obtain ⟨ha0, hA2⟩ := Am_c hA
      have hg := gF_le (m := m) hP hc3 hk6
      have hv : v ≤ gF M c m k := hle.1
      have hle2 : leL V (fl (gF M c m) (k + 1) d) := hle.2
      have hc0 : cntN (fl (gF M c m) k (d + 1)) (v :: V) = (if v < gF M c m k then 1 else 0) + cntN (fl (gF M c m) (k + 1) d) V := rfl
      rw [hc0] at hcl
      have e1 : dN (fl (gF M c m) k (d + 1)) (R - D) (v :: V) = if 0 < R - D ∧ v < gF M c m k then (v + 1) :: dN (fl (gF M c m) (k + 1) d) (R - D - 1) V else v :: dN (fl (gF M c m) (k + 1) d) (R - D) V := rfl
      rw [e1] at q
      refine v216 hV hP hm hk6 hc3 ?_
      refine sK_i (pc' := 125) rfl ?_
      have er : (io (k + 1)) - (io (k + 1)) / 6 * 6 = io ((k + 1) % 6) := irem_io (q := 6) (by omega) (by decide) (by decide)
      refine r215_u2 hV hm hc3 hk6 (fun h0 => ?_) (fun h0 => ?_)
      · have hn : ¬ v < gF M c m k := fun z => h0 (by rw [ha0]; exact (io_lt (by omega) (by omega)).mpr z)
        rw [if_neg (fun z => hn z.2)] at q
        rw [if_neg hn] at hcl
        rw [er, Int32.add_zero, Int32.add_zero, ha0]
        refine v215_108 hP hm hc3 hR d (k + 1) D V _ _ (by omega) (Vr_28 hV) hle2 (fun i hi => ?_) hD (by omega) (fun t' y1 y2 g1 g2 g3 g4 => q t' y1 y2 g1 (g2.trans cp_A) (fun j hj => ?_) (Am_cons ?_ g4))
        · rw [am_w, if_neg (by omega)]; exact hA2 i hi
        · rw [g3 j (by omega), am_w, if_neg (by omega)]
        · rw [g3 k (by omega), am_w, if_pos rfl]
      · have hn : v < gF M c m k := by rw [ha0] at h0; exact (io_lt (by omega) (by omega)).mp h0
        rw [if_pos ⟨by omega, hn⟩] at q
        rw [if_pos hn] at hcl
        rw [er, ha0, show io v + 1 = io (v + 1) from io_add v 1, show io D + 1 = io (D + 1) from io_add D 1]
        refine v215_108 hP hm hc3 hR d (k + 1) (D + 1) V _ _ (by omega) (Vr_28 hV) hle2 (fun i hi => ?_) (by omega) (by omega) (fun t' y1 y2 g1 g2 g3 g4 => q t' y1 y2 g1 (g2.trans cp_A) (fun j hj => ?_) (Am_cons ?_ ?_))
        · rw [am_w, if_neg (by omega)]; exact hA2 i hi
        · rw [g3 j (by omega), am_w, if_neg (by omega)]
        · rw [g3 k (by omega), am_w, if_pos rfl]
        · rw [show R - D - 1 = R - (D + 1) by omega]; exact g4
theorem v214s (hV : Vr t M n) (hT : mI M 801 = io T) (hT4 : T < 4096) (hm : m < 6) (hk : k < 6) (hc3 : c < 3)
    (q : ∀ t', Vr t' (pon M T c m k a) n → cp t' = cp t → sp t' = sp t → Q (.inl none) t') :
    X 214 0 [.inr (.inr (12, (some 0))), .inl (io c), .inl (io m), .inl (io k), .inl a, sJk] [] t Q := by
  refine r214 hV hm hk hc3 (by omega) (fun g => ?_) (fun g => ?_)
  · refine r164 (s := true) (w := false) hV.1 hV.2.1 hV.2.2 hT hT4 hc3 hm hk (fun t1 h1 c1 s1 => ?_)
    refine sK_v (pc' := 46) rfl ?_
    have e : mbF M T c true m k (mA M 1 c) a false = pon M T c m k a := by unfold pon; rw [decide_eq_false g]; rfl
    rw [e] at h1
    have V1 := Vr_mk hV h1 c1 Fr_pon
    exact r214_e V1 hm hk hc3 (q t1 V1 c1 s1)
  · refine r164 (s := false) (w := false) hV.1 hV.2.1 hV.2.2 hT hT4 hc3 hm hk (fun t1 h1 c1 s1 => ?_)
    refine sK_v (pc' := 46) rfl ?_
    have e : mbF M T c false m k (mA M 1 c) a false = pon M T c m k a := by unfold pon; rw [decide_eq_true g]; rfl
    rw [e] at h1
    have V1 := Vr_mk hV h1 c1 Fr_pon
    exact r214_e V1 hm hk hc3 (q t1 V1 c1 s1)
theorem v215_176 (hm : m < 6) (hc3 : c < 3) {x9 d9 h9 : Int32} (ea : ¬ x9 = 0) (hb : ∀ i, V.getD i 0 < 2 ^ 31) : ∀ (d k : Nat) (t : sT) (T : Nat) (y0 : sV), k + d = 6 → Vr t (teL M c m V k) n → mI (teL M c m V k) 801 = io T → T + d < 4096 → (∀ i, k ≤ i → i < 6 → sA t 21 28 i = io (V.getD i 0)) →
    (∀ t' T', Vr t' (teL M c m V 6) n → mI (teL M c m V 6) 801 = io T' → T' ≤ T + d → cp t' = cp t → Q (.inl none) t') →
    X 215 176 [.inr (.inr (12, (some 0))), .inl (io c), .inl (io m), .inl x9, .inl d9, .inl h9, .inl (io k), y0] [] t Q
  | 0, k, t, T, y0, hk, hV, hI, hT, hG, q => by
    have e : k = 6 := by omega
    subst e
    exact r215_q hV hm hc3 (q t T hV hI (Nat.le_refl _) rfl)
  | d + 1, k, t, T, y0, hk, hV, hI, hT, hG, q => by
    have hk6 : k < 6 := by omega
    have hv := hb k
    have e : teL M c m V (k + 1) = teS (teL M c m V k) c m k (V.getD k 0) := rfl
    have ih : ∀ t' T' (x0 : sV), Vr t' (teS (teL M c m V k) c m k (V.getD k 0)) n → mI (teS (teL M c m V k) c m k (V.getD k 0)) 801 = io T' → T' ≤ T + 1 → cp t' = cp t → (∀ i, k + 1 ≤ i → i < 6 → sA t' 21 28 i = io (V.getD i 0)) → X 215 176 [.inr (.inr (12, (some 0))), .inl (io c), .inl (io m), .inl x9, .inl d9, .inl h9, .inl (io (k + 1)), x0] [] t' Q := fun t' T' x0 V1 i1 h1 c1 h2 =>
      v215_176 hm hc3 ea hb d (k + 1) t' T' x0 (by omega) (by rw [e]; exact V1) (by rw [e]; exact i1) (by omega) h2 (fun t2 T2 g1 g2 g3 g4 => q t2 T2 g1 g2 (by omega) (g4.trans c1))
    have hTN : tN (teL M c m V k) = T := by unfold tN; rw [hI]; exact nn_io (by omega)
    have hG0 := hG k (Nat.le_refl _) hk6
    generalize teL M c m V k = Y at *
    unfold teS at ih
    refine r215_p hV hm hc3 hk6 (fun z => absurd z ea) (fun _ g => ?_) (fun _ g => ?_)
    · rw [hG0] at g
      rw [if_neg (fun z => g ((io_pos hv).mpr z))] at ih
      exact ih t T _ hV hI (Nat.le_succ T) rfl (fun i h1 h2 => hG i (by omega) h2)
    · rw [hG0] at g ⊢
      rw [if_pos ((io_pos hv).mp g), hTN] at ih
      refine v214s hV hI (by omega) hm hk6 hc3 (fun t1 V1 c1 s1 => ?_)
      refine sK_v (pc' := 212) rfl ?_
      exact r215_p2 V1 hm hc3 hk6 (ih t1 (T + 1) _ V1 pon_T (Nat.le_refl _) c1 (fun i h1 h2 => (am_sp s1).trans (hG i (by omega) h2)))
theorem v215 (hV : Vr t M n) (hP : Pv M) (hZ : Zs M) (hm : m < 6) (hc3 : c < 3) (hI : mI M 801 = io T) (hT : T + 6 < 4096)
    (q : ∀ t' T', Vr t' (teF M c m) n → mI (teF M c m) 801 = io T' → T' ≤ T + 6 → cp t' = cp t → Q (.inl none) t') :
    X 215 0 [.inr (.inr (12, (some 0))), .inl (io c), .inl (io m), sJk, sJk, sJk, sJk, sJk] [] t Q := by
  have hR := gR_le hP hc3 hm
  have hall := g_all hZ hc3 hm
  have hbd := fl_bd (f := gF M c m) (K := 1000000) 6 0 (fun x _ h => gF_le hP hc3 (by omega))
  obtain ⟨a1, a2⟩ := io_abs (hP.1 ((3 * m) + c) (by omega)).1 (hP.1 ((3 * m) + c) (by omega)).2
  have hRe : (mA M 6 ((3 * m) + c)).toInt.natAbs = gR M c m := rfl
  rw [hRe] at a1 a2
  have h60 : 60 = 60 := rfl
  refine r215_0 hV hm hc3 (by omega) ?_
  refine v215_20 hV hP hm hc3 6 0 0 _ rfl ?_
  rw [Nat.zero_add]
  refine r215_e hV hm hc3 ?_
  unfold teF at q
  obtain ⟨k1, k2, k3⟩ := pt_ok hall
  have hpt : ∀ i, (ptN (gF M c m) (gR M c m)).getD i 0 < 2 ^ 31 := fun i => by
    by_cases h : i < 6
    · have h1 := pt_get hall h
      have h2 := gF_le (m := m) hP hc3 h
      omega
    · rw [getD_far (by rw [pt_len]; omega)]
      decide
  have hlen : (ptN (gF M c m) (gR M c m)).length = 6 := pt_len
  have hpt2 : ptN (gF M c m) (gR M c m) = dN (fl (gF M c m) 0 6) (gR M c m - (fl (p0N (gF M c m) (gR M c m)) 0 6).sum) (fl (p0N (gF M c m) (gR M c m)) 0 6) := rfl
  have hp0 : p0N (gF M c m) (gR M c m) = fun x => gR M c m * gF M c m x / (fl (gF M c m) 0 6).sum := rfl
  rw [hp0] at k1 k2 k3 hpt2
  by_cases e0 : mA M 6 ((3 * m) + c) = 0
  · have hR0 : gR M c m = 0 := by unfold gR; rw [e0]; rfl
    rw [if_pos hR0] at q
    refine r215_s (x := 0) hV hm hc3 (by decide) (fun _ => ?_) (fun z => absurd e0 z)
    refine r215_u (x := 0) hV hm hc3 (by decide) (fun h0 h1 => ?_) (fun h0 h1 => ?_) (fun h0 h1 => ?_) (fun h0 h1 => ?_)
    · refine r215_p (x := 0) hV hm hc3 (by decide) (fun _ => q t T hV hI (by omega) rfl) (fun z => absurd e0 z) (fun z => absurd e0 z)
    · rw [e0] at h1; exact absurd h1 (by decide)
    · rw [e0] at h0; exact absurd h0 (by decide)
    · rw [e0] at h0; exact absurd h0 (by decide)
  · have hR0 : ¬ gR M c m = 0 := fun z => e0 (Int32.toInt_inj.mp (by
      have e9 : (0 : Int32).toInt = 0 := rfl
      unfold gR at z
      omega))
    rw [if_neg hR0] at q
    generalize (fl (gF M c m) 0 6).sum = H at *
    refine v215_49 hP hm hc3 e0 rfl (by omega) (by omega) 6 0 0 t _ rfl hV (fun t1 y2 g1 g2 _ g4 => ?_)
    rw [Nat.zero_add]
    refine r215_t g1 hm hc3 ?_
    refine v215_108 hP hm hc3 rfl 6 0 _ _ t1 _ rfl g1 k3 g4 k1 k2 (fun t2 y3 y4 f1 f2 _ f4 => ?_)
    rw [← hpt2] at f4
    refine v215_176 (M := M) (V := ptN (gF M c m) (gR M c m)) hm hc3 e0 hpt 6 0 t2 T _ rfl f1 hI (by omega) (fun i _ hi => ?_) (fun t3 T3 j1 j2 j3 j4 => q t3 T3 j1 j2 j3 (j4.trans (f2.trans g2)))
    have := f4 i (by rw [hlen]; exact hi)
    rw [Nat.zero_add] at this
    exact this
/-- all positions -/
theorem r219_te (hm : m < 6) (hPZ : ∀ c, c < 3 → Pv (teA M m c) ∧ Zs (teA M m c)) : ∀ (d c : Nat) (t : sT) (T : Nat) (y0 : sV), c + d = 3 → Vr t (teA M m c) n → mI (teA M m c) 801 = io T → T + 6 * d < 4096 →
    (∀ t' T' e0, Vr t' (teA M m 3) n → mI (teA M m 3) 801 = io T' → T' ≤ T + 6 * d → cp t' = cp t → X 219 97 [.inr (.inr (12, (some 0))), .inl (io m), .inl (bz z), .inl (-1), .inl 3, e0] [] t' Q) →
    X 219 97 [.inr (.inr (12, (some 0))), .inl (io m), .inl (bz z), .inl (-1), .inl (io c), y0] [] t Q
  | 0, c, t, T, y0, hc, hV, hI, hT, q => by
    have e : c = 3 := by omega
    subst e
    exact q t T _ hV hI (by omega) rfl
  | d + 1, c, t, T, y0, hc, hV, hI, hT, q => by
    have hc3 : c < 3 := by omega
    have go : ∀ a : Int32, X 215 0 [.inr (.inr (12, (some 0))), .inl (io c), .inl (io m), sJk, sJk, sJk, sJk, sJk] [] t (sK 215 219 128 [.inr (.inr (12, (some 0))), .inl (io m), .inl (bz z), .inl (-1), .inl (io c), .inl a] [] Q) := fun a => by
      refine v215 hV (hPZ c hc3).1 (hPZ c hc3).2 hm hc3 hI (by omega) (fun t1 T1 g1 g2 g3 g4 => ?_)
      refine sK_v (pc' := 131) rfl ?_
      refine r219_4n g1 hm hc3 ?_
      exact r219_te hm hPZ d (c + 1) t1 T1 _ (by omega) g1 g2 (by omega) (fun t2 T2 e0 f1 f2 f3 f4 => q t2 T2 e0 f1 f2 (by omega) (f4.trans g4))
    refine r219_2n hV hm hc3 (by omega) (fun _ => go _) (fun _ => go _)
end S99ze
