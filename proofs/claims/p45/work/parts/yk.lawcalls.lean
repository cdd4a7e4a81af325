/-! the calls that change the state, as the law goes on with them -/
section Syk
variable {t t' t0 : sT} {M M' M0 N Y Z R : sM} {n n' T T' A B A' B' b c m o k x e f sz i j L q d g E : Nat} {p a u v w h' c0 c1 c2 : Int32} {s z : Bool} {pA pB xs : Nat → Int32} {r : Option Nat} {rs : Rs4} {Q : sRs → sT → Prop} {ls : List sV} {es : List Nat}
theorem ouN_e (h : mB N 2 = mB M 2) : ouN N = ouN M := by unfold ouN; rw [h]
theorem ouN_m0 : ouN (m0 M) = ouN M := rfl
theorem vX_e (h : vX M e) : vX M (e + 1) := by
  obtain ⟨x1, x2, x3, x4, x5, x6, x7, x8⟩ := h
  exact ⟨x1, x2, Po_le x3 (by omega), x4, by omega, x6, x7, x8⟩
theorem Vw_e (h : Vw M n e pA) : Vw M n (e + 1) pA := ⟨Hv_e h.1, vX_e h.2.1, h.2.2⟩
theorem La_2 (h : La t M n T A B xs L pA c0 c1 c2) (e : c2 = w) : La t M n T A B xs L pA c0 c1 w := by subst e; exact h
/-- orders -/
theorem l_gen (h : La t M n T A B xs L pA c0 c1 (io (ouN M))) (hV : Vr3 rs M n e d pA pB) (hv : Vw M n e pA) (hC : ∀ Ls Q', Wc t M n T Ls A B → Kc t T A B 0 [0, 1, 2] rs Q' → X g 0 ls [] t Q')
    (q1 : ∀ t' M' T' v, v < 0 → La t' M' n T' (A + 2) (B + 12) xs L pA c0 c1 (io (ouN M')) → Vw M' n e pA → T ≤ T' → Q (.inl (some (.inl v))) t')
    (q2 : ∀ t' M' T', La t' M' (n + d) T' (A + 2) (B + 12) xs L pA c0 c1 (io (ouN M')) → Vw M' (n + d) e pB → T ≤ T' → Q (.inl (some (.inl (io n)))) t') : X g 0 ls [] t (oF (-2) 2 Q) := by
  have hT := La_T h
  rcases hV with e1 | ⟨N, ⟨t1, t2⟩, ⟨e1, w1⟩ | ⟨e1, w1⟩⟩
  · exact La_er (k := 2) (E := 2) h hC e1 rfl (fun t' h' => ⟨rfl, q1 t' M T (-2) (by decide) h' hv (Nat.le_refl _)⟩)
  · refine La_ok h hC e1 (fun t' T' h' _ => q1 t' (m0 N) T' (-1) (by decide) (La_2 h' (by rw [ouN_m0, ouN_e t2])) (Vw_m0 w1) ?_)
    have := La_T h'
    rw [tN_m0] at this
    omega
  · refine La_ok h hC e1 (fun t' T' h' _ => q2 t' (m0 N) T' (La_2 h' (by rw [ouN_m0, ouN_e t2])) (Vw_m0 w1) ?_)
    have := La_T h'
    rw [tN_m0] at this
    omega
theorem l_94 (h : La t M n T A B xs L pA c0 c1 (io (ouN M))) (hv : Vw M n e pA) (he : e ≤ 90) (hm : m < 6) (hb : b < 5) (h1 : 1 ≤ sz) (h2 : sz ≤ 12) (hp : vPb b p) (hf : f ≤ sz) (hf1 : 1 ≤ f)
    (q1 : ∀ t' M' T' v, v < 0 → La t' M' n T' (A + 2) (B + 12) xs L pA c0 c1 (io (ouN M')) → Vw M' n e pA → T ≤ T' → Q (.inl (some (.inl v))) t')
    (q2 : ∀ t' M' T', La t' M' (n + 1) T' (A + 2) (B + 12) xs L pA c0 c1 (io (ouN M')) → Vw M' (n + 1) e (pW pA n (nt p (io sz) s)) → T ≤ T' → Q (.inl (some (.inl (io n)))) t') : X 261 0 [.inr (.inr (11, (some 0))), .inl (io m), .inl (io b), .inl (bz s), .inl p, .inl (io sz), .inl (io f), sJk] [] t Q :=
  w_261 (l_gen h (Vr3_94 hv (by omega) hm hb h1 h2 hp hf hf1) hv (fun Ls Q' hW k => C94 h.2.1 hW hv.1.1 (Hv_Pv hv.1 (by omega)) k) q1 q2)
theorem l_95 (h : La t M n T A B xs L pA c0 c1 (io (ouN M))) (hv : Vw M n e pA) (he : e ≤ 90) (hm : m < 6) (hb : b < 5) (h1 : 1 ≤ sz) (h2 : sz ≤ 12) (hp : vPb b p)
    (q1 : ∀ t' M' T' v, v < 0 → La t' M' n T' (A + 2) (B + 12) xs L pA c0 c1 (io (ouN M')) → Vw M' n e pA → T ≤ T' → Q (.inl (some (.inl v))) t')
    (q2 : ∀ t' M' T', La t' M' (n + 1) T' (A + 2) (B + 12) xs L pA c0 c1 (io (ouN M')) → Vw M' (n + 1) e (pW pA n (nt p (io sz) s)) → T ≤ T' → Q (.inl (some (.inl (io n)))) t') : X 262 0 [.inr (.inr (11, (some 0))), .inl (io m), .inl (io b), .inl (bz s), .inl p, .inl (io sz), sJk] [] t Q :=
  w_262 (l_gen h (Vr3_95 hv (by omega) hm hb h1 h2 hp) hv (fun Ls Q' hW k => C95 h.2.1 hW hv.1.1 (Hv_Pv hv.1 (by omega)) k) q1 q2)
theorem l_96 (h : La t M n T A B xs L pA c0 c1 (io (ouN M))) (hv : Vw M n e pA) (he : e ≤ 90) (hm : m < 6) (hb : b < 5) (h1 : 1 ≤ sz) (h2 : sz ≤ 12) (hp : vPb b p) (hh : vPb b u)
    (q1 : ∀ t' M' T' v, v < 0 → La t' M' n T' (A + 2) (B + 12) xs L pA c0 c1 (io (ouN M')) → Vw M' n e pA → T ≤ T' → Q (.inl (some (.inl v))) t')
    (q2 : ∀ t' M' T', La t' M' (n + 1) T' (A + 2) (B + 12) xs L pA c0 c1 (io (ouN M')) → Vw M' (n + 1) e (pW pA n (nt p (io sz) s)) → T ≤ T' → Q (.inl (some (.inl (io n)))) t') : X 263 0 [.inr (.inr (11, (some 0))), .inl (io m), .inl (io b), .inl (bz s), .inl p, .inl (io sz), .inl u, sJk] [] t Q :=
  w_263 (l_gen h (Vr3_96 hv hm hb h1 h2 hp hh) hv (fun Ls Q' hW k => C96 h.2.1 hW hv.1.1 (Hv_Pv hv.1 (by omega)) k) q1 q2)
theorem l_97 (h : La t M n T A B xs L pA c0 c1 (io (ouN M))) (hv : Vw M n e pA) (he : e ≤ 90) (hm : m < 6) (hb : b < 5) (h1 : 1 ≤ sz) (h2 : sz ≤ 12) (hp : vPb b p) (hu : vPb b u) (hpu : p < u)
    (q1 : ∀ t' M' T' v, v < 0 → La t' M' n T' (A + 2) (B + 12) xs L pA c0 c1 (io (ouN M')) → Vw M' n e pA → T ≤ T' → Q (.inl (some (.inl v))) t')
    (q2 : ∀ t' M' T', La t' M' (n + 2) T' (A + 2) (B + 12) xs L pA c0 c1 (io (ouN M')) → Vw M' (n + 2) e (pW (pW pA n (nt p (io sz) true)) (n + 1) (nt u (io sz) false)) → T ≤ T' → Q (.inl (some (.inl (io n)))) t') : X 264 0 [.inr (.inr (11, (some 0))), .inl (io m), .inl (io b), .inl p, .inl u, .inl (io sz), sJk] [] t Q :=
  w_264 (l_gen h (Vr3_97 hv (by omega) hm hb h1 h2 hp hu hpu) hv (fun Ls Q' hW k => C97 h.2.1 hW hv.1.1 (Hv_Pv hv.1 (by omega)) k) q1 q2)
/-- uncrossing -/
theorem l_86 (h : La t M n T A B xs L pA c0 c1 (io (ouN M))) (hv : Vw M n e pA) (he : e ≤ 90) (hb : b < 5) (hp : mA M 0 b = 1 ∨ mA M 0 b = 3)
    (q : ∀ t' M' T' K, La t' M' n T' (A + 2) (B + 12) xs L pA c0 c1 (io (ouN M')) → Vw M' n e pA → T ≤ T' → K < 2 ^ 31 → (K = 0 ↔ auF M n b = -10000) → (mA M' 0 b = 2 ∨ mA M' 0 b = 3) → (0 < K → T < T') → (n = 0 → T' = T ∧ (∀ j, mA M' 0 j = if j = b then 2 else mA M 0 j) ∧ ouN M' = ouN M) → Q (.inl (some (.inl (io K)))) t') : X 86 0 [.inr (.inr (11, (some 0))), .inl (io b), sJk, sJk] [] t Q := by
  have hT := La_T h
  have hT2 := (Hv_T hv.1)
  obtain ⟨N, e1, w1, t1, p1, u1, b1, z1⟩ := Vw_86 hv (by omega) hb hp
  have hm : m0 M = M := h.2.2.1
  refine La_ok h (fun Ls Q' hW k => C86 hW hv.1.1 (by omega) k) e1 (fun t' T' h' _ => ?_)
  have hTN := La_T h'
  rw [tN_m0] at hTN
  have hn := La_n h
  have K0 := usz_0 (b := b) (Kv_nq (M := m0 M) (n := n) (by rw [hm]; exact hv.1.1)).1.1
  have Kl := usz_le (b := b) (Kv_nq (M := m0 M) (n := n) (by rw [hm]; exact hv.1.1)).1.1
  rw [au_nq (by rw [hm]; exact hv.1.1), hm] at K0
  rw [hm] at u1 Kl ⊢
  refine q t' (m0 N) T' _ (La_2 h' (by rw [ouN_m0, ouN_e b1])) (Vw_m0 w1) (by omega) (by omega) K0 p1 (fun z => by have := u1 z; omega) (fun z => ⟨by have := (z1 z).1; omega, (z1 z).2, by rw [ouN_m0, ouN_e b1]⟩)
theorem l_86f (h : La t M n T A B xs L pA c0 c1 (io (ouN M))) (hv : Vw M n e pA) (he : e ≤ 90) (hb : b < 5) (hp : mA M 0 b = 1 ∨ mA M 0 b = 3)
    (q : ∀ t' M' T' K, La t' M' n T' (A + 2) (B + 12) xs L pA c0 c1 (io (ouN M')) → Vw M' n e pA → T ≤ T' → K < 2 ^ 31 → (K = 0 ↔ auF M n b = -10000) → (mA M' 0 b = 2 ∨ mA M' 0 b = 3) → (0 < K → T < T') → (n = 0 → T' = T ∧ (∀ j, mA M' 0 j = if j = b then 2 else mA M 0 j) ∧ ouN M' = ouN M) → Q (.inl (some (.inl (io K)))) t') : X 260 0 [.inr (.inr (11, (some 0))), .inl (io b), sJk] [] t Q :=
  w_260 (l_86 h hv he hb hp (Q := oF (-2) 2 Q) q)
theorem l_86e (h : La t M n T A B xs L pA c0 c1 c2) (hv : Vw M n e pA) (hb : b < 5) (hp : ¬ (mA M 0 b = 1 ∨ mA M 0 b = 3))
    (q : ∀ t', La t' M n T (A + 2) (B + 12) xs L pA c0 c1 c2 → Q (.inl (some (.inl (-2)))) t') : X 260 0 [.inr (.inr (11, (some 0))), .inl (io b), sJk] [] t Q := by
  have hT := La_T h
  have hT2 := (Hv_T hv.1)
  refine w_260 (La_er (k := 1) (E := 2) (r := sp86 M n (io b)) (es := [0, 2]) h (fun Ls Q' hW k => C86 hW hv.1.1 (by omega) k) ?_ rfl (fun t' h' => ⟨rfl, q t' h'⟩))
  unfold sp86
  rw [ixo_in (by decide) hb]
  simp only []
  rw [if_neg hp]
/-- a cancel -/
theorem l_98 (h : La t M n T A B xs L pA c0 c1 (io (ouN M))) (hv : Vw M n e pA) (he : e ≤ 90) (ho : o < n) (hs : mA M 19 o = 0 ∨ mA M 19 o = 1)
    (q : ∀ t' M' T', La t' M' n T' (A + 2) (B + 12) xs L pA c0 c1 (io (ouN M')) → Vw M' n e pA → T ≤ T' → mA M' 19 o = 3 → mA M' 17 o = 0 → Q (.inl (some (.inl (mA M 15 o)))) t') : X 265 0 [.inr (.inr (11, (some 0))), .inl (io o), sJk] [] t Q := by
  have hT := La_T h
  have hn := La_n h
  refine w_265 (La_ok (r := sp98 M n (io o)) (es := [0, 2]) (d := 0) (v := mA M 15 o) (N := cnF (m0 M) o) (n' := n) h (fun Ls Q' hW k => C98 hW k) ?_ (fun t' T' h' _ => ?_))
  · unfold sp98
    rw [ixo_in (by omega) ho]
    simp only []
    rcases hs with g | g
    · rw [if_pos g]
    · rw [if_neg (by rw [g]; decide), if_pos g]
  · refine q t' _ T' (La_2 h' rfl) (Vw_98 hv (by omega) ho hs) ?_ ?_ ?_
    · have := La_T h'
      rw [tN_m0, tN_e (N := cnF (m0 M) o) (M := m0 M) rfl, tN_m0] at this
      omega
    · show mA (cnF (m0 M) o) 19 o = 3
      rw [cn_19, if_pos rfl]
    · show (if 17 = 17 ∧ o = o then (0 : Int32) else _) = 0
      exact if_pos ⟨rfl, rfl⟩
theorem l_98e (h : La t M n T A B xs L pA c0 c1 c2) (ho : o < n) (hs : ¬ (mA M 19 o = 0 ∨ mA M 19 o = 1))
    (q : ∀ t', La t' M n T (A + 2) (B + 12) xs L pA c0 c1 c2 → Q (.inl (some (.inl (-2)))) t') : X 265 0 [.inr (.inr (11, (some 0))), .inl (io o), sJk] [] t Q := by
  have hn := La_n h
  refine w_265 (La_er (k := 1) (E := 2) (r := sp98 M n (io o)) (es := [0, 2]) (d := 0) h (fun Ls Q' hW k => C98 hW k) ?_ rfl (fun t' h' => ⟨rfl, q t' h'⟩))
  unfold sp98
  rw [ixo_in (by omega) ho]
  simp only []
  rw [if_neg (fun z => hs (Or.inl z)), if_neg (fun z => hs (Or.inr z))]
theorem l_98n (h : La t M 0 T A B xs L pA c0 c1 c2)
    (q : ∀ t', La t' M 0 T (A + 2) (B + 12) xs L pA c0 c1 c2 → Q (.inl (some (.inl (-3)))) t') : X 273 0 [.inr (.inr (11, (some 0))), sJk] [] t Q := by
  refine w_273 (La_er (k := 0) (E := 0) (r := sp98 M 0 0) (es := [0, 2]) (d := 0) h (fun Ls Q' hW k => C98 hW k) ?_ rfl (fun t' h' => ⟨rfl, q t' h'⟩))
  unfold sp98
  have : ixo 0 0 = none := by unfold ixo; decide
  rw [this]
/-- a bust -/
theorem ou_pos (hm : m < 6) (h : mB M 2 m = true) : 0 < ouN M := by
  have e := sumN_up (f := fun k => if mB M 2 k = true then 1 else 0) (g := fun k => if k = m then 0 else if mB M 2 k = true then 1 else 0) (n := 6) hm (fun k _ hk => (if_neg hk).symm)
  have e2 : ouN M + (if m = m then 0 else if mB M 2 m = true then 1 else 0) = sumN (fun k => if k = m then 0 else if mB M 2 k = true then 1 else 0) 6 + (if mB M 2 m = true then 1 else 0) := e
  rw [if_pos rfl, if_pos h] at e2
  omega
theorem l_99 (h : La t M n T A B xs L pA c0 c1 (io (ouN M))) (hv : Vw M n e pA) (he : e ≤ 90) (hx : x < T)
    (q1 : ∀ t', La t' M n T (A + 2) (B + 12) xs L pA c0 c1 (io (ouN M)) → (mB M 7 x = true ∨ 0 < ouN M) → Q (.inl (some (.inl (-2)))) t')
    (q2 : ∀ t' M', La t' M' n T (A + 2) (B + 12) xs L pA c0 c1 (io (ouN M')) → Vw M' n (e + 1) pA → mB M 7 x = false → mB M' 7 x = true → mA M' 25 x = mA M 25 x → 0 < mA M 25 x → Q (.inl (some (.inl (mA M 25 x)))) t') : X 266 0 [.inr (.inr (11, (some 0))), .inl (io x), sJk] [] t Q := by
  have hT := La_T h
  have hTi := La_Ti h
  obtain ⟨-, ⟨-, k2⟩, -, k3⟩ := hTi.2.2 x hx
  have hpos := (hv.2.1.2.2.2.2.2.2.1 x (by omega)).1
  refine w_266 ?_
  by_cases c1 : mB M 7 x = true
  · refine La_er (k := 1) (E := 2) (r := sp99 M n T (io x)) (es := [0, 2]) (d := 0) h (fun Ls Q' hW k => C99 hW k) ?_ rfl (fun t' h' => ⟨rfl, q1 t' h' (Or.inl c1)⟩)
    unfold sp99
    rw [ixo_in (by have := hTi.2.1; omega) hx]
    simp only []
    rw [if_pos c1]
  · by_cases c2 : mB M 2 (tB M x) = true
    · refine La_er (k := 1) (E := 2) (r := sp99 M n T (io x)) (es := [0, 2]) (d := 0) h (fun Ls Q' hW k => C99 hW k) ?_ rfl (fun t' h' => ⟨rfl, q1 t' h' (Or.inr (ou_pos k2 c2))⟩)
      unfold sp99
      rw [ixo_in (by have := hTi.2.1; omega) hx]
      simp only []
      rw [if_neg c1, if_pos c2]
    · by_cases c3 : mB M 2 (tS M x) = true
      · refine La_er (k := 1) (E := 2) (r := sp99 M n T (io x)) (es := [0, 2]) (d := 0) h (fun Ls Q' hW k => C99 hW k) ?_ rfl (fun t' h' => ⟨rfl, q1 t' h' (Or.inr (ou_pos k3 c3))⟩)
        unfold sp99
        rw [ixo_in (by have := hTi.2.1; omega) hx]
        simp only []
        rw [if_neg c1, if_neg c2, if_pos c3]
      · obtain ⟨N, e1, w1, t1, b1, a1, b2⟩ := Vw_99 hv (by omega) hTi hT hx c1 c2 c3
        refine La_ok (es := [0, 2]) (d := 0) h (fun Ls Q' hW k => C99 hW k) e1 (fun t' T' h' _ => ?_)
        have hTN := La_T h'
        rw [tN_m0, t1] at hTN
        have eT : T' = T := by omega
        subst eT
        exact q2 t' (m0 N) (La_2 h' (by rw [ouN_m0, ouN_e b2])) (Vw_m0 w1) (by cases hz : mB M 7 x; rfl; exact absurd hz c1) b1 a1 hpos
/-- a deposit -/
theorem l_89v (hv : Vw M n e pA) (h0 : m0 M = M) (hm : m < 6) (h1 : -1000000 ≤ p.toInt) (h2 : p.toInt ≤ 1000000) : sp89 M n (io m) p = er M n 3 ∨ (∃ v, ¬ v < 0 ∧ v = mA M 4 m + p ∧ sp89 M n (io m) p = ok v (mAw (m0 M) 4 m v) n ∧ Vw (m0 (mAw (m0 M) 4 m v)) n e pA) := by
  have e1 : (-1000000 : Int32).toInt = -1000000 := rfl
  have e2 : (1000000 : Int32).toInt = 1000000 := rfl
  have e3 : (100000000 : Int32).toInt = 100000000 := rfl
  have e0 : (0 : Int32).toInt = 0 := rfl
  have h8 := hv.2.1.2.2.2.2.2.2.2 m hm
  have hs : (mA M 4 m + p).toInt = (mA M 4 m).toInt + p.toInt := i_add (by omega) (by omega)
  unfold sp89
  rw [ixo_in (by decide) hm]
  simp only []
  rw [if_neg (by rw [Int32.lt_iff_toInt_lt]; omega), if_neg (by rw [Int32.lt_iff_toInt_lt]; omega)]
  by_cases c1 : mB M 2 m = true
  · rw [if_pos c1]; exact Or.inl rfl
  · rw [if_neg c1]
    by_cases c2 : mA M 4 m + p < 0
    · rw [if_pos c2]; exact Or.inl rfl
    · rw [if_neg c2]
      by_cases c3 : 100000000 < mA M 4 m + p
      · rw [if_pos c3]; exact Or.inl rfl
      · rw [if_neg c3]
        by_cases c4 : p < 0 ∧ fdF M n m + p < ndF M n m
        · rw [if_pos c4]; exact Or.inl rfl
        · rw [if_neg c4]
          have c1' : mB M 2 m = false := by cases hz : mB M 2 m; rfl; exact absurd hz c1
          rw [Int32.lt_iff_toInt_lt] at c3
          have c2' := c2
          rw [Int32.lt_iff_toInt_lt] at c2'
          exact Or.inr ⟨_, c2, rfl, rfl, Vw_89 hv c1' (by omega) (by omega)⟩
theorem l_89 (h : La t M n T A B xs L pA c0 c1 (io (ouN M))) (hv : Vw M n e pA) (he : e ≤ 90) (hm : m < 6) (h1 : -1000000 ≤ p.toInt) (h2 : p.toInt ≤ 1000000)
    (q : ∀ t' M' T' v, La t' M' n T' (A + 2) (B + 12) xs L pA c0 c1 (io (ouN M')) → Vw M' n e pA → T ≤ T' → (¬ v < 0 ∨ v = -2) → Q (.inl (some (.inl v))) t') : X 268 0 [.inr (.inr (11, (some 0))), .inl (io m), .inl p, sJk] [] t Q := by
  have hT := La_T h
  have hC : ∀ Ls Q', Wc t M n T Ls A B → Kc t T A B 0 [0, 1, 2] (sp89 M n (io m) p) Q' → X 89 0 [.inr (.inr (11, (some 0))), .inl (io m), .inl p, sJk, sJk] [] t Q' := fun Ls Q' hW k => C89 h.2.1 hW hv.1.1 (Hv_Pv hv.1 (by omega)) k
  refine w_268 ?_
  rcases l_89v hv h.2.2.1 hm h1 h2 with e1 | ⟨v, v1, -, e1, w1⟩
  · exact La_er (k := 2) (E := 2) h hC e1 rfl (fun t' h' => ⟨rfl, q t' M T (-2) h' hv (Nat.le_refl _) (Or.inr rfl)⟩)
  · refine La_ok h hC e1 (fun t' T' h' _ => q t' _ T' v (La_2 h' rfl) w1 ?_ (Or.inl v1))
    have := La_T h'
    rw [tN_m0, tN_e (N := mAw (m0 M) 4 m v) (M := m0 M) rfl, tN_m0] at this
    omega
theorem l_89e (h : La t M n T A B xs L pA c0 c1 c2) (hv : Vw M n e pA) (he : e ≤ 90) (hm : m < 6) (ho : mB M 2 m = true)
    (q : ∀ t', La t' M n T (A + 2) (B + 12) xs L pA c0 c1 c2 → Q (.inl (some (.inl (-2)))) t') : X 268 0 [.inr (.inr (11, (some 0))), .inl (io m), .inl 5, sJk] [] t Q := by
  refine w_268 (La_er (k := 2) (E := 2) (r := sp89 M n (io m) 5) (es := [0, 1, 2]) (d := 0) h (fun Ls Q' hW k => C89 h.2.1 hW hv.1.1 (Hv_Pv hv.1 (by omega)) k) ?_ rfl (fun t' h' => ⟨rfl, q t' h'⟩))
  unfold sp89
  rw [ixo_in (by decide) hm]
  simp only []
  rw [if_neg (by decide), if_neg (by decide), if_pos ho]
/-- a bid -/
theorem cct_b : ∀ b0 b1 b2 b3 b4 b5 : Bool, (b0 || b1 || b2 || b3 || b4 || b5) = true → ¬ ((((((0 + (bz b0)) + (bz b1)) + (bz b2)) + (bz b3)) + (bz b4)) + (bz b5)) = 0 := by decide
theorem cct_ne (hm : m < 6) (h : mB M 1 m = true) : ¬ cctF M n = 0 := by
  unfold cctF
  refine cct_b _ _ _ _ _ _ ?_
  match m, hm, h with
  | 0, _, h => rw [h]; simp
  | 1, _, h => rw [h]; simp
  | 2, _, h => rw [h]; simp
  | 3, _, h => rw [h]; simp
  | 4, _, h => rw [h]; simp
  | 5, _, h => rw [h]; simp
theorem l_100 (h : La t M n T A B xs L pA c0 c1 (io (ouN M))) (hv : Vw M n e pA) (hm : m < 6) (h1 : -1000000 ≤ p.toInt) (h2 : p.toInt ≤ 1000000)
    (q : ∀ t' M' T' v, La t' M' n T' (A + 2) (B + 12) xs L pA c0 c1 (io (ouN M')) → Vw M' n e pA → T ≤ T' → ¬ v = 0 → Q (.inl (some (.inl v))) t') : X 269 0 [.inr (.inr (11, (some 0))), .inl (io m), .inl p, sJk] [] t Q := by
  have hT := La_T h
  have e1 : (-1000000 : Int32).toInt = -1000000 := rfl
  have e2 : (1000000 : Int32).toInt = 1000000 := rfl
  have hC : ∀ Ls Q', Wc t M n T Ls A B → Kc t T A B 0 [0, 1, 2] (sp100 M n (io m) p) Q' → X 100 0 [.inr (.inr (11, (some 0))), .inl (io m), .inl p, sJk] [] t Q' := fun Ls Q' hW k => C100 hW k
  refine w_269 ?_
  by_cases c1 : mB M 2 m = true
  · refine La_er (k := 2) (E := 2) h hC ?_ rfl (fun t' h' => ⟨rfl, q t' M T (-2) h' hv (Nat.le_refl _) (by decide)⟩)
    unfold sp100
    rw [ixo_in (by decide) hm]
    simp only []
    rw [if_neg (by rw [Int32.lt_iff_toInt_lt]; omega), if_neg (by rw [Int32.lt_iff_toInt_lt]; omega), if_pos c1]
  · refine La_ok (v := cctF (mBw (mAw (m0 M) 9 m p) 1 m true) n) (N := mBw (mAw (m0 M) 9 m p) 1 m true) (n' := n) h hC ?_ (fun t' T' h' _ => q t' _ T' _ (La_2 h' rfl) (Vw_100 hv h1 h2) ?_ (cct_ne hm (if_pos ⟨rfl, rfl⟩)))
    · unfold sp100
      rw [ixo_in (by decide) hm]
      simp only []
      rw [if_neg (by rw [Int32.lt_iff_toInt_lt]; omega), if_neg (by rw [Int32.lt_iff_toInt_lt]; omega), if_neg c1]
    · have := La_T h'
      rw [tN_m0, tN_e (N := mBw (mAw (m0 M) 9 m p) 1 m true) (M := m0 M) rfl, tN_m0] at this
      omega
/-- fail -/
theorem l_101 (h : La t M n T A B xs L pA c0 c1 c2) (hv : Vw M n e pA) (he : e ≤ 90) (hm : m < 6) (ho : mB M 2 m = false) (hf : fdF M n m < maF M n m)
    (q : ∀ t' M' T' r, La t' M' n T' (A + 2) (B + 12) xs L pA c0 c1 c2 → Vw M' n e pA → Fzl M' M m → T ≤ T' → (∀ j, r = some j → j < 6 ∧ ¬ j = m) → Q (.inl (some (.inl (ov r)))) t') : X 267 0 [.inr (.inr (11, (some 0))), .inl (io m), sJk] [] t Q := by
  have hT := La_T h
  have hT2 := (Hv_T hv.1)
  obtain ⟨N, r, e1, w1, f1, k1⟩ := Vw_101 hv he hm ho hf
  refine w_267 (La_ok (es := [0, 2]) (d := 18) h (fun Ls Q' hW k => C101 hW (fun m hm _ => Hv_Fo hv.1 (by omega) hm) (by omega) k) e1 (fun t' T' h' _ => ?_))
  have hTN := La_T h'
  rw [tN_m0] at hTN
  have t1 := f1.1
  exact q t' (m0 N) T' r h' (Vw_m0 w1) (by
    unfold Fzl at f1 ⊢
    rw [tN_m0, ouN_m0]
    exact f1) (by omega) k1
theorem l_101e (h : La t M n T A B xs L pA c0 c1 c2) (hv : Vw M n e pA) (he : e ≤ 90) (hm : m < 6) (ho : mB M 2 m = true ∨ ¬ fdF M n m < maF M n m)
    (q : ∀ t', La t' M n T (A + 2) (B + 12) xs L pA c0 c1 c2 → Q (.inl (some (.inl (-2)))) t') : X 267 0 [.inr (.inr (11, (some 0))), .inl (io m), sJk] [] t Q := by
  have hT := La_T h
  have hT2 := (Hv_T hv.1)
  refine w_267 (La_er (k := 1) (E := 2) (r := sp101 M n (io m)) (es := [0, 2]) (d := 18) h (fun Ls Q' hW k => C101 hW (fun m hm _ => Hv_Fo hv.1 (by omega) hm) (by omega) k) ?_ rfl (fun t' h' => ⟨rfl, q t' h'⟩))
  unfold sp101
  rw [ixo_in (by decide) hm]
  simp only []
  by_cases c1 : mB M 2 m = true
  · rw [if_pos c1]
  · rw [if_neg c1, if_neg (ho.resolve_left c1)]
/-- ways -/
theorem wy_i (hv : Vw M n e pA) (hb : b < 5) : bwF M n b s = none ↔ wyP M n b s = -10000 := by
  unfold wyP
  cases h : bwF M n b s with
  | none => exact ⟨fun _ => rfl, fun _ => rfl⟩
  | some w =>
    refine ⟨fun z => (by cases z), fun z => ?_⟩
    exfalso
    exact step_ne hv.1.1.1.1 hb (bwF_ok h).1 (bwF_ok h).2 z
/-- simple calls -/
theorem T_le (h : La t M n T A B xs L pA c0 c1 c2) (h' : La t' (m0 N) n T' A' B' xs L pA c0 c1 c2) (hI : mI N 801 = mI (m0 M) 801) : T ≤ T' := by
  have h1 := La_T h
  have h2 := La_T h'
  rw [tN_m0, tN_e hI, tN_m0] at h2
  omega
theorem l_84 (h : La t M n T A B xs L pA c0 c1 (io (ouN M))) (hv : Vw M n e pA) (hb : b < 5) (g1 : ¬ mA M 0 b = 1)
    (q : ∀ t' M' T', La t' M' n T' (A + 2) (B + 12) xs L pA c0 c1 (io (ouN M')) → Vw M' n e pA → T ≤ T' → mA M' 0 b = 1 → Q (.inl (some (.inl (mA M 0 b)))) t') : X 84 0 [.inr (.inr (11, (some 0))), .inl (io b), sJk, sJk] [] t Q :=
  q84 h hb g1 (fun t' T' h' _ => q t' _ T' (La_2 h' rfl) (Vw_84 hv) (T_le h h' rfl) (if_pos ⟨rfl, rfl⟩))
theorem l_85 (h : La t M n T A B xs L pA c0 c1 (io (ouN M))) (hv : Vw M n e pA) (hb : b < 5) (g1 : ¬ mA M 0 b = 0)
    (q : ∀ t' M' T', La t' M' n T' (A + 2) (B + 12) xs L pA c0 c1 (io (ouN M')) → Vw M' n e pA → T ≤ T' → mA M' 0 b = 0 → Q (.inl (some (.inl (mA M 0 b)))) t') : X 85 0 [.inr (.inr (11, (some 0))), .inl (io b), sJk, sJk] [] t Q :=
  q85 h hb g1 (fun t' T' h' _ => q t' _ T' (La_2 h' rfl) (Vw_84 hv) (T_le h h' rfl) (if_pos ⟨rfl, rfl⟩))
theorem l_87 (h : La t M n T A B xs L pA c0 c1 (io (ouN M))) (hv : Vw M n e pA) (hb : b < 5)
    (q : ∀ t' M' T', La t' M' n T' (A + 2) (B + 12) xs L pA c0 c1 (io (ouN M')) → Vw M' n e pA → T ≤ T' → mB M' 0 b = s → Q (.inl (some (.inl (bz (mB M 0 b))))) t') : X 87 0 [.inr (.inr (11, (some 0))), .inl (io b), .inl (bz s), sJk, sJk] [] t Q :=
  q87 h hb (fun t' T' h' _ => q t' _ T' (La_2 h' rfl) (Vw_87 hv) (T_le h h' rfl) (if_pos ⟨rfl, rfl⟩))
theorem l_88 (h : La t M n T A B xs L pA c0 c1 (io (ouN M))) (hv : Vw M n e pA) (hc : c < 3) (g1 : ¬ p < 1) (g2 : ¬ 999 < p) (g3 : ¬ u < 0) (g4 : ¬ 999 < u)
    (q : ∀ t' M' T', La t' M' n T' (A + 2) (B + 12) xs L pA c0 c1 (io (ouN M')) → Vw M' n e pA → T ≤ T' → mA M' 2 c = p → Q (.inl none) t') : X 88 0 [.inr (.inr (11, (some 0))), .inl (io c), .inl p, .inl u, sJk] [] t Q :=
  q88 h hc g1 g2 g3 g4 (fun t' T' h' _ => q t' _ T' (La_2 h' rfl) (Vw_88 hv g3) (T_le h h' rfl) (if_pos ⟨rfl, rfl⟩))
theorem l_90 (h : La t M n T A B xs L pA c0 c1 (io (ouN M))) (hv : Vw M n e pA) (hm : m < 6) (g1 : ¬ p < 0) (g2 : ¬ 1000000 < p) (g3 : mB M 2 m = false)
    (q : ∀ t' M' T', La t' M' n T' (A + 2) (B + 12) xs L pA c0 c1 (io (ouN M')) → Vw M' n e pA → T ≤ T' → True → Q (.inl (some (.inl (mA M 7 m)))) t') : X 90 0 [.inr (.inr (11, (some 0))), .inl (io m), .inl p, sJk, sJk] [] t Q :=
  q90 h hm g1 g2 g3 (fun t' T' h' _ => q t' _ T' (La_2 h' rfl) (Vw_90 hv g1 g2) (T_le h h' rfl) trivial)
theorem l_91 (h : La t M n T A B xs L pA c0 c1 (io (ouN M))) (hv : Vw M n e pA) (g1 : ¬ p < 0) (g2 : ¬ 1000000 < p)
    (q : ∀ t' M' T', La t' M' n T' (A + 2) (B + 12) xs L pA c0 c1 (io (ouN M')) → Vw M' n e pA → T ≤ T' → True → Q (.inl (some (.inl (mI M 784)))) t') : X 91 0 [.inr (.inr (11, (some 0))), .inl p, sJk] [] t Q :=
  q91 h g1 g2 (fun t' T' h' _ => q t' _ T' (La_2 h' rfl) (Vw_91 hv g1) (T_le h h' (show (if 801 = 784 then p else mI (m0 M) 801) = mI (m0 M) 801 from if_neg (by decide))) trivial)
theorem l_92 (h : La t M n T A B xs L pA c0 c1 (io (ouN M))) (hv : Vw M n e pA) (hm : m < 6) (g0 : 0 ≤ p.toInt) (g1 : ¬ p < 0) (g2 : ¬ 1000 < p)
    (q : ∀ t' M' T', La t' M' n T' (A + 2) (B + 12) xs L pA c0 c1 (io (ouN M')) → Vw M' n e pA → T ≤ T' → True → Q (.inl (some (.inl (mA M 8 m)))) t') : X 92 0 [.inr (.inr (11, (some 0))), .inl (io m), .inl p, sJk, sJk] [] t Q :=
  q92 h hm g1 g2 (fun t' T' h' _ => q t' _ T' (La_2 h' rfl) (Vw_92 hv g0) (T_le h h' rfl) trivial)
theorem l_93 (h : La t M n T A B xs L pA c0 c1 (io (ouN M))) (hv : Vw M n e pA) (hj : j < 6) (hc : c < 3) (g0 : -20 ≤ p.toInt) (g3 : p.toInt ≤ 20) (g1 : ¬ p < -500) (g2 : ¬ 500 < p)
    (q : ∀ t' M' T', La t' M' n T' (A + 2) (B + 12) xs L pA c0 c1 (io (ouN M')) → Vw M' n e pA → T ≤ T' → mA M' 11 (3 * j + c) = p → Q (.inl (some (.inl (mA M 11 (3 * j + c))))) t') : X 93 0 [.inr (.inr (11, (some 0))), .inl (io j), .inl (io c), .inl p, sJk] [] t Q :=
  q93 h hj hc g1 g2 (fun t' T' h' _ => q t' _ T' (La_2 h' rfl) (Vw_93 hv g0 g3 g1 g2) (T_le h h' rfl) (if_pos ⟨rfl, rfl⟩))

end Syk
