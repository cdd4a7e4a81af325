/-! a loss is covered by shares: the reference -/
section S99zg
variable {t t' t0 : sT} {M M' M0 N Y Z : sM} {n T A B b c m o k x K w v e i d R H C D : Nat} {p a h u p0 p1 : Int32} {s z : Bool} {L L' l V : List Nat} {f f2 : Nat → Nat} {g g2 : Nat → Int32} {y0 y1 : sV} {Q : sRs → sT → Prop}
/-- what the others have -/
def qN (M : sM) (m x : Nat) : Nat := if x = m then 0 else oN M x
theorem qN_m : qN M m m = 0 := if_pos rfl
theorem qN_o (h : ¬ x = m) : qN M m x = oN M x := if_neg h
theorem qN_le (hS : Hs M) (hx : x < 6) : qN M m x ≤ 1000000 := by
  have := oN_le hS hx
  unfold qN
  split <;> omega
theorem v217_5 (hV : Vr t M n) (hS : Hs M) (hm : m < 6) : ∀ (d k acc : Nat) (y0 y1 y2 : sV), k + d = 6 →
    (∀ y0 y1 y2, X 217 5 [.inr (.inr (12, (some 0))), .inl (io m), .inl a, .inl (io (acc + (fl (qN M m) k d).sum)), .inl 6, y0, y1, y2] [] t Q) →
    X 217 5 [.inr (.inr (12, (some 0))), .inl (io m), .inl a, .inl (io acc), .inl (io k), y0, y1, y2] [] t Q
  | 0, k, acc, y0, y1, y2, hk, q => by
    have e : k = 6 := by omega
    subst e
    exact q y0 y1 y2
  | d + 1, k, acc, y0, y1, y2, hk, q => by
    have hk6 : k < 6 := by omega
    have e1 : (fl (qN M m) k (d + 1)).sum = qN M m k + (fl (qN M m) (k + 1) d).sum := List.sum_cons
    rw [e1, ← Nat.add_assoc] at q
    have no : qN M m k = 0 → X 217 5 [.inr (.inr (12, (some 0))), .inl (io m), .inl a, .inl (io acc + 0), .inl (io (k + 1)), y0, y1, y2] [] t Q := fun h => by
      rw [h] at q
      rw [Int32.add_zero]
      exact v217_5 hV hS hm d (k + 1) (acc + 0) _ _ _ (by omega) q
    refine r217_k hV hm hk6 (fun h0 => ?_) (fun h0 h1 => ?_) (fun h0 h1 => ?_)
    · exact no (by rw [h0]; exact qN_m)
    · rw [qN_o h0] at q
      rw [oN_f hS hk6 h1, io_add]
      exact v217_5 hV hS hm d (k + 1) (acc + oN M k) _ _ _ (by omega) q
    · exact no (by rw [qN_o h0]; exact oN_t h1)
theorem v217_61 (hS : Hs M) (hm : m < 6) (hC : C < 2 ^ 31) (hH : H < 2 ^ 31) (hCH : C ≤ H) : ∀ (d k acc : Nat) (t : sT) (y0 : sV), k + d = 6 → Vr t M n →
    (∀ t' y0, Vr t' M n → cp t' = cp t → (∀ j, j < k → sA t' 21 28 j = sA t 21 28 j) → Am t' k (fl (fun x => C * qN M m x / H) k d) →
      X 217 61 [.inr (.inr (12, (some 0))), .inl (io m), .inl a, .inl (io H), .inl (io C), .inl (io (acc + (fl (fun x => C * qN M m x / H) k d).sum)), .inl 6, y0] [] t' Q) →
    X 217 61 [.inr (.inr (12, (some 0))), .inl (io m), .inl a, .inl (io H), .inl (io C), .inl (io acc), .inl (io k), y0] [] t Q
  | 0, k, acc, t, y0, hk, hV, q => by
    have e : k = 6 := by omega
    subst e
    exact q t y0 hV rfl (fun _ _ => rfl) (fun i hi => absurd hi (Nat.not_lt_zero i))
  | d + 1, k, acc, t, y0, hk, hV, q => by
    have hk6 : k < 6 := by omega
    have hb := qN_le (m := m) hS hk6
    have e1 : (fl (fun x => C * qN M m x / H) k (d + 1)).sum = C * qN M m k / H + (fl (fun x => C * qN M m x / H) (k + 1) d).sum := List.sum_cons
    rw [e1] at q
    have next : ∀ (v : Int32) (y0 : sV), v = io (C * qN M m k / H) → X 217 61 [.inr (.inr (12, (some 0))), .inl (io m), .inl a, .inl (io H), .inl (io C), .inl (io acc + v), .inl (io (k + 1)), y0] [] (sAw t 21 28 k v) Q := fun v y0 ev => by
      rw [ev, io_add]
      refine v217_61 hS hm hC hH hCH d (k + 1) (acc + C * qN M m k / H) _ _ (by omega) (Vr_28 hV) (fun t' y1 g1 g2 g3 g4 => ?_)
      rw [Nat.add_assoc]
      refine q t' y1 g1 (g2.trans cp_A) (fun j hj => ?_) (Am_cons ?_ g4)
      · rw [g3 j (by omega), am_w, if_neg (by omega)]
      · rw [g3 k (by omega), am_w, if_pos rfl]
    have z0 : qN M m k = 0 → (0 : Int32) = io (C * qN M m k / H) := fun h => by rw [h, Nat.mul_zero, Nat.zero_div]; rfl
    rcases Nat.eq_zero_or_pos H with hH0 | hH0
    · have hC0 : C = 0 := by omega
      have z1 : (0 : Int32) = io (C * qN M m k / H) := by rw [hC0, Nat.zero_mul, Nat.zero_div]; rfl
      have eH : io H = 0 := by rw [hH0]; rfl
      rw [eH] at next ⊢
      exact r217_s0 hV hm hk6 (fun _ => next 0 _ z1) (fun _ _ => next 0 _ z1) (fun _ _ => next 0 _ z1)
    · have hne : ¬ (io H).toInt64 = 0 := by rw [io_jo hH]; exact jo_ne0 (by omega) hH0
      have hne2 : ¬ io H = 0 := fun z => by
        have z2 : io H = io 0 := z
        have := (io_inj hH (by decide)).mp z2
        omega
      refine r217_s hV hm hk6 hne (fun h0 => ?_) (fun h0 h1 => ?_) (fun h0 h1 _ => ?_) (fun _ _ h2 => absurd h2 hne2)
      · exact next 0 _ (z0 (by rw [h0]; exact qN_m))
      · exact next 0 _ (z0 (by rw [qN_o h0]; exact oN_t h1))
      · refine next _ _ ?_
        rw [qN_o h0] at hb ⊢
        rw [oN_f hS hk6 h1, io_jo hC, io_jo hH, j_quo2 hC (by omega) hH, jo_io]
theorem v217_u (hV : Vr t M n) (hm : m < 6) (hx : x < 6) (hD : D < 2 ^ 31) (hC : C < 2 ^ 31)
    (q0 : ¬ D < C → X 217 217 [.inr (.inr (12, (some 0))), .inl (io m), .inl a, .inl u, .inl (io C), .inl (io D), .inl 0, y0] [] t Q)
    (q1 : D < C → (x = m ∨ mB M 2 x = true ∨ ¬ sA t 21 28 x < mA M 7 x) → X 217 136 [.inr (.inr (12, (some 0))), .inl (io m), .inl a, .inl u, .inl (io C), .inl (io D), .inl (io ((x + 1) % 6)), .inl 0] [] (sAw t 21 28 x (sA t 21 28 x)) Q)
    (q2 : D < C → ¬ x = m → mB M 2 x = false → sA t 21 28 x < mA M 7 x → X 217 136 [.inr (.inr (12, (some 0))), .inl (io m), .inl a, .inl u, .inl (io C), .inl (io (D + 1)), .inl (io ((x + 1) % 6)), .inl 1] [] (sAw t 21 28 x (sA t 21 28 x + 1)) Q) :
    X 217 136 [.inr (.inr (12, (some 0))), .inl (io m), .inl a, .inl u, .inl (io C), .inl (io D), .inl (io x), y0] [] t Q := by
  have er : (io (x + 1)) - (io (x + 1)) / 6 * 6 = io ((x + 1) % 6) := irem_io (q := 6) (by omega) (by decide) (by decide)
  have lt : io D < io C → D < C := fun z => (io_lt hD hC).mp z
  refine r217_u hV hm hx (fun h0 => q0 (fun z => h0 ((io_lt hD hC).mpr z))) (fun h0 h1 => ?_) (fun h0 h1 h2 => ?_) (fun h0 h1 h2 h3 => ?_) (fun h0 h1 h2 h3 => ?_)
  · rw [er, Int32.add_zero, Int32.add_zero]; exact q1 (lt h0) (Or.inl h1)
  · rw [er, Int32.add_zero, Int32.add_zero]; exact q1 (lt h0) (Or.inr (Or.inl h2))
  · rw [er, Int32.add_zero, Int32.add_zero]; exact q1 (lt h0) (Or.inr (Or.inr h3))
  · rw [er, show io D + 1 = io (D + 1) from io_add D 1]; exact q2 (lt h0) h1 h2 h3
theorem v217_136 (hS : Hs M) (hm : m < 6) (hC : C < 2 ^ 31) : ∀ (d k D : Nat) (V : List Nat) (t : sT) (y0 : sV), k + d = 6 → Vr t M n → leL V (fl (qN M m) k d) → Am t k V → D ≤ C → C ≤ D + cntN (fl (qN M m) k d) V →
    (∀ t' (y1 : Int32) (y0 : sV), Vr t' M n → cp t' = cp t → (∀ j, j < k → sA t' 21 28 j = sA t 21 28 j) → Am t' k (dN (fl (qN M m) k d) (C - D) V) →
      X 217 217 [.inr (.inr (12, (some 0))), .inl (io m), .inl a, .inl u, .inl (io C), .inl y1, .inl 0, y0] [] t' Q) →
    X 217 136 [.inr (.inr (12, (some 0))), .inl (io m), .inl a, .inl u, .inl (io C), .inl (io D), .inl (io (k % 6)), y0] [] t Q
  | 0, k, D, [], t, y0, hk, hV, hle, hA, hD, hcl, q => by
    have hcl2 : C ≤ D + 0 := hcl
    refine v217_u hV hm (Nat.mod_lt _ (by decide)) (by omega) hC (fun _ => ?_) (fun z => by omega) (fun z => by omega)
    exact q t _ _ hV rfl (fun _ _ => rfl) hA
  | 0, k, D, _ :: _, t, y0, hk, hV, hle, hA, hD, hcl, q => by cases hle
  | d + 1, k, D, [], t, y0, hk, hV, hle, hA, hD, hcl, q => by cases hle
  | d + 1, k, D, v :: V, t, y0, hk, hV, hle, hA, hD, hcl, q => by
    have hk6 : k < 6 := by omega
    have e6 : k % 6 = k := Nat.mod_eq_of_lt hk6
    rw [e6]
    obtain ⟨ha0, hA2⟩ := Am_c hA
    have hb := qN_le (m := m) hS hk6
    have hv : v ≤ qN M m k := hle.1
    have hle2 : leL V (fl (qN M m) (k + 1) d) := hle.2
    have hc0 : cntN (fl (qN M m) k (d + 1)) (v :: V) = (if v < qN M m k then 1 else 0) + cntN (fl (qN M m) (k + 1) d) V := rfl
    rw [hc0] at hcl
    have e1 : dN (fl (qN M m) k (d + 1)) (C - D) (v :: V) = if 0 < C - D ∧ v < qN M m k then (v + 1) :: dN (fl (qN M m) (k + 1) d) (C - D - 1) V else v :: dN (fl (qN M m) (k + 1) d) (C - D) V := rfl
    refine v217_u hV hm hk6 (by omega) hC (fun hn => ?_) (fun hlt hno => ?_) (fun hlt h1 h2 h3 => ?_)
    · have e : C - D = 0 := by omega
      rw [e, dN_0] at q
      exact q t _ _ hV rfl (fun _ _ => rfl) hA
    · rw [e1] at q
      have hn : ¬ v < qN M m k := fun z => by
        rcases hno with g | g | g
        · rw [g, qN_m] at z; omega
        · by_cases g2 : k = m
          · rw [g2, qN_m] at z; omega
          · rw [qN_o g2, oN_t g] at z; omega
        · by_cases g2 : k = m
          · rw [g2, qN_m] at z; omega
          · cases g3 : mB M 2 k with
            | true => rw [qN_o g2, oN_t g3] at z; omega
            | false =>
              rw [qN_o g2] at z hb
              exact g (by rw [ha0, oN_f hS hk6 g3]; exact (io_lt (by omega) (by omega)).mpr z)
      rw [if_neg (fun z => hn z.2)] at q
      rw [if_neg hn] at hcl
      rw [ha0]
      refine v217_136 hS hm hC d (k + 1) D V _ _ (by omega) (Vr_28 hV) hle2 (fun i hi => ?_) hD (by omega) (fun t' y1 y2 g1 g2 g3 g4 => q t' y1 y2 g1 (g2.trans cp_A) (fun j hj => ?_) (Am_cons ?_ g4))
      · rw [am_w, if_neg (by omega)]; exact hA2 i hi
      · rw [g3 j (by omega), am_w, if_neg (by omega)]
      · rw [g3 k (by omega), am_w, if_pos rfl]
    · rw [e1] at q
      have hn : v < qN M m k := by
        rw [qN_o h1] at hb hv ⊢
        rw [ha0, oN_f hS hk6 h2] at h3
        exact (io_lt (by omega) (by omega)).mp h3
      rw [if_pos ⟨by omega, hn⟩] at q
      rw [if_pos hn] at hcl
      rw [ha0, show io v + 1 = io (v + 1) from io_add v 1]
      refine v217_136 hS hm hC d (k + 1) (D + 1) V _ _ (by omega) (Vr_28 hV) hle2 (fun i hi => ?_) (by omega) (by omega) (fun t' y1 y2 g1 g2 g3 g4 => q t' y1 y2 g1 (g2.trans cp_A) (fun j hj => ?_) (Am_cons ?_ ?_))
      · rw [am_w, if_neg (by omega)]; exact hA2 i hi
      · rw [g3 j (by omega), am_w, if_neg (by omega)]
      · rw [g3 k (by omega), am_w, if_pos rfl]
      · rw [show C - D - 1 = C - (D + 1) by omega]; exact g4
theorem Vr_7 {v : Int32} (hx : x < 6) (hV : Vr t (shM M g) n) : Vr (sAw t 21 7 x v) (shM M (sU1 g x v)) n :=
  Vr_mk hV (by rw [rp_A rfl, hV.1]; exact sh_w hx) cp_A (by rw [← sh_w hx]; exact Fr_A rfl (Fr.refl _))
theorem v217_217 (hm : m < 6) {d9 h9 : Int32} : ∀ (d k : Nat) (V : List Nat) (t : sT) (g : Nat → Int32) (y0 : sV), k + d = 6 → Vr t (shM M g) n → V.length = d → (∀ j, k ≤ j → j < 6 → g j = mA M 7 j) → Am t k V →
    (∀ t' g', Vr t' (shM M g') n → cp t' = cp t → (∀ j, j < k → g' j = g j) → Gs M g' k V → Q (.inl (some (.inl (a - d9)))) t') →
    X 217 217 [.inr (.inr (12, (some 0))), .inl (io m), .inl a, .inl u, .inl d9, .inl h9, .inl (io k), y0] [] t Q
  | 0, k, V, t, g, y0, hk, hV, hl, hg, hA, q => by
    have e : k = 6 := by omega
    subst e
    exact r217_q hV hm (q t g hV rfl (fun _ _ => rfl) (fun i hi => by rw [hl] at hi; exact absurd hi (Nat.not_lt_zero i)))
  | d + 1, k, [], t, g, y0, hk, hV, hl, hg, hA, q => by cases hl
  | d + 1, k, v :: V, t, g, y0, hk, hV, hl, hg, hA, q => by
    have hk6 : k < 6 := by omega
    obtain ⟨ha0, hA2⟩ := Am_c hA
    refine r217_p hV hm hk6 ?_
    rw [sh_7 hk6, hg k (Nat.le_refl _) hk6, ha0]
    refine v217_217 hm d (k + 1) V _ _ _ (by omega) (Vr_7 hk6 hV) (Nat.succ.inj hl) (fun j h1 h2 => ?_) (fun i hi => hA2 i hi) (fun t' g' g1 g2 g3 g4 => q t' g' g1 (g2.trans cp_A) (fun j hj => ?_) (Gs_cons ?_ g4))
    · rw [sU1_n (by omega)]; exact hg j (by omega) h2
    · rw [g3 j (by omega), sU1_n (by omega)]
    · rw [g3 k (by omega), sU1_e1]
theorem v217 (hV : Vr t M n) (hS : Hs M) (hm : m < 6) (ha : K < 2 ^ 31)
    (q : ∀ t', Vr t' (coF M (qN M m) (min K (fl (qN M m) 0 6).sum)) n → cp t' = cp t → Q (.inl (some (.inl (io (K - min K (fl (qN M m) 0 6).sum))))) t') :
    X 217 0 [.inr (.inr (12, (some 0))), .inl (io m), .inl (io K), sJk, sJk, sJk, sJk, sJk] [] t Q := by
  have hbd := fl_bd (f := qN M m) (K := 1000000) 6 0 (fun x _ h => qN_le hS (by omega))
  refine r217_0 hV hm ?_
  refine v217_5 hV hS hm 6 0 0 _ _ _ rfl (fun y0 y1 y2 => ?_)
  rw [Nat.zero_add]
  have hC : min K (fl (qN M m) 0 6).sum ≤ (fl (qN M m) 0 6).sum := Nat.min_le_right _ _
  have hC2 : min K (fl (qN M m) 0 6).sum ≤ K := Nat.min_le_left _ _
  obtain ⟨k1, k2, k3⟩ := pt_ok hC
  have hpt2 : ptN (qN M m) (min K (fl (qN M m) 0 6).sum) = dN (fl (qN M m) 0 6) (min K (fl (qN M m) 0 6).sum - (fl (p0N (qN M m) (min K (fl (qN M m) 0 6).sum)) 0 6).sum) (fl (p0N (qN M m) (min K (fl (qN M m) 0 6).sum)) 0 6) := rfl
  have hp0 : p0N (qN M m) (min K (fl (qN M m) 0 6).sum) = fun x => min K (fl (qN M m) 0 6).sum * qN M m x / (fl (qN M m) 0 6).sum := rfl
  rw [hp0] at k1 k2 k3 hpt2
  have hmin : ∀ y, X 217 61 [.inr (.inr (12, (some 0))), .inl (io m), .inl (io K), .inl (io (fl (qN M m) 0 6).sum), .inl (io (min K (fl (qN M m) 0 6).sum)), .inl 0, .inl 0, y] [] t Q := fun y => by
    generalize (fl (qN M m) 0 6).sum = H at *
    generalize min K H = C at *
    refine v217_61 hS hm (by omega) (by omega) hC 6 0 0 t _ rfl hV (fun t1 y3 g1 g2 _ g4 => ?_)
    rw [Nat.zero_add]
    refine r217_t g1 hm ?_
    refine v217_136 hS hm (by omega) 6 0 _ _ t1 _ rfl g1 k3 g4 k1 k2 (fun t2 y4 y5 f1 f2 _ f4 => ?_)
    rw [← hpt2] at f4
    refine v217_217 (M := M) hm 6 0 (ptN (qN M m) C) t2 (mA M 7) _ rfl (by rw [sh_self]; exact f1) pt_len (fun _ _ _ => rfl) f4 (fun t3 g3 j1 j2 _ j4 => ?_)
    rw [gs_co j4] at j1
    rw [io_sub hC2]
    exact q t3 j1 (j2.trans (f2.trans g2))
  refine r217_e hV hm (fun h0 => ?_) (fun h0 => ?_)
  · have h1 : min K (fl (qN M m) 0 6).sum = (fl (qN M m) 0 6).sum := Nat.min_eq_right (Nat.le_of_not_lt (fun z => h0 ((io_lt ha (by omega)).mpr z)))
    have := hmin y2
    rw [h1] at this
    exact this
  · have h1 : min K (fl (qN M m) 0 6).sum = K := Nat.min_eq_left (Nat.le_of_lt ((io_lt ha (by omega)).mp h0))
    have := hmin y2
    rw [h1] at this
    exact this
end S99zg
