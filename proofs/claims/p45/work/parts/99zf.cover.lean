/-! a loss is covered by shares: both sides -/
section S99zf
variable {t t' t0 : sT} {M M' M0 N Y Z : sM} {n T A B b c m o k x K w v e i d R H C D : Nat} {p a h u p0 p1 : Int32} {s z : Bool} {L L' l V : List Nat} {f f2 : Nat → Nat} {g g2 : Nat → Int32} {y0 y1 : sV} {Q : sRs → sT → Prop}
/-- a state with other shares -/
def shM (M : sM) (g : Nat → Int32) : sM := (fun q k => if q = 7 ∧ k < 6 then g k else mA M q k, mB M, mI M)
theorem sh_w {v : Int32} (hx : x < 6) : mAw (shM M g) 7 x v = shM M (sU1 g x v) := by
  refine Prod.ext (funext fun q => funext fun k => ?_) rfl
  show (if q = 7 ∧ k = x then v else if q = 7 ∧ k < 6 then g k else mA M q k) = if q = 7 ∧ k < 6 then (if k = x then v else g k) else mA M q k
  by_cases h1 : q = 7 ∧ k < 6
  · rw [if_pos h1, if_pos h1]
    by_cases h2 : k = x
    · rw [if_pos ⟨h1.1, h2⟩, if_pos h2]
    · rw [if_neg (fun z => h2 z.2), if_neg h2]
  · rw [if_neg h1, if_neg h1, if_neg (fun z => h1 ⟨z.1, by omega⟩)]
theorem sh_self : shM M (mA M 7) = M := by
  refine Prod.ext (funext fun q => funext fun k => ?_) rfl
  show (if q = 7 ∧ k < 6 then mA M 7 k else mA M q k) = mA M q k
  by_cases h1 : q = 7 ∧ k < 6
  · rw [if_pos h1, h1.1]
  · rw [if_neg h1]
theorem sh_7 (hk : k < 6) : mA (shM M g) 7 k = g k := if_pos ⟨rfl, hk⟩
theorem sh_cg (h : ∀ k, k < 6 → g k = g2 k) : shM M g = shM M g2 := by
  refine Prod.ext (funext fun q => funext fun k => ?_) rfl
  show (if q = 7 ∧ k < 6 then g k else mA M q k) = if q = 7 ∧ k < 6 then g2 k else mA M q k
  by_cases h1 : q = 7 ∧ k < 6
  · rw [if_pos h1, if_pos h1]; exact h k h1.2
  · rw [if_neg h1, if_neg h1]
theorem Fr_sh : Fr (shM M g) M := ⟨funext fun k => show (if 12 = 7 ∧ k < 6 then g k else mA M 12 k) = mA M 12 k from if_neg (fun z => absurd z.1 (by decide)), funext fun k => show (if 13 = 7 ∧ k < 6 then g k else mA M 13 k) = mA M 13 k from if_neg (fun z => absurd z.1 (by decide)), rfl, funext fun k => show (if 14 = 7 ∧ k < 6 then g k else mA M 14 k) = mA M 14 k from if_neg (fun z => absurd z.1 (by decide)), rfl⟩
theorem W_452 {v : Int32} (hx : x < 6) (hW : Wc t (shM M g) n T L A B) : Wc (sIw t 452 x v) (shM M (sU1 g x v)) n T L A B :=
  W_eq (sh_w hx) (W_np hW (Rl_I rfl hW.1) (np_I rfl) (rlC_fr hW.2.2.2.1 rfl rfl rfl rfl rfl rfl) (Fc_A rfl (Fc.refl _)))
/-- shares within their range; those of who is not out -/
def Hs (M : sM) : Prop := ∀ k, k < 6 → 0 ≤ (mA M 7 k).toInt ∧ (mA M 7 k).toInt ≤ 1000000
def oN (M : sM) (x : Nat) : Nat := if mB M 2 x = true then 0 else (mA M 7 x).toNatClampNeg
theorem io_nn (h : 0 ≤ p.toInt) : p = io p.toNatClampNeg := by
  apply Int32.toInt_inj.mp
  have h1 := p.toInt_lt
  have e : p.toNatClampNeg = p.toInt.toNat := rfl
  rw [io_int (by omega)]
  omega
theorem oN_le (hS : Hs M) (hx : x < 6) : oN M x ≤ 1000000 := by
  have h1 := hS x hx
  have e : (mA M 7 x).toNatClampNeg = (mA M 7 x).toInt.toNat := rfl
  unfold oN
  split <;> omega
theorem oN_f (hS : Hs M) (hx : x < 6) (h : mB M 2 x = false) : mA M 7 x = io (oN M x) := by
  unfold oN
  rw [h, if_neg Bool.false_ne_true]
  exact io_nn (hS x hx).1
theorem oN_t (h : mB M 2 x = true) : oN M x = 0 := if_pos h
theorem jo_00 : (0 : Int64) = jo 0 := rfl
theorem j_quo2 {q r w : Nat} (hq : q < 2 ^ 31) (hr : r < 2 ^ 31) (hw : w < 2 ^ 31) : (jo q * (io r).toInt64) / jo w = jo (q * r / w) := by
  have h1 : q * r < 2 ^ 31 * 2 ^ 31 := Nat.mul_lt_mul'' hq hr
  rw [io_jo hr, jo_mul, jo_div (by omega) (by omega)]
/-- from one on: portions are taken -/
def Gs (M : sM) (g : Nat → Int32) (k : Nat) (V : List Nat) : Prop := ∀ i, i < V.length → g (k + i) = mA M 7 (k + i) - io (V.getD i 0)
theorem Gs_c {v : Nat} {V : List Nat} (h : Gs M g k (v :: V)) : g k = mA M 7 k - io v ∧ Gs M g (k + 1) V := by
  refine ⟨h 0 (Nat.succ_pos _), fun i hi => ?_⟩
  have h1 := h (i + 1) (Nat.succ_lt_succ hi)
  rw [show k + 1 + i = k + (i + 1) by omega]
  exact h1
theorem Gs_cons {v : Nat} {V : List Nat} (h0 : g k = mA M 7 k - io v) (h : Gs M g (k + 1) V) : Gs M g k (v :: V) := by
  intro i hi
  cases i with
  | zero => exact h0
  | succ i =>
    rw [show k + (i + 1) = k + 1 + i by omega]
    exact h i (Nat.lt_of_succ_lt_succ hi)
/-- the class: the sum -/
theorem w24_19 (hW : Wc t M n T L A B) (hS : Hs M) : ∀ (d k acc : Nat) (y0 y1 y2 y3 y4 y5 y6 : sV), k + d = 6 →
    (∀ y0 y1 y2 y3 y4 y5 y6, X 24 19 [.inr (.inr (3, (some 0))), .inl a, .inr (.inl (jo (acc + (fl (oN M) k d).sum))), sJk, .inr (.inr (26, (some 0))), .inl 6, .inl 6, y0, y1, y2, y3, y4, y5, y6] [] t Q) →
    X 24 19 [.inr (.inr (3, (some 0))), .inl a, .inr (.inl (jo acc)), sJk, .inr (.inr (26, (some 0))), .inl 6, .inl (io k), y0, y1, y2, y3, y4, y5, y6] [] t Q
  | 0, k, acc, y0, y1, y2, y3, y4, y5, y6, hk, q => by
    have e : k = 6 := by omega
    subst e
    exact q y0 y1 y2 y3 y4 y5 y6
  | d + 1, k, acc, y0, y1, y2, y3, y4, y5, y6, hk, q => by
    have hk6 : k < 6 := by omega
    have hg := oN_le hS hk6
    have e1 : (fl (oN M) k (d + 1)).sum = oN M k + (fl (oN M) (k + 1) d).sum := List.sum_cons
    rw [e1, ← Nat.add_assoc] at q
    refine n24_k hW hk6 (fun h0 => ?_) (fun h0 => ?_)
    · rw [oN_f hS hk6 h0, io_jo (by omega), jo_add]
      exact w24_19 hW hS d (k + 1) (acc + oN M k) _ _ _ _ _ _ _ (by omega) q
    · rw [oN_t h0] at q
      rw [jo_00, jo_add]
      exact w24_19 hW hS d (k + 1) (acc + 0) _ _ _ _ _ _ _ (by omega) q
theorem w24_97 (hS : Hs M) (hC : C < 2 ^ 31) (hH : H < 2 ^ 31) (hH0 : 0 < H) : ∀ (d k acc : Nat) (t : sT) (g : Nat → Int32) (y0 y1 y2 : sV), k + d = 6 → Wc t (shM M g) n T L A B → (∀ j, k ≤ j → j < 6 → g j = mA M 7 j) → acc + (fl (fun x => C * oN M x / H) k d).sum ≤ C →
    (∀ t' g' y0 y1 y2, Wc t' (shM M g') n T L A B → ep t' = ep t → (∀ j, j < k → g' j = g j) → Gs M g' k (fl (fun x => C * oN M x / H) k d) →
      X 24 97 [.inr (.inr (3, (some 0))), .inl a, .inr (.inl (jo H)), sJk, .inr (.inl (jo C)), sJk, .inr (.inl (jo (C - (acc + (fl (fun x => C * oN M x / H) k d).sum)))), sJk, .inr (.inr (26, (some 0))), .inl 6, .inl 6, y0, y1, y2] [] t' Q) →
    X 24 97 [.inr (.inr (3, (some 0))), .inl a, .inr (.inl (jo H)), sJk, .inr (.inl (jo C)), sJk, .inr (.inl (jo (C - acc))), sJk, .inr (.inr (26, (some 0))), .inl 6, .inl (io k), y0, y1, y2] [] t Q
  | 0, k, acc, t, g, y0, y1, y2, hk, hW, hg, hs, q => by
    have e : k = 6 := by omega
    subst e
    exact q t g y0 y1 y2 hW rfl (fun _ _ => rfl) (fun i hi => absurd hi (Nat.not_lt_zero i))
  | d + 1, k, acc, t, g, y0, y1, y2, hk, hW, hg, hs, q => by
    have hk6 : k < 6 := by omega
    have ho := oN_le hS hk6
    have e1 : (fl (fun x => C * oN M x / H) k (d + 1)).sum = C * oN M k / H + (fl (fun x => C * oN M x / H) (k + 1) d).sum := List.sum_cons
    rw [e1] at hs q
    have next : ∀ (t1 : sT) (y0 y1 y2 : sV), Wc t1 (shM M (sU1 g k (mA M 7 k - io (C * oN M k / H)))) n T L A B → ep t1 = ep t →
        X 24 97 [.inr (.inr (3, (some 0))), .inl a, .inr (.inl (jo H)), sJk, .inr (.inl (jo C)), sJk, .inr (.inl (jo (C - acc - C * oN M k / H))), sJk, .inr (.inr (26, (some 0))), .inl 6, .inl (io (k + 1)), y0, y1, y2] [] t1 Q := fun t1 y0 y1 y2 W1 p1 => by
      rw [Nat.sub_sub]
      refine w24_97 hS hC hH hH0 d (k + 1) (acc + C * oN M k / H) t1 _ y0 y1 y2 (by omega) W1 (fun j h1 h2 => ?_) (by omega) (fun t' g' y0 y1 y2 g1 g2 g3 g4 => ?_)
      · rw [sU1_n (by omega)]; exact hg j (by omega) h2
      · rw [Nat.add_assoc]
        refine q t' g' y0 y1 y2 g1 (g2.trans p1) (fun j hj => ?_) (Gs_cons ?_ g4)
        · rw [g3 j (by omega), sU1_n (by omega)]
        · rw [g3 k (by omega), sU1_e1]
    have e7 : mA (shM M g) 7 k = mA M 7 k := (sh_7 hk6).trans (hg k (Nat.le_refl _) hk6)
    refine n24_s hW hk6 (jo_ne0 (by omega) hH0) (fun h0 => ?_) (fun h0 => ?_)
    · have h1 : mB M 2 k = false := h0
      have e3 : (jo C * (mA M 7 k).toInt64) / jo H = jo (C * oN M k / H) := by
        rw [oN_f hS hk6 h1]
        exact j_quo2 hC (by omega) hH
      rw [e7, e3, jo_io, jo_sub (by omega)]
      exact next _ _ _ _ (W_452 hk6 hW) (ep_I rfl)
    · have h1 : mB M 2 k = true := h0
      have e3 : C * oN M k / H = 0 := by rw [oN_t h1, Nat.mul_zero, Nat.zero_div]
      rw [e3] at next
      rw [e7, jo_00, jo_io, jo_sub (by omega)]
      exact next _ _ _ _ (W_452 hk6 hW) (ep_I rfl)
theorem w25_19 (hS : Hs M) {u9 : Int64} : ∀ (d k r : Nat) (V : List Nat) (t : sT) (g : Nat → Int32) (y0 : sV), k + d = 6 → Wc t (shM M g) n T L A B → leL V (fl (oN M) k d) → Gs M g k V → r < 2 ^ 31 →
    (∀ t' g', Wc t' (shM M g') n T L A B → ep t' = ep t → (∀ j, j < k → g' j = g j) → Gs M g' k (dN (fl (oN M) k d) r V) → Q (.inl none) t') →
    X 25 19 [.inr (.inr (3, (some 0))), .inr (.inl u9), sJk, .inr (.inl (jo r)), sJk, .inr (.inr (26, (some 0))), .inl 6, .inl (io k), y0] [] t Q
  | 0, k, r, V, t, g, y0, hk, hW, hle, hG, hr, q => by
    have e : k = 6 := by omega
    subst e
    cases V with
    | nil => exact n25_e hW (q t g hW rfl (fun _ _ => rfl) hG)
    | cons v V => cases hle
  | d + 1, k, r, [], t, g, y0, hk, hW, hle, hG, hr, q => by cases hle
  | d + 1, k, r, v :: V, t, g, y0, hk, hW, hle, hG, hr, q => by
    have hk6 : k < 6 := by omega
    have ho := oN_le hS hk6
    obtain ⟨hv0, hG2⟩ := Gs_c hG
    have hv : v ≤ oN M k := hle.1
    have hle2 : leL V (fl (oN M) (k + 1) d) := hle.2
    have e1 : dN (fl (oN M) k (d + 1)) r (v :: V) = if 0 < r ∧ v < oN M k then (v + 1) :: dN (fl (oN M) (k + 1) d) (r - 1) V else v :: dN (fl (oN M) (k + 1) d) r V := rfl
    rw [e1] at q
    have e7 : mA (shM M g) 7 k = mA M 7 k - io v := (sh_7 hk6).trans hv0
    have no : ¬ (0 < r ∧ v < oN M k) → ∀ y0, X 25 19 [.inr (.inr (3, (some 0))), .inr (.inl u9), sJk, .inr (.inl (jo r)), sJk, .inr (.inr (26, (some 0))), .inl 6, .inl (io (k + 1)), y0] [] t Q := fun hn y0 => by
      rw [if_neg hn] at q
      refine w25_19 hS d (k + 1) r V t g y0 (by omega) hW hle2 hG2 hr (fun t' g' g1 g2 g3 g4 => q t' g' g1 g2 (fun j hj => g3 j (by omega)) (Gs_cons ?_ g4))
      rw [g3 k (by omega)]; exact hv0
    refine n25_k hW hk6 (fun h0 => ?_) (fun h0 h1 => ?_) (fun h0 h1 h2 => ?_) (fun h0 h1 h2 => ?_)
    · exact no (fun z => h0 ((lc_pos (by omega)).mpr z.1)) _
    · have h3 : mB M 2 k = true := h1
      exact no (fun z => by have h4 := z.2; rw [oN_t h3] at h4; omega) _
    · have h3 : mB M 2 k = false := h1
      rw [e7, oN_f hS hk6 h3, io_sub hv] at h2
      exact no (fun z => h2 ((io_pos (by omega)).mpr (by omega))) _
    · have h3 : mB M 2 k = false := h1
      have h4 := (lc_pos (q := r) (by omega)).mp h0
      rw [e7, oN_f hS hk6 h3, io_sub hv] at h2
      have h5 := (io_pos (by omega)).mp h2
      have h6 : 0 < r ∧ v < oN M k := ⟨h4, by omega⟩
      rw [if_pos h6] at q
      have e8 : mA (shM M g) 7 k - 1 = mA M 7 k - io (v + 1) := by
        rw [e7, oN_f hS hk6 h3, io_sub hv, io_sub (p := oN M k) (q := v + 1) (by omega)]
        have := io_sub (p := oN M k - v) (q := 1) (by omega)
        rw [Nat.sub_sub] at this
        exact this
      rw [e8, show (1 : Int64) = jo 1 from rfl, jo_sub (by omega)]
      refine w25_19 hS d (k + 1) (r - 1) V _ _ _ (by omega) (W_452 hk6 hW) hle2 (fun i hi => ?_) (by omega) (fun t' g' g1 g2 g3 g4 => q t' g' g1 (g2.trans (ep_I rfl)) (fun j hj => ?_) (Gs_cons ?_ g4))
      · rw [sU1_n (by omega)]; exact hG2 i hi
      · rw [g3 j (by omega), sU1_n (by omega)]
      · rw [g3 k (by omega), sU1_e1]
/-- shares by which a loss is covered -/
def coF (M : sM) (f : Nat → Nat) (C : Nat) : sM := shM M (fun j => mA M 7 j - io ((ptN f C).getD j 0))
theorem gs_co (h : Gs M g 0 (ptN f C)) : shM M g = coF M f C := sh_cg (fun k hk => by
  have := h k (by rw [pt_len]; exact hk)
  rw [Nat.zero_add] at this
  exact this)
theorem getD_le : ∀ {V : List Nat} (i : Nat), V.getD i 0 ≤ V.sum
  | [], i => Nat.zero_le _
  | v :: V, 0 => by rw [List.sum_cons]; exact Nat.le_add_right _ _
  | v :: V, i + 1 => by
    have h1 : V.getD i 0 ≤ V.sum := getD_le i
    rw [List.sum_cons]
    exact Nat.le_trans h1 (Nat.le_add_left _ _)
theorem pt_0 (j : Nat) : (ptN f 0).getD j 0 = 0 := by
  have h1 := pt_sum (f := f) (R := 0) (Nat.zero_le _)
  have h2 := getD_le (V := ptN f 0) j
  omega
theorem co_0 : coF M f 0 = M := by
  have h : shM M (fun j => mA M 7 j - io ((ptN f 0).getD j 0)) = shM M (mA M 7) := sh_cg (fun k _ => by
    show mA M 7 k - io ((ptN f 0).getD k 0) = mA M 7 k
    rw [pt_0]
    exact Int32.sub_zero _)
  exact h.trans sh_self
theorem w24 (hW : Wc t M n T L A B) (hS : Hs M) (ha : K < 2 ^ 31)
    (q : ∀ t', Wc t' (coF M (oN M) (min K (fl (oN M) 0 6).sum)) n T L A B → ep t' = ep t → Q (.inl (some (.inl (io (K - min K (fl (oN M) 0 6).sum))))) t') (hm : m < 6) :
    X 24 0 [.inr (.inr (3, (some 0))), .inl (io K), sJk, sJk, sJk, sJk, sJk, sJk, sJk, sJk, sJk, sJk, sJk, sJk] [] t Q := by
  have hbd := fl_bd (f := oN M) (K := 1000000) 6 0 (fun x _ h => oN_le hS (by omega))
  refine n24_0 hW hm ?_
  refine w24_19 hW hS 6 0 0 _ _ _ _ _ _ _ rfl (fun y0 y1 y2 y3 y4 y5 y6 => ?_)
  rw [Nat.zero_add]
  have hC : min K (fl (oN M) 0 6).sum ≤ (fl (oN M) 0 6).sum := Nat.min_le_right _ _
  obtain ⟨k1, k2, k3⟩ := pt_ok hC
  have hpt2 : ptN (oN M) (min K (fl (oN M) 0 6).sum) = dN (fl (oN M) 0 6) (min K (fl (oN M) 0 6).sum - (fl (p0N (oN M) (min K (fl (oN M) 0 6).sum)) 0 6).sum) (fl (p0N (oN M) (min K (fl (oN M) 0 6).sum)) 0 6) := rfl
  have hp0 : p0N (oN M) (min K (fl (oN M) 0 6).sum) = fun x => min K (fl (oN M) 0 6).sum * oN M x / (fl (oN M) 0 6).sum := rfl
  rw [hp0] at k1 k2 k3 hpt2
  generalize (fl (oN M) 0 6).sum = H at *
  refine n24_e hW (fun h1 => ?_) (fun h1 => ?_)
  · have hH0 : 0 < H := (lc_pos (by omega)).mp h1
    have emin : (if jo H < (io K).toInt64 then jo H else (io K).toInt64) = jo (min K H) := by
      rw [io_jo ha]
      by_cases h2 : H < K
      · rw [if_pos ((jo_lt (by omega) (by omega)).mpr h2), Nat.min_eq_right (by omega)]
      · rw [if_neg (fun z => h2 ((jo_lt (by omega) (by omega)).mp z)), Nat.min_eq_left (by omega)]
    rw [emin]
    have hC2 : min K H ≤ K := Nat.min_le_left _ _
    generalize min K H = C at *
    refine w24_97 (M := M) hS (by omega) (by omega) hH0 6 0 0 t (mA M 7) _ _ _ rfl (by rw [sh_self]; exact hW) (fun _ _ _ => rfl) (by omega) (fun t1 g1 y0 y1 y2 W1 e1 _ G1 => ?_)
    rw [Nat.zero_add]
    refine n24_t W1 ?_
    refine n25_0 W1 (w25_19 (M := M) hS 6 0 _ _ t1 g1 _ rfl W1 k3 G1 (by omega) (fun t2 g2 W2 e2 _ G2 => ?_))
    rw [← hpt2] at G2
    rw [gs_co G2] at W2
    refine sK_v (pc' := 168) rfl ?_
    refine n24_t2 W2 ?_
    rw [io_jo ha, jo_sub hC2, jo_io]
    exact q t2 W2 (e2.trans e1)
  · have hH0 : H = 0 := by
      rcases Nat.eq_zero_or_pos H with h2 | h2
      · exact h2
      · exact absurd ((lc_pos (by omega)).mpr h2) h1
    subst hH0
    rw [Nat.min_zero, co_0] at q
    exact q t hW rfl
end S99zf
