/-! the class tears up a position -/
section S99zd
variable {t t' t0 : sT} {M M' M0 N Y Z : sM} {n T A B b c m o k x K w v e i d R H : Nat} {p a h u g p0 p1 : Int32} {s z : Bool} {L L' l V : List Nat} {f f2 : Nat → Nat} {y0 y1 : sV} {Q : sRs → sT → Prop}
theorem W_455 {v : Int32} (hW : Wc t M n T L A B) : Wc (sIw t 455 x v) M n T L A B :=
  ⟨Rl_t rfl hW.1, Sf_tI rfl hW.2.1, hW.2.2.1, rlC_fr hW.2.2.2.1 rfl rfl rfl rfl rfl rfl, LL_tI rfl hW.2.2.2.2.1, hW.2.2.2.2.2⟩
theorem tv_gv (h : tv t' = tv t) (y : Nat) : sI t' 455 y = sI t 455 y := congrFun (congrArg (fun q => q.2.2.2) h) y
theorem gv_w {v : Int32} {y : Nat} : sI (sIw t 455 x v) 455 y = if y = x then v else sI t 455 y := by
  show (if 455 = 455 ∧ y = x then v else sI t 455 y) = _
  by_cases e : y = x
  · rw [if_pos ⟨rfl, e⟩, if_pos e]
  · rw [if_neg (fun q => e q.2), if_neg e]
/-- what members give, from one on -/
def Gv (t : sT) (k : Nat) (V : List Nat) : Prop := ∀ i, i < V.length → sI t 455 (k + i) = io (V.getD i 0)
theorem Gv_c {v : Nat} {V : List Nat} (h : Gv t k (v :: V)) : sI t 455 k = io v ∧ Gv t (k + 1) V := by
  refine ⟨h 0 (Nat.succ_pos _), fun i hi => ?_⟩
  have h1 := h (i + 1) (Nat.succ_lt_succ hi)
  rw [show k + 1 + i = k + (i + 1) by omega]
  exact h1
theorem Gv_cons {v : Nat} {V : List Nat} (h0 : sI t 455 k = io v) (h : Gv t (k + 1) V) : Gv t k (v :: V) := by
  intro i hi
  cases i with
  | zero => exact h0
  | succ i =>
    rw [show k + (i + 1) = k + 1 + i by omega]
    exact h i (Nat.lt_of_succ_lt_succ hi)
theorem w21 (hW : Wc t M n T L A B) (hP : Pv M) (hm : m < 6) (hk : k < 6) (hc3 : c < 3) (q : Q (.inl (some (.inl (io (gF M c m k))))) t) :
    X 21 0 [.inr (.inr (7, (some m))), .inr (.inr (7, (some k))), .inr (.inr (2, (some c))), sJk, sJk] [] t Q := by
  have e1 := ab_io (hP.1 ((3 * k) + c) (by omega)).1 (hP.1 ((3 * k) + c) (by omega)).2
  unfold gF at q
  refine n21 hW hm hk hc3 (fun h1 h2 => ?_) (fun h1 h2 h3 => ?_) (fun h1 h2 h3 => ?_) (fun h1 h2 => ?_) (fun h1 h2 => ?_)
  · rw [gN_0 (fun z => z.elim (fun z => h1 z.1) (fun z => h2 z.1))] at q; exact q
  · rw [gN_0 (fun z => z.elim (fun z => h1 z.1) (fun z => h3 z.2))] at q; exact q
  · rw [gN_1 (Or.inr ⟨h2, h3⟩)] at q; rw [e1]; exact q
  · rw [gN_1 (Or.inl ⟨h1, h2⟩)] at q; rw [e1]; exact q
  · rw [gN_0 (fun z => z.elim (fun z => h2 z.2) (fun z => nlt_p h1 z.1))] at q; exact q
/-- the sum -/
theorem w20_29 (hW : Wc t M n T L A B) (hP : Pv M) (hm : m < 6) (hc3 : c < 3) : ∀ (d k acc : Nat) (y0 y1 : sV), k + d = 6 →
    (∀ y0 y1, X 20 29 [.inr (.inr (3, (some 0))), .inr (.inr (7, (some m))), .inr (.inr (2, (some c))), .inl a, .inr (.inl (jo (acc + (fl (gF M c m) k d).sum))), sJk, .inr (.inr (26, (some 0))), .inl 6, .inl 6, y0, y1] [] t Q) →
    X 20 29 [.inr (.inr (3, (some 0))), .inr (.inr (7, (some m))), .inr (.inr (2, (some c))), .inl a, .inr (.inl (jo acc)), sJk, .inr (.inr (26, (some 0))), .inl 6, .inl (io k), y0, y1] [] t Q
  | 0, k, acc, y0, y1, hk, q => by
    have e : k = 6 := by omega
    subst e
    exact q y0 y1
  | d + 1, k, acc, y0, y1, hk, q => by
    have hk6 : k < 6 := by omega
    have hg := gF_le (m := m) hP hc3 hk6
    refine n20_k hW hm hc3 hk6 (w21 hW hP hm hk6 hc3 ?_)
    refine sK_i (pc' := 52) rfl ?_
    refine n20_k2 hW hm hc3 hk6 ?_
    rw [io_jo (by omega), jo_add]
    refine w20_29 hW hP hm hc3 d (k + 1) (acc + gF M c m k) _ _ (by omega) (fun y0 y1 => ?_)
    have e1 : (fl (gF M c m) k (d + 1)).sum = gF M c m k + (fl (gF M c m) (k + 1) d).sum := List.sum_cons
    have q1 := q y0 y1
    rw [e1] at q1
    rw [Nat.add_assoc]
    exact q1
/-- the shares, rounded down -/
theorem w20_94 (hP : Pv M) (hm : m < 6) (hc3 : c < 3) (hR : R ≤ 1000000) (hH : H < 2 ^ 31) (hH0 : 0 < H) : ∀ (d k acc : Nat) (t : sT) (y0 : sV), k + d = 6 → Wc t M n T L A B → acc + (fl (fun x => R * gF M c m x / H) k d).sum ≤ R →
    (∀ t' y0, Wc t' M n T L A B → ep t' = ep t → (∀ j, j < k → sI t' 455 j = sI t 455 j) → Gv t' k (fl (fun x => R * gF M c m x / H) k d) →
      X 20 94 [.inr (.inr (3, (some 0))), .inr (.inr (7, (some m))), .inr (.inr (2, (some c))), .inl (io R), .inr (.inl (jo H)), sJk, .inl (io (R - (acc + (fl (fun x => R * gF M c m x / H) k d).sum))), .inr (.inr (26, (some 0))), .inl 6, .inl 6, y0] [] t' Q) →
    X 20 94 [.inr (.inr (3, (some 0))), .inr (.inr (7, (some m))), .inr (.inr (2, (some c))), .inl (io R), .inr (.inl (jo H)), sJk, .inl (io (R - acc)), .inr (.inr (26, (some 0))), .inl 6, .inl (io k), y0] [] t Q
  | 0, k, acc, t, y0, hk, hW, hs, q => by
    have e : k = 6 := by omega
    subst e
    exact q t y0 hW rfl (fun _ _ => rfl) (fun i hi => absurd hi (Nat.not_lt_zero i))
  | d + 1, k, acc, t, y0, hk, hW, hs, q => by
    have hk6 : k < 6 := by omega
    have hg := gF_le (m := m) hP hc3 hk6
    have e1 : (fl (fun x => R * gF M c m x / H) k (d + 1)).sum = R * gF M c m k / H + (fl (fun x => R * gF M c m x / H) (k + 1) d).sum := List.sum_cons
    rw [e1] at hs q
    refine n20_s hW hm hc3 hk6 (w21 hW hP hm hk6 hc3 ?_)
    refine sK_i (pc' := 117) rfl ?_
    refine n20_s2 hW hm hc3 hk6 (jo_ne0 (by omega) hH0) ?_
    rw [j_quo (by omega) (by omega) hH, io_sub (by omega), Nat.sub_sub]
    refine w20_94 hP hm hc3 hR hH hH0 d (k + 1) (acc + R * gF M c m k / H) _ _ (by omega) (W_455 hW) (by omega) (fun t' y1 g1 g2 g3 g4 => ?_)
    rw [Nat.add_assoc]
    refine q t' y1 g1 (g2.trans (ep_I rfl)) (fun j hj => ?_) (Gv_cons ?_ g4)
    · rw [g3 j (by omega), gv_w, if_neg (by omega)]
    · rw [g3 k (by omega), gv_w, if_pos rfl]
/-- the rest, one by one -/
theorem w22_20 (hP : Pv M) (hm : m < 6) (hc3 : c < 3) {y9 : Int32} : ∀ (d k r : Nat) (V : List Nat) (t : sT) (y0 : sV), k + d = 6 → Wc t M n T L A B → leL V (fl (gF M c m) k d) → Gv t k V → r < 2 ^ 31 →
    (∀ t', Wc t' M n T L A B → ep t' = ep t → (∀ j, j < k → sI t' 455 j = sI t 455 j) → Gv t' k (dN (fl (gF M c m) k d) r V) → Q (.inl none) t') →
    X 22 20 [.inr (.inr (3, (some 0))), .inr (.inr (7, (some m))), .inr (.inr (2, (some c))), .inl y9, .inl (io r), .inr (.inr (26, (some 0))), .inl 6, .inl (io k), y0] [] t Q
  | 0, k, r, V, t, y0, hk, hW, hle, hG, hr, q => by
    have e : k = 6 := by omega
    subst e
    cases V with
    | nil => exact n22_e hW hm hc3 (q t hW rfl (fun _ _ => rfl) hG)
    | cons v V => cases hle
  | d + 1, k, r, [], t, y0, hk, hW, hle, hG, hr, q => by cases hle
  | d + 1, k, r, v :: V, t, y0, hk, hW, hle, hG, hr, q => by
    have hk6 : k < 6 := by omega
    have hg := gF_le (m := m) hP hc3 hk6
    obtain ⟨hv0, hG2⟩ := Gv_c hG
    have hv : v ≤ gF M c m k := hle.1
    have hle2 : leL V (fl (gF M c m) (k + 1) d) := hle.2
    have e1 : dN (fl (gF M c m) k (d + 1)) r (v :: V) = if 0 < r ∧ v < gF M c m k then (v + 1) :: dN (fl (gF M c m) (k + 1) d) (r - 1) V else v :: dN (fl (gF M c m) (k + 1) d) r V := rfl
    rw [e1] at q
    have no : ¬ (0 < r ∧ v < gF M c m k) → ∀ y0, X 22 20 [.inr (.inr (3, (some 0))), .inr (.inr (7, (some m))), .inr (.inr (2, (some c))), .inl y9, .inl (io r), .inr (.inr (26, (some 0))), .inl 6, .inl (io (k + 1)), y0] [] t Q := fun hn y0 => by
      rw [if_neg hn] at q
      refine w22_20 hP hm hc3 d (k + 1) r V t y0 (by omega) hW hle2 hG2 hr (fun t' g1 g2 g3 g4 => q t' g1 g2 (fun j hj => g3 j (by omega)) (Gv_cons ?_ g4))
      rw [g3 k (by omega)]; exact hv0
    refine n22_k hW hm hc3 hk6 hv0 (fun h0 => ?_) (fun h0 => ?_)
    · exact no (fun z => h0 ((io_pos hr).mpr z.1)) _
    · refine w21 hW hP hm hk6 hc3 ?_
      refine sK_i (pc' := 51) rfl ?_
      refine n22_k2 hW hm hc3 hk6 hv0 (fun h1 => ?_) (fun h1 => ?_)
      · exact no (fun z => h1 ((io_lt (by omega) (by omega)).mpr z.2)) _
      · have h2 : 0 < r ∧ v < gF M c m k := ⟨(io_pos hr).mp h0, (io_lt (by omega) (by omega)).mp h1⟩
        rw [if_pos h2] at q
        rw [io_pred h2.1, show io v + 1 = io (v + 1) from io_add v 1]
        refine w22_20 hP hm hc3 d (k + 1) (r - 1) V _ _ (by omega) (W_455 hW) hle2 (fun i hi => ?_) (by omega) (fun t' g1 g2 g3 g4 => q t' g1 (g2.trans (ep_I rfl)) (fun j hj => ?_) (Gv_cons ?_ g4))
        · rw [gv_w, if_neg (by omega)]; exact hG2 i hi
        · rw [g3 j (by omega), gv_w, if_neg (by omega)]
        · rw [g3 k (by omega), gv_w, if_pos rfl]
theorem w22 (hW : Wc t M n T L A B) (hP : Pv M) (hm : m < 6) (hc3 : c < 3) {r : Nat} (hle : leL V (fl (gF M c m) 0 6)) (hG : Gv t 0 V) (hr : r < 2 ^ 31)
    (q : ∀ t', Wc t' M n T L A B → ep t' = ep t → Gv t' 0 (dN (fl (gF M c m) 0 6) r V) → Q (.inl none) t') :
    X 22 0 [.inr (.inr (3, (some 0))), .inr (.inr (7, (some m))), .inr (.inr (2, (some c))), .inl (io r), sJk, sJk, sJk, sJk, sJk] [] t Q :=
  n22_0 hW hm hc3 (w22_20 hP hm hc3 6 0 r V t _ rfl hW hle hG hr (fun t' g1 g2 _ g4 => q t' g1 g2 g4))
/-- a part passes on; what members give stays -/
theorem w18v (hW : Wc t M n T L A B) (hm : m < 6) (hk : k < 6) (hc3 : c < 3) (hT4 : T + 1 < 4096)
    (q0 : ¬ 0 < a → Q (.inl none) t) (q1 : 0 < a → ∀ t', Wc t' (pon M T c m k a) n (T + 1) L A B → ep t' = ep t → tv t' = tv t → Q (.inl none) t') :
    X 18 0 [.inr (.inr (3, (some 0))), .inr (.inr (7, (some m))), .inr (.inr (7, (some k))), .inr (.inr (2, (some c))), .inl a, sJk] [] t Q := by
  refine n18 hW hm hk hc3 (fun _ h => q0 h) (fun g h => ?_) (fun _ h => q0 h) (fun g h => ?_)
  · refine w45 hW hc3 hm hk hT4 (fun t1 W1 e1 v1 => ?_)
    refine sK_v (pc' := 54) rfl ?_
    refine n18_e W1 hm hk hc3 (q1 h t1 ?_ e1 v1)
    have e : pon M T c m k a = mkF M T c m k (mA M 1 c) a false := by unfold pon mbF; rw [decide_eq_false g]; rfl
    rw [e]; exact W1
  · refine w45 hW hc3 hk hm hT4 (fun t1 W1 e1 v1 => ?_)
    refine sK_v (pc' := 54) rfl ?_
    refine n18_e W1 hm hk hc3 (q1 h t1 ?_ e1 v1)
    have e : pon M T c m k a = mkF M T c k m (mA M 1 c) a false := by unfold pon mbF; rw [decide_eq_true g]; rfl
    rw [e]; exact W1
theorem getD_far : ∀ {V : List Nat} {i : Nat}, V.length ≤ i → V.getD i 0 = 0
  | [], i, _ => rfl
  | v :: V, 0, h => absurd h (Nat.not_succ_le_zero _)
  | v :: V, i + 1, h => getD_far (V := V) (Nat.le_of_succ_le_succ h)
def teS (Y : sM) (c m k v : Nat) : sM := if 0 < v then pon Y (tN Y) c m k (io v) else Y
def teL (M : sM) (c m : Nat) (V : List Nat) : Nat → sM
  | 0 => M
  | k + 1 => teS (teL M c m V k) c m k (V.getD k 0)
/-- a position torn up -/
def teF (M : sM) (c m : Nat) : sM := if gR M c m = 0 then M else teL M c m (ptN (gF M c m) (gR M c m)) 6
theorem w20_169 (hm : m < 6) (hc3 : c < 3) {u9 : Int64} {d9 : Int32} (hV : ∀ i, V.getD i 0 < 2 ^ 31) : ∀ (d k : Nat) (t : sT) (T : Nat) (y0 : sV), k + d = 6 → Wc t (teL M c m V k) n T L A B → T + d + 1 < 4096 → (∀ i, k ≤ i → i < 6 → sI t 455 i = io (V.getD i 0)) →
    (∀ t' T', Wc t' (teL M c m V 6) n T' L A B → T' ≤ T + d → ep t' = ep t → Q (.inl none) t') →
    X 20 169 [.inr (.inr (3, (some 0))), .inr (.inr (7, (some m))), .inr (.inr (2, (some c))), .inl a, .inr (.inl u9), sJk, .inl d9, .inr (.inr (26, (some 0))), .inl 6, .inl (io k), y0] [] t Q
  | 0, k, t, T, y0, hk, hW, hT, hG, q => by
    have e : k = 6 := by omega
    subst e
    exact n20_q hW hm hc3 (q t T hW (Nat.le_refl _) rfl)
  | d + 1, k, t, T, y0, hk, hW, hT, hG, q => by
    have hk6 : k < 6 := by omega
    have hv := hV k
    have e : teL M c m V (k + 1) = teS (teL M c m V k) c m k (V.getD k 0) := rfl
    have ih : ∀ t' T' (x0 : sV), Wc t' (teS (teL M c m V k) c m k (V.getD k 0)) n T' L A B → T' ≤ T + 1 → ep t' = ep t → (∀ i, k + 1 ≤ i → i < 6 → sI t' 455 i = io (V.getD i 0)) → X 20 169 [.inr (.inr (3, (some 0))), .inr (.inr (7, (some m))), .inr (.inr (2, (some c))), .inl a, .inr (.inl u9), sJk, .inl d9, .inr (.inr (26, (some 0))), .inl 6, .inl (io (k + 1)), x0] [] t' Q := fun t' T' x0 W1 h1 e1 h2 =>
      w20_169 hm hc3 hV d (k + 1) t' T' x0 (by omega) (by rw [e]; exact W1) (by omega) h2 (fun t2 T2 g1 g2 g3 => q t2 T2 g1 (by omega) (g3.trans e1))
    have hTN := W_tN hW
    have hG0 := hG k (Nat.le_refl _) hk6
    generalize teL M c m V k = Y at *
    generalize V.getD k 0 = v at *
    refine n20_p hW hm hc3 hk6 hG0 ?_
    unfold teS at ih
    refine w18v hW hm hk6 hc3 (by omega) (fun g => ?_) (fun g t1 W1 e1 v1 => ?_)
    · rw [if_neg (fun z => g ((io_pos hv).mpr z))] at ih
      refine sK_v (pc' := 196) rfl ?_
      exact n20_p2 hW hm hc3 hk6 (ih t T _ hW (Nat.le_succ T) rfl (fun i h1 h2 => hG i (by omega) h2))
    · rw [if_pos ((io_pos hv).mp g), hTN] at ih
      refine sK_v (pc' := 196) rfl ?_
      exact n20_p2 W1 hm hc3 hk6 (ih t1 (T + 1) _ W1 (Nat.le_refl _) e1 (fun i h1 h2 => (tv_gv v1 i).trans (hG i (by omega) h2)))
theorem gR_le (hP : Pv M) (hc : c < 3) (hm : m < 6) : gR M c m ≤ 1000000 := by
  have h1 := hP.1 ((3 * m) + c) (by omega)
  unfold gR
  omega
theorem w20 (hW : Wc t M n T L A B) (hP : Pv M) (hZ : Zs M) (hm : m < 6) (hc3 : c < 3) (hT : T + 7 < 4096)
    (q : ∀ t' T', Wc t' (teF M c m) n T' L A B → T' ≤ T + 6 → ep t' = ep t → Q (.inl none) t') :
    X 20 0 [.inr (.inr (3, (some 0))), .inr (.inr (7, (some m))), .inr (.inr (2, (some c))), sJk, sJk, sJk, sJk, sJk, sJk, sJk, sJk] [] t Q := by
  have hR := gR_le hP hc3 hm
  have hall := g_all hZ hc3 hm
  have hbd := fl_bd (f := gF M c m) (K := 1000000) 6 0 (fun x _ h => gF_le hP hc3 (by omega))
  have ea : ab (mA M 6 ((3 * m) + c)) = io (gR M c m) := ab_io (hP.1 ((3 * m) + c) (by omega)).1 (hP.1 ((3 * m) + c) (by omega)).2
  refine n20_0 hW hm hc3 ?_
  rw [ea]
  refine w20_29 hW hP hm hc3 6 0 0 _ _ rfl (fun y0 y1 => ?_)
  rw [Nat.zero_add]
  unfold teF at q
  obtain ⟨k1, k2, k3⟩ := pt_ok hall
  have hpt : ∀ i, (ptN (gF M c m) (gR M c m)).getD i 0 < 2 ^ 31 := fun i => by
    by_cases h : i < 6
    · have h1 := pt_get hall h
      have h2 := gF_le (m := m) hP hc3 h
      omega
    · rw [getD_far (by rw [pt_len]; omega)]
      decide
  have hlen : (ptN (gF M c m) (gR M c m)).length = 6 := pt_len
  have hpt2 : ptN (gF M c m) (gR M c m) = dN (fl (gF M c m) 0 6) (gR M c m - (fl (p0N (gF M c m) (gR M c m)) 0 6).sum) (fl (p0N (gF M c m) (gR M c m)) 0 6) := rfl
  have hp0 : p0N (gF M c m) (gR M c m) = fun x => gR M c m * gF M c m x / (fl (gF M c m) 0 6).sum := rfl
  rw [hp0] at k1 k2 k3 hpt2
  generalize (fl (gF M c m) 0 6).sum = H at *
  refine n20_e hW hm hc3 (fun h0 => ?_) (fun h0 h1 => ?_) (fun h0 h1 => ?_)
  · have h1 : gR M c m = 0 := by
      have h2 : io (gR M c m) = io 0 := h0
      exact (io_inj (by omega) (by omega)).mp h2
    rw [if_pos h1] at q
    exact q t T hW (by omega) rfl
  · have hH0 : 0 < H := (lc_pos (by omega)).mp h1
    have hR0 : ¬ gR M c m = 0 := fun z => h0 (by rw [z]; rfl)
    rw [if_neg hR0] at q
    generalize gR M c m = R at *
    refine w20_94 hP hm hc3 hR (by omega) hH0 6 0 0 t _ rfl hW (by omega) (fun t1 y2 g1 g2 _ g4 => ?_)
    rw [Nat.zero_add]
    refine n20_t g1 hm hc3 ?_
    refine w22 g1 hP hm hc3 k3 g4 (by omega) (fun t2 f1 f2 f3 => ?_)
    rw [← hpt2] at f3
    refine sK_v (pc' := 152) rfl ?_
    refine n20_t2 f1 hm hc3 ?_
    refine w20_169 (M := M) (V := ptN (gF M c m) R) hm hc3 hpt 6 0 t2 T _ rfl f1 (by omega) (fun i _ hi => ?_) (fun t3 T3 j1 j2 j3 => q t3 T3 j1 j2 (j3.trans (f2.trans g2)))
    have := f3 i (by rw [hlen]; exact hi)
    rw [Nat.zero_add] at this
    exact this
  · exfalso
    have hR0 : ¬ gR M c m = 0 := fun z => h0 (by rw [z]; rfl)
    exact h1 ((lc_pos (by omega)).mpr (by omega))
/-- all positions of the one in default -/
def teA (M : sM) (m : Nat) : Nat → sM
  | 0 => M
  | c + 1 => teF (teA M m c) c m
theorem w19_run (hm : m < 6) (hPZ : ∀ c, c < 3 → Pv (teA M m c) ∧ Zs (teA M m c)) : ∀ (d c : Nat) (t : sT) (T : Nat) (y0 : sV), c + d = 3 → Wc t (teA M m c) n T L A B → T + 6 * d + 1 < 4096 →
    (∀ t' T', Wc t' (teA M m 3) n T' L A B → T' ≤ T + 6 * d → ep t' = ep t → Q (.inl none) t') →
    X 19 14 [.inr (.inr (3, (some 0))), .inr (.inr (7, (some m))), .inr (.inr (25, (some 0))), .inl 3, .inl (io c), y0] [] t Q
  | 0, c, t, T, y0, hc, hW, hT, q => by
    have e : c = 3 := by omega
    subst e
    exact n19_e hW hm (q t T hW (by omega) rfl)
  | d + 1, c, t, T, y0, hc, hW, hT, q => by
    have hc3 : c < 3 := by omega
    refine n19_k hW hm hc3 (w20 hW (hPZ c hc3).1 (hPZ c hc3).2 hm hc3 (by omega) (fun t1 T1 g1 g2 g3 => ?_))
    refine sK_v (pc' := 33) rfl ?_
    refine n19_t g1 hm hc3 ?_
    exact w19_run hm hPZ d (c + 1) t1 T1 _ (by omega) g1 (by omega) (fun t2 T2 f1 f2 f3 => q t2 T2 f1 (by omega) (f3.trans g3))
theorem w19 (hW : Wc t M n T L A B) (hm : m < 6) (hPZ : ∀ c, c < 3 → Pv (teA M m c) ∧ Zs (teA M m c)) (hT : T + 19 < 4096)
    (q : ∀ t' T', Wc t' (teA M m 3) n T' L A B → T' ≤ T + 18 → ep t' = ep t → Q (.inl none) t') :
    X 19 0 [.inr (.inr (3, (some 0))), .inr (.inr (7, (some m))), sJk, sJk, sJk, sJk] [] t Q :=
  n19_0 hW hm (w19_run hm hPZ 3 0 t T _ rfl hW (by omega) q)
end S99zd
