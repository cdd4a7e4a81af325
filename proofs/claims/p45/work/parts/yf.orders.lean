/-! what holds at each time of the law: kept by orders, stops, quotes -/
section Syf
variable {M M' M0 N Y Z R : sM} {n T b c m o k x e f sz : Nat} {p a u v h : Int32} {s z : Bool} {pA pA' : Nat → Int32} {r : Rs4}
def vB (M : sM) : Prop := (∀ q, q < 18 → -20 ≤ (mA M 11 q).toInt ∧ (mA M 11 q).toInt ≤ 20) ∧ (∀ m, m < 6 → 0 ≤ (mA M 8 m).toInt) ∧ ∀ m, m < 6 → -1000000 ≤ (mA M 9 m).toInt ∧ (mA M 9 m).toInt ≤ 1000000
def vU (M : sM) : Prop := 0 ≤ (mI M 785).toInt ∧ (mI M 785).toInt ≤ 9000000 * ouN M + 30000000 * (ouN M * (ouN M + 1))
def Pn (M : sM) (n : Nat) (pA : Nat → Int32) : Prop := ∀ k, k < n → k < 64 → ∃ sz, sz ≤ 12 ∧ lfN M k ≤ sz ∧ pA k = nt (mA M 14 k) (io sz) (mB M 3 k)
def ok5 (v : Int32) : Prop := v = 0 ∨ v = 1 ∨ v = 2 ∨ v = 3 ∨ v = 4
def Nv (M : sM) (n e : Nat) (pA : Nat → Int32) : Prop := vX M e ∧ vLm M n ∧ (∀ k, k < n → Dk M k ∧ ok5 (mA M 19 k)) ∧ Pn M n pA ∧ vB M ∧ vU M
def Vw (M : sM) (n e : Nat) (pA : Nat → Int32) : Prop := Hv M n e ∧ Nv M n e pA
theorem nz_5 (h : nz v) : ok5 v := by
  rcases h with h | h | h
  · exact Or.inr (Or.inl h)
  · exact Or.inr (Or.inr (Or.inl h))
  · exact Or.inr (Or.inr (Or.inr (Or.inl h)))
theorem com_5 (hK : Kv M n) (ho : o < n) (hs : mA M 19 o = 0 ∨ mA M 19 o = 4) : ∀ k, k < n → ok5 (mA M 19 k) → ok5 (mA (comF M n o) 19 k) := fun k hk h => by
  have hnz := (com_D hK ho hs).2.1
  obtain ⟨hJ, hR, hQ, hW, T, hT, hT4⟩ := hK
  obtain ⟨a1, a2, a3, a4, T', a5, a6, a7⟩ := mtR_all hJ hR ho hs hT hT4
  obtain ⟨b1, b2, b3⟩ := se_all a1 ho a2
  have e : comF M n o = poF (seF (finF (mtR M n o) o) o) n := rfl
  have hO : Ox M (comF M n o) n o := by rw [e]; exact (a3.trans b3).trans Ox_po
  by_cases ek : k = o
  · rw [ek]; exact nz_5 hnz
  · by_cases h1 : mA M 19 k = 1
    · exact nz_5 (hO.2 k hk ek (Or.inl h1))
    · rw [(hO.1.1 k ek h1).1]; exact h
theorem fol_5 : ∀ (f : Nat) (M : sM), Kv M n → ∀ k, k < n → ok5 (mA M 19 k) → ok5 (mA (folF n f M) 19 k)
  | 0, M, _, _, _, h => h
  | f + 1, M, hK, k, hk, h => by
    cases e : lrF M n with
    | none => rw [fol_n e]; exact h
    | some o =>
      obtain ⟨ho, h0⟩ := lrF_s e
      rw [fol_s e]
      exact fol_5 f (comF M n o) (com_all hK ho (Or.inl h0)).1 k hk (com_5 hK ho (Or.inl h0) k hk h)
theorem vU_eq (h : vU M) (h1 : mI N 785 = mI M 785) (h2 : mB N 2 = mB M 2) : vU N := by
  have e2 : ouN N = ouN M := by unfold ouN; rw [h2]
  unfold vU at *
  rw [h1, e2]; exact h
theorem vB_eq (h : vB M) (hA : ∀ q, (q = 8 ∨ q = 9 ∨ q = 11) → mA N q = mA M q) : vB N := by
  unfold vB at *
  rw [hA 8 (by omega), hA 9 (by omega), hA 11 (by omega)]; exact h
theorem Nv_go (h : Nv M n e pA) (hu : Un N M) (hx : vX N e) (hl : vLm N n) (hz : Lz M N n) (hs : ∀ k, k < n → ok5 (mA M 19 k) → ok5 (mA N 19 k)) : Nv N n e pA := by
  obtain ⟨-, -, h3, h4, h5, h6⟩ := h
  refine ⟨hx, hl, fun k hk => ⟨(hz k hk).2 (h3 k hk).1, hs k hk (h3 k hk).2⟩, fun k hk hk6 => ?_, vB_eq h5 (fun q hq => hu.1 q (by rcases hq with g | g | g <;> subst g <;> rfl)), vU_eq h6 (hu.2.2 785 (by decide) (by decide)) (hu.2.1 2 (by decide) (by decide))⟩
  obtain ⟨y, y1, y2, y3⟩ := h4 k hk hk6
  refine ⟨y, y1, Nat.le_trans (hz k hk).1 y2, ?_⟩
  rw [hu.1 14 rfl, hu.2.1 3 (by decide) (by decide)]; exact y3
theorem Nv_com (h : Nv M n e pA) (he : e ≤ 100) (hK : Kv M n) (ho : o < n) (hs : mA M 19 o = 0 ∨ mA M 19 o = 4) : Nv (comF M n o) n e pA := by
  have g := com_X hK ho hs h.2.1
  exact Nv_go h g.1 (g.2.2 e he h.1) (com_Lm hK ho hs h.2.1) (com_Lz hK ho hs) (com_5 hK ho hs)
theorem Nv_fol (h : Nv M n e pA) (he : e ≤ 100) (hK : Kv M n) : Nv (folF n f M) n e pA := by
  obtain ⟨g, g2, -⟩ := fol_X f M hK h.2.1
  exact Nv_go h g.1 (g.2.2 e he h.1) g2 (fol_Lz f M hK) (fol_5 f M hK)
/-- what is the same of a state -/
theorem Nv_cgk (h : Nv M n e pA) (hA : ∀ q k, ((q = 1 ∨ q = 4 ∨ q = 5 ∨ q = 6 ∨ (21 ≤ q ∧ q ≤ 25)) ∨ (((12 ≤ q ∧ q ≤ 15) ∨ q = 19) ∧ k < n)) → mA N q k = mA M q k) (hB : ∀ q k, ((q = 2 ∨ q = 7) ∨ (q = 3 ∧ k < n)) → mB N q k = mB M q k) (hI : ∀ F, (F = 785 ∨ F = 801) → mI N F = mI M F) (hb : vB N) : Nv N n e pA := by
  obtain ⟨h1, h2, h3, h4, h5, h6⟩ := h
  have fB : ∀ q, (q = 2 ∨ q = 7) → mB N q = mB M q := fun q hq => funext fun k => hB q k (Or.inl hq)
  have eL : ∀ k, k < n → lfN N k = lfN M k := fun k hk => by unfold lfN; rw [hA 15 k (by omega)]
  have eM : ∀ k, k < n → oM N k = oM M k := fun k hk => by unfold oM; rw [hA 12 k (by omega)]
  have eB : ∀ k, k < n → oB N k = oB M k := fun k hk => by unfold oB; rw [hA 13 k (by omega)]
  refine ⟨vX_cg h1 (fun q hq => funext fun k => hA q k (Or.inl hq)) fB (hI 801 (by omega)), fun k hk => ?_, fun k hk => ?_, fun k hk hk6 => ?_, hb, vU_eq h6 (hI 785 (by omega)) (fB 2 (by omega))⟩
  · rw [eM k hk, eB k hk, eL k hk, hA 14 k (by omega), hA 19 k (by omega), fB 2 (by omega)]; exact h2 k hk
  · have := h3 k hk
    unfold Dk at *
    rw [eL k hk, hA 19 k (by omega)]; exact this
  · rw [eL k hk, hA 14 k (by omega), hB 3 k (by omega)]; exact h4 k hk hk6
theorem Nv_ag (h : Nv M n e pA) (g : Ag M N n) : Nv N n e pA :=
  Nv_cgk h (fun q k hq => g.1 q k (by omega)) (fun q k hq => g.2.1 q k (by omega)) (fun F _ => g.2.2 F) (vB_eq h.2.2.2.2.1 (fun q hq => funext fun k => g.1 q k (by omega)))
theorem Nv_768 (h : Nv M n e pA) : Nv (mIw M 768 v) n e pA :=
  Nv_cgk h (fun _ _ _ => rfl) (fun _ _ _ => rfl) (fun F hF => if_neg (by omega)) (vB_eq h.2.2.2.2.1 (fun _ _ => rfl))
theorem Nv_m0 (h : Nv M n e pA) : Nv (m0 M) n e pA := Nv_768 h
theorem Vw_m0 (h : Vw M n e pA) : Vw (m0 M) n e pA := ⟨Hv_m0 h.1, Nv_m0 h.2⟩
theorem Nv_nq (h : Nv M n e pA) : Nv (nqF M) n e pA :=
  Nv_cgk h (fun q k hq => by rw [nq_A (by omega)]) (fun _ _ _ => rfl) (fun _ _ => rfl) (vB_eq h.2.2.2.2.1 (fun q hq => nq_A (by omega)))
theorem Nv_B5 (h : Nv M n e pA) : Nv (mBw M 5 x z) n e pA :=
  Nv_cgk h (fun _ _ _ => rfl) (fun q k hq => bw_q (by omega)) (fun _ _ => rfl) (vB_eq h.2.2.2.2.1 (fun _ _ => rfl))
theorem Nv_A {q : Nat} (hq : q = 0 ∨ q = 2 ∨ q = 3 ∨ q = 7 ∨ q = 10 ∨ q = 20) (h : Nv M n e pA) : Nv (mAw M q x v) n e pA :=
  Nv_cgk h (fun q' k hq' => by rw [aw_f (by omega)]) (fun _ _ _ => rfl) (fun _ _ => rfl) (vB_eq h.2.2.2.2.1 (fun q' hq' => aw_f (by omega)))
/-- an order laid -/
theorem Nv_lay (h : Nv M n e pA) (hm : m < 6) (hb : b < 5) (h1 : 1 ≤ sz) (h2 : sz ≤ 12) (ho : mB M 2 m = false) (hp : vPb b p) : Nv (layM M n m b s p (io sz) u) (n + 1) e (pW pA n (nt p (io sz) s)) := by
  obtain ⟨g1, g2, g3, g4, g5, g6⟩ := h
  have k12 : mA (layM M n m b s p (io sz) u) 12 n = io m := lay_12
  have k13 : mA (layM M n m b s p (io sz) u) 13 n = io b := lay_13
  have k14 : mA (layM M n m b s p (io sz) u) 14 n = p := lay_14
  have k15 : mA (layM M n m b s p (io sz) u) 15 n = io sz := lay_15
  have k19 : mA (layM M n m b s p (io sz) u) 19 n = 0 := lay_19
  have kB3 : mB (layM M n m b s p (io sz) u) 3 n = s := lay_B3
  have kA : ∀ q k, (q < 12 ∨ 20 < q ∨ ¬ k = n) → mA (layM M n m b s p (io sz) u) q k = mA M q k := fun q k hq => lay_eA hq
  have kB : ∀ q k, (q < 3 ∨ 6 < q ∨ ¬ k = n) → mB (layM M n m b s p (io sz) u) q k = mB M q k := fun q k hq => lay_eB hq
  have kI : ∀ F, ¬ F = 786 → mI (layM M n m b s p (io sz) u) F = mI M F := fun F hF => lay_I hF
  generalize layM M n m b s p (io sz) u = N at *
  have gA : ∀ q, (q < 12 ∨ 20 < q) → mA N q = mA M q := fun q hq => funext fun k => kA q k (by omega)
  have gB : ∀ q, (q < 3 ∨ 6 < q) → mB N q = mB M q := fun q hq => funext fun k => kB q k (by omega)
  have eL : ∀ k, k < n → lfN N k = lfN M k := fun k hk => by unfold lfN; rw [kA 15 k (by omega)]
  have eM : ∀ k, k < n → oM N k = oM M k := fun k hk => by unfold oM; rw [kA 12 k (by omega)]
  have eB : ∀ k, k < n → oB N k = oB M k := fun k hk => by unfold oB; rw [kA 13 k (by omega)]
  have nL : lfN N n = sz := by unfold lfN; rw [k15]; exact nn_io (by omega)
  have nM : oM N n = m := by unfold oM; rw [k12]; exact nn_io (by omega)
  have nB : oB N n = b := by unfold oB; rw [k13]; exact nn_io (by omega)
  refine ⟨vX_cg g1 (fun q hq => gA q (by omega)) (fun q hq => gB q (by omega)) (kI 801 (by decide)), fun k hk => ?_, fun k hk => ?_, fun k hk hk6 => ?_, vB_eq g5 (fun q hq => gA q (by omega)), vU_eq g6 (kI 785 (by decide)) (gB 2 (by decide))⟩
  · by_cases ek : k = n
    · rw [ek, nM, nB, nL, k14, gB 2 (by decide)]
      exact ⟨hp, h2, fun _ => ho⟩
    · have hk2 : k < n := by omega
      rw [eM k hk2, eB k hk2, eL k hk2, kA 14 k (by omega), kA 19 k (by omega), gB 2 (by decide)]
      exact g2 k hk2
  · unfold Dk
    by_cases ek : k = n
    · rw [ek, k19, nL]
      exact ⟨Or.inr ⟨fun z => absurd z (by decide), fun z => by omega⟩, Or.inl rfl⟩
    · have hk2 : k < n := by omega
      rw [eL k hk2, kA 19 k (by omega)]
      exact g3 k hk2
  · by_cases ek : k = n
    · refine ⟨sz, h2, by rw [ek, nL]; exact Nat.le_refl _, ?_⟩
      rw [ek, k14, kB3]
      exact if_pos rfl
    · have hk2 : k < n := by omega
      obtain ⟨y, y1, y2, y3⟩ := g4 k hk2 hk6
      refine ⟨y, y1, by rw [eL k hk2]; exact y2, ?_⟩
      rw [kA 14 k (by omega), kB 3 k (by omega)]
      exact (if_neg ek).trans y3
/-- what an order answers -/
def Vr3 (r : Rs4) (M : sM) (n e d : Nat) (pA pB : Nat → Int32) : Prop := r = er M n 3 ∨ ∃ N, (tN M ≤ tN N ∧ mB N 2 = mB M 2) ∧ ((r = ok (-1) N n ∧ Vw N n e pA) ∨ (r = ok (io n) N (n + d) ∧ Vw N (n + d) e pB))
theorem tN_m0 : tN (m0 M) = tN M := by
  have e : mI (m0 M) 801 = mI M 801 := by
    show (if 801 = 768 then (0 : Int32) else mI M 801) = mI M 801
    exact if_neg (by decide)
  unfold tN
  rw [e]
theorem tN_e (h : mI N 801 = mI M 801) : tN N = tN M := by unfold tN; rw [h]
theorem Vw_sent (he : e ≤ 100) (HL : Hv Y (n + 1) e) (h : Nv Y (n + 1) e pA) (h19 : mA Y 19 n = 0) : Vw (folF (n + 1) (n + 1) (comF (mBw (nqF Y) 5 n z) (n + 1) n)) (n + 1) e pA ∧ tN Y ≤ tN (folF (n + 1) (n + 1) (comF (mBw (nqF Y) 5 n z) (n + 1) n)) ∧ mB (folF (n + 1) (n + 1) (comF (mBw (nqF Y) 5 n z) (n + 1) n)) 2 = mB Y 2 := by
  have H1 : Hv (mBw (nqF Y) 5 n z) (n + 1) e := Hv_sB (by decide) (Hv_nq HL)
  have N1 : Nv (mBw (nqF Y) 5 n z) (n + 1) e pA := Nv_B5 (Nv_nq h)
  have h2 : mA (mBw (nqF Y) 5 n z) 19 n = 0 := by
    rw [mA_B, nq_A (by decide)]
    exact h19
  have e8 : tN (mBw (nqF Y) 5 n z) = tN Y := tN_e rfl
  have e9 : mB (mBw (nqF Y) 5 n z) 2 = mB Y 2 := funext fun k => bw_q (by decide)
  generalize mBw (nqF Y) 5 n z = X at *
  have K2 := (com_all H1.1 (Nat.lt_succ_self n) (Or.inl h2)).1
  have N2 := Nv_com N1 he H1.1 (Nat.lt_succ_self n) (Or.inl h2)
  have t1 := com_tl H1.1 (Nat.lt_succ_self n) (Or.inl h2)
  have t2 := (fol_X (n + 1) (comF X (n + 1) n) K2 N2.2.1).2.2
  have b1 := (com_X H1.1 (Nat.lt_succ_self n) (Or.inl h2) N1.2.1).1.2.1 2 (by decide) (by decide)
  have b2 := (fol_X (n + 1) (comF X (n + 1) n) K2 N2.2.1).1.1.2.1 2 (by decide) (by decide)
  exact ⟨⟨Hv_fol (Hv_com H1 (by omega) (Nat.lt_succ_self n) h2) (by omega), Nv_fol N2 he K2⟩, by omega, b2.trans (b1.trans e9)⟩
theorem Vr3_sndY (h1 : Vw (mIw Y 786 (io n)) n e pA) (h2 : Vw (folF (n + 1) (n + 1) (comF (mBw (nqF Y) 5 n z) (n + 1) n)) (n + 1) e pA') (t1 : tN M ≤ tN (mIw Y 786 (io n)) ∧ mB (mIw Y 786 (io n)) 2 = mB M 2) (t2 : tN M ≤ tN (folF (n + 1) (n + 1) (comF (mBw (nqF Y) 5 n z) (n + 1) n)) ∧ mB (folF (n + 1) (n + 1) (comF (mBw (nqF Y) 5 n z) (n + 1) n)) 2 = mB M 2) : Vr3 (sndY Y n m z) M n e 1 pA pA' := by
  unfold sndY
  generalize folF (n + 1) (n + 1) (comF (mBw (nqF Y) 5 n z) (n + 1) n) = X at *
  generalize mIw Y 786 (io n) = X1 at *
  cases nmF Y (n + 1) m with
  | true => rw [cond_true]; exact Or.inr ⟨X1, t1, Or.inl ⟨rfl, h1⟩⟩
  | false => rw [cond_false]; exact Or.inr ⟨X, t2, Or.inr ⟨rfl, h2⟩⟩
theorem inB_s (h1 : 1 ≤ sz) (h2 : sz ≤ 12) : inB (io sz) 1 100 = true := by
  unfold inB
  have e := io_int (p := sz) (by omega)
  simp only [Bool.and_eq_true, Bool.not_eq_true', decide_eq_false_iff_not]
  refine ⟨fun z => ?_, fun z => ?_⟩
  · rw [Int32.lt_iff_toInt_lt, e] at z
    have : (1 : Int32).toInt = 1 := rfl
    omega
  · rw [Int32.lt_iff_toInt_lt, e] at z
    have : (100 : Int32).toInt = 100 := rfl
    omega
theorem prB_v (hp : vPb b p) : prB b p = true := by
  have e1 : (1 : Int32).toInt = 1 := rfl
  have e2 : (999 : Int32).toInt = 999 := rfl
  have e3 : (-500 : Int32).toInt = -500 := rfl
  have e4 : (500 : Int32).toInt = 500 := rfl
  unfold prB inB
  by_cases hb : b < 3
  · have := hp.1 hb
    rw [decide_eq_true hb, cond_true]
    simp only [Bool.and_eq_true, Bool.not_eq_true', decide_eq_false_iff_not, Int32.lt_iff_toInt_lt]
    omega
  · have := hp.2 (by omega)
    rw [decide_eq_false hb, cond_false]
    simp only [Bool.and_eq_true, Bool.not_eq_true', decide_eq_false_iff_not, Int32.lt_iff_toInt_lt]
    omega
theorem io_s100 (h1 : 1 ≤ sz) (h2 : sz ≤ 12) : ∃ f, io sz = io f ∧ 1 ≤ f ∧ f ≤ 100 := ⟨sz, rfl, h1, by omega⟩
theorem Vr3_snd (hv : Vw M n e pA) (he : e ≤ 100) (hn : n < 200) (hm : m < 6) (hb : b < 5) (h1 : 1 ≤ sz) (h2 : sz ≤ 12) (hh : ∃ f, u = io f ∧ 1 ≤ f ∧ f ≤ 100) (hp : vPb b p) (ho : mB M 2 m = false) : Vr3 (sndR M n m b s p (io sz) u z) M n e 1 pA (pW pA n (nt p (io sz) s)) := by
  have HL : Hv (layM (m0 M) n m b s p (io sz) u) (n + 1) e := Hv_lay (Hv_m0 hv.1) hn hm hb (inB_s h1 h2) hh (prB_v hp)
  have hag : Ag (m0 M) (mIw (layM (m0 M) n m b s p (io sz) u) 786 (io n)) n := Ag_of lay_fA lay_fB (fun F g => lay_I g) (Hv_m0 hv.1).1.2.1
  have h19 : mA (layM (m0 M) n m b s p (io sz) u) 19 n = 0 := lay_19
  have HA := Hv_ag (Hv_m0 hv.1) hag
  have NA : Nv (mIw (layM (m0 M) n m b s p (io sz) u) 786 (io n)) n e pA := Nv_ag (Nv_m0 hv.2) hag
  have NL : Nv (layM (m0 M) n m b s p (io sz) u) (n + 1) e (pW pA n (nt p (io sz) s)) := Nv_lay (Nv_m0 hv.2) hm hb h1 h2 ho hp
  have e1 : tN (mIw (layM (m0 M) n m b s p (io sz) u) 786 (io n)) = tN M := (tN_e (hag.2.2 801)).trans tN_m0
  have e2 : tN (layM (m0 M) n m b s p (io sz) u) = tN M := (tN_e (lay_I (by decide))).trans tN_m0
  have e3 : mB (mIw (layM (m0 M) n m b s p (io sz) u) 786 (io n)) 2 = mB M 2 := funext fun k => hag.2.1 2 k (by omega)
  have e4 : mB (layM (m0 M) n m b s p (io sz) u) 2 = mB M 2 := lay_gB (by decide)
  unfold sndR
  generalize layM (m0 M) n m b s p (io sz) u = Y at *
  obtain ⟨v1, v2, v3⟩ := Vw_sent (z := z) he HL NL h19
  exact Vr3_sndY ⟨HA, NA⟩ v1 ⟨by omega, e3⟩ ⟨by omega, v3.trans e4⟩
theorem okO_v (h1 : 1 ≤ sz) (h2 : sz ≤ 12) (hp : vPb b p) (hf : f ≤ sz) (hf1 : 1 ≤ f) : okO b p (io sz) (io f) = true := by
  unfold okO
  rw [prB_v hp, inB_s h1 h2]
  unfold inB
  have e1 := io_int (p := sz) (by omega)
  have e2 := io_int (p := f) (by omega)
  have e3 : (1 : Int32).toInt = 1 := rfl
  simp only [Bool.true_and, Bool.and_eq_true, Bool.not_eq_true', decide_eq_false_iff_not, Int32.lt_iff_toInt_lt]
  omega
theorem Vr3_94 (hv : Vw M n e pA) (he : e ≤ 100) (hm : m < 6) (hb : b < 5) (h1 : 1 ≤ sz) (h2 : sz ≤ 12) (hp : vPb b p) (hf : f ≤ sz) (hf1 : 1 ≤ f) : Vr3 (sp94 M n (io m) (io b) s p (io sz) (io f)) M n e 1 pA (pW pA n (nt p (io sz) s)) := by
  unfold sp94
  rw [ixo_in (by decide) hm]
  simp only []
  rw [ixo_in (by decide) hb]
  simp only []
  rw [okO_v h1 h2 hp hf hf1, cond_true]
  cases h3 : stO M n m b with
  | false => exact Or.inl rfl
  | true =>
    have hst := h3
    unfold stO at hst
    simp at hst
    rw [cond_true]
    exact Vr3_snd hv he hst.2.2 hm hb h1 h2 ⟨f, rfl, hf1, by omega⟩ hp hst.2.1
theorem Vr3_95 (hv : Vw M n e pA) (he : e ≤ 100) (hm : m < 6) (hb : b < 5) (h1 : 1 ≤ sz) (h2 : sz ≤ 12) (hp : vPb b p) : Vr3 (sp95 M n (io m) (io b) s p (io sz)) M n e 1 pA (pW pA n (nt p (io sz) s)) := by
  unfold sp95
  rw [ixo_in (by decide) hm]
  simp only []
  rw [ixo_in (by decide) hb]
  simp only []
  have ho : okN b p (io sz) = true := by
    unfold okN
    rw [prB_v hp, inB_s h1 h2]; rfl
  rw [ho, cond_true]
  cases h3 : stN' M n m b with
  | false => exact Or.inl rfl
  | true =>
    have hst := h3
    unfold stN' at hst
    simp at hst
    rw [cond_true]
    exact Vr3_snd hv he hst.2.2 hm hb h1 h2 (io_s100 h1 h2) hp hst.2.1
theorem Vr3_stpY (hv : Vw M n e pA) (HL : Hv Y (n + 1) e) (hag : Ag (m0 M) (mIw Y 786 (io n)) n) (NL : Nv Y (n + 1) e pA') (e2 : tN Y = tN M) (e3 : mB Y 2 = mB M 2) : Vr3 (stpY Y n m h) M n e 1 pA pA' := by
  have a20 := Ag_20 (v := h) hag
  have w1 : Vw (mIw (mAw Y 20 n h) 786 (io n)) n e pA := ⟨Hv_ag (Hv_m0 hv.1) a20, Nv_ag (Nv_m0 hv.2) a20⟩
  have w2 : Vw (mAw Y 20 n h) (n + 1) e pA' := ⟨Hv_20 HL, Nv_A (by omega) NL⟩
  have t1 : tN (mIw (mAw Y 20 n h) 786 (io n)) = tN M := (tN_e (a20.2.2 801)).trans tN_m0
  have t2 : tN (mAw Y 20 n h) = tN M := e2
  have t3 : mB (mIw (mAw Y 20 n h) 786 (io n)) 2 = mB M 2 := funext fun k => a20.2.1 2 k (by omega)
  have t4 : mB (mAw Y 20 n h) 2 = mB M 2 := e3
  unfold stpY
  generalize mIw (mAw Y 20 n h) 786 (io n) = W1 at *
  generalize mAw Y 20 n h = W2 at *
  cases nmF Y (n + 1) m with
  | true => rw [cond_true]; exact Or.inr ⟨W1, ⟨by omega, t3⟩, Or.inl ⟨rfl, w1⟩⟩
  | false => rw [cond_false]; exact Or.inr ⟨W2, ⟨by omega, t4⟩, Or.inr ⟨rfl, w2⟩⟩
theorem Vr3_96 (hv : Vw M n e pA) (hm : m < 6) (hb : b < 5) (h1 : 1 ≤ sz) (h2 : sz ≤ 12) (hp : vPb b p) (hh : vPb b h) : Vr3 (sp96 M n (io m) (io b) s p (io sz) h) M n e 1 pA (pW pA n (nt p (io sz) s)) := by
  unfold sp96
  rw [ixo_in (by decide) hm]
  simp only []
  rw [ixo_in (by decide) hb]
  simp only []
  have ho : okS b p (io sz) h = true := by
    unfold okS
    rw [prB_v hp, inB_s h1 h2, prB_v hh]; rfl
  rw [ho, cond_true]
  cases h3 : stO M n m b with
  | false => exact Or.inl rfl
  | true =>
    have hst := h3
    unfold stO at hst
    simp at hst
    rw [cond_true]
    have HL : Hv (layM (m0 M) n m b s p (io sz) (io sz)) (n + 1) e := Hv_lay (Hv_m0 hv.1) hst.2.2 hm hb (inB_s h1 h2) (io_s100 h1 h2) (prB_v hp)
    have hag : Ag (m0 M) (mIw (layM (m0 M) n m b s p (io sz) (io sz)) 786 (io n)) n := Ag_of lay_fA lay_fB (fun F g => lay_I g) (Hv_m0 hv.1).1.2.1
    have NL : Nv (layM (m0 M) n m b s p (io sz) (io sz)) (n + 1) e (pW pA n (nt p (io sz) s)) := Nv_lay (Nv_m0 hv.2) hm hb h1 h2 hst.2.1 hp
    have e2 : tN (layM (m0 M) n m b s p (io sz) (io sz)) = tN M := (tN_e (lay_I (by decide))).trans tN_m0
    exact Vr3_stpY hv HL hag NL e2 (lay_gB (by decide))
/-- those withdrawn -/
theorem Nv_dead (h : Nv M n e pA) (he : e ≤ 100) (hg : Gx N M) (h15 : mA N 15 = mA M 15) (hd : ∀ k, k < n → mA N 19 k = mA M 19 k ∨ ((mA M 19 k = 0 ∨ mA M 19 k = 1) ∧ mA N 19 k = 3)) : Nv N n e pA := by
  have z : Lz M N n := fun k hk => by
    refine ⟨by unfold lfN; rw [h15]; exact Nat.le_refl _, fun g => ?_⟩
    rcases hd k hk with d | ⟨d1, d2⟩
    · unfold Dk lfN at *; rw [d, h15]; exact g
    · exact Dk_3 g d1 d2 h15
  refine Nv_go h hg.1 (hg.2.2 e he h.1) (vLm_go h.2.1 hg.1 (fun k hk => (z k hk).1) (fun k hk g => ?_)) z (fun k hk g => ?_)
  rotate_left
  · rcases hd k hk with d | ⟨d1, d2⟩
    · rw [d]; exact g
    · rw [d2]; exact Or.inr (Or.inr (Or.inr (Or.inl rfl)))
  rcases hd k hk with d | ⟨d1, d2⟩
  · rw [← d]; exact g
  · rw [d2] at g
    rcases g with g | g | g <;> exact absurd g (by decide)
theorem Nv_wqs (h : Nv M n e pA) (he : e ≤ 100) : Nv (wqsF M n m b) n e pA := by
  have e1 : wqsF M n m b = wqs_L M n m b n := rfl
  refine Nv_dead h he (by rw [e1]; exact Gx_wqs (Gx.refl M) n) (by rw [e1, wqs_wd]; exact wd_o (by decide) (by decide)) (fun k hk => ?_)
  rw [e1, wqs_wd, wd_19]
  cases hp : (decide (k < n) && qs M m b k) with
  | true =>
    rw [if_pos rfl]
    rw [Bool.and_eq_true] at hp
    exact Or.inr ⟨(qs_lv hp.2).2.2.2, rfl⟩
  | false => rw [if_neg Bool.false_ne_true]; exact Or.inl rfl
theorem Nv_4 (h : Nv M n e pA) (hx : x < n) (h0 : mA M 19 x = 0) : Nv (mAw M 19 x 4) n e pA := by
  obtain ⟨g1, g2, g3, g4, g5, g6⟩ := h
  have f : ∀ q, ¬ q = 19 → mA (mAw M 19 x 4) q = mA M q := fun q hq => aw_f hq
  have c : ∀ k, mA (mAw M 19 x 4) 19 k = if k = x then 4 else mA M 19 k := fun k => by
    rw [aw_cell]
    by_cases g : k = x
    · rw [if_pos ⟨rfl, g⟩, if_pos g]
    · rw [if_neg (fun z => g z.2), if_neg g]
  have fB : mB (mAw M 19 x 4) = mB M := rfl
  have fI : mI (mAw M 19 x 4) = mI M := rfl
  generalize mAw M 19 x 4 = N at *
  refine ⟨vX_cg g1 (fun q hq => f q (by omega)) (fun q _ => congrFun fB q) (congrFun fI 801), fun k hk => ?_, fun k hk => ?_, fun k hk hk6 => ?_, vB_eq g5 (fun q hq => f q (by omega)), vU_eq g6 (congrFun fI 785) (congrFun fB 2)⟩
  · have := g2 k hk
    unfold lfN oM oB at *
    rw [f 12 (by decide), f 13 (by decide), f 14 (by decide), f 15 (by decide), fB, c]
    refine ⟨this.1, this.2.1, fun g => ?_⟩
    by_cases ek : k = x
    · exact this.2.2 (Or.inl (by rw [ek]; exact h0))
    · rw [if_neg ek] at g; exact this.2.2 g
  · have := g3 k hk
    unfold Dk lfN at *
    rw [c, f 15 (by decide)]
    by_cases ek : k = x
    · rw [if_pos ek]; exact ⟨Or.inl rfl, Or.inr (Or.inr (Or.inr (Or.inr rfl)))⟩
    · rw [if_neg ek]; exact this
  · have := g4 k hk hk6
    unfold lfN at *
    rw [f 14 (by decide), f 15 (by decide), fB]; exact this
theorem Nv_B4 (h : Nv M n e pA) : Nv (mBw M 4 x z) n e pA :=
  Nv_cgk h (fun _ _ _ => rfl) (fun q k hq => bw_q (by omega)) (fun _ _ => rfl) (vB_eq h.2.2.2.2.1 (fun _ _ => rfl))
theorem Nv_qR (h : Nv Z (n + 2) e pA) (h4 : mA Z 19 n = 0) (h5 : mA Z 19 (n + 1) = 0) : Nv (qR Z n) (n + 2) e pA := by
  have h1 := Nv_4 h (x := n) (by omega) h4
  have h2 : mA (mAw Z 19 n 4) 19 (n + 1) = 0 := (aw_o (by omega)).trans h5
  have h3 := Nv_4 h1 (x := n + 1) (by omega) h2
  exact Nv_B4 (Nv_B4 h3)
/-- both come -/
theorem Nv_qF2 (h : Nv R (n + 2) e pA) (he : e ≤ 100) (hK : Kv R (n + 2)) (hK1 : Kv (mIw R 786 (io (n + 1))) (n + 1)) (h4 : mA R 19 n = 4) (h5 : mA R 19 (n + 1) = 4) : Nv (qF2 R n) (n + 2) e pA ∧ tN R ≤ tN (qF2 R n) ∧ mB (qF2 R n) 2 = mB R 2 := by
  have ho1 : n < n + 2 := by omega
  have k1 := (com_all hK ho1 (Or.inr h4)).1
  have n1 := Nv_com h he hK ho1 (Or.inr h4)
  have t1 := com_tl hK ho1 (Or.inr h4)
  have n2 := Nv_fol (f := n + 2) n1 he k1
  have k2 := fol_K (n + 2) (comF R (n + 2) n) k1
  have t2 := (fol_X (n + 2) (comF R (n + 2) n) k1 n1.2.1).2.2
  have b1 := (com_X hK ho1 (Or.inr h4) h.2.1).1.2.1 2 (by decide) (by decide)
  have b2 := (fol_X (n + 2) (comF R (n + 2) n) k1 n1.2.1).1.1.2.1 2 (by decide) (by decide)
  have hU := (q_half (f := n + 2) hK hK1 h4 h5).2.1
  have h6 : mA (folF (n + 2) (n + 2) (comF R (n + 2) n)) 19 (n + 1) = 4 := (hU.1 19 (by decide) (by decide)).trans h5
  have e1 : qF1 R n = folF (n + 2) (n + 2) (comF R (n + 2) n) := rfl
  have e2 : qF2 R n = folF (n + 2) (n + 2) (comF (qF1 R n) (n + 2) (n + 1)) := rfl
  rw [e2, e1]
  clear hU
  generalize folF (n + 2) (n + 2) (comF R (n + 2) n) = F1 at *
  have ho2 : n + 1 < n + 2 := by omega
  have k3 := (com_all k2 ho2 (Or.inr h6)).1
  have n3 := Nv_com n2 he k2 ho2 (Or.inr h6)
  have t3 := com_tl k2 ho2 (Or.inr h6)
  have b3 := (com_X k2 ho2 (Or.inr h6) n2.2.1).1.2.1 2 (by decide) (by decide)
  have b4 := (fol_X (n + 2) (comF F1 (n + 2) (n + 1)) k3 n3.2.1).1.1.2.1 2 (by decide) (by decide)
  exact ⟨Nv_fol n3 he k3, by have := (fol_X (n + 2) (comF F1 (n + 2) (n + 1)) k3 n3.2.1).2.2; omega, b4.trans (b3.trans (b2.trans b1))⟩
theorem Vr3_97 (hv : Vw M n e pA) (he : e ≤ 100) (hm : m < 6) (hb : b < 5) (h1 : 1 ≤ sz) (h2 : sz ≤ 12) (hp : vPb b p) (hu : vPb b u) (hpu : p < u) : Vr3 (sp97 M n (io m) (io b) p u (io sz)) M n e 2 pA (pW (pW pA n (nt p (io sz) true)) (n + 1) (nt u (io sz) false)) := by
  have ho3 := inB_s h1 h2
  have ho1 := prB_v hp
  have ho2 := prB_v hu
  unfold sp97
  rw [ixo_in (by decide) hm]
  simp only []
  rw [ixo_in (by decide) hb]
  simp only []
  have ho : okQ b p u (io sz) = true := by
    unfold okQ
    rw [ho1, ho2, ho3, decide_eq_true hpu]; rfl
  rw [ho, cond_true]
  cases h3 : stQ M n m b with
  | false => exact Or.inl rfl
  | true =>
    have hst := h3
    unfold stQ at hst
    simp at hst
    obtain ⟨-, hout, hn⟩ := hst
    rw [cond_true]
    have hag := qL_ag (M := m0 M) (m := m) (b := b) (p := p) (u := u) (a := io sz) (Hv_m0 hv.1).1.2.1
    have w0 : Vw (mIw (qL (m0 M) n m b p u (io sz)) 786 (io n)) n e pA := ⟨Hv_ag (Hv_m0 hv.1) hag, Nv_ag (Nv_m0 hv.2) hag⟩
    have t0 : tN (mIw (qL (m0 M) n m b p u (io sz)) 786 (io n)) = tN M := (tN_e (hag.2.2 801)).trans tN_m0
    have HW : Hv (wqsF (m0 M) n m b) n e := Hv_wqs (Hv_m0 hv.1) (by omega)
    have NW : Nv (wqsF (m0 M) n m b) n e pA := Nv_wqs (Nv_m0 hv.2) he
    have tW : tN (wqsF (m0 M) n m b) = tN M := (tN_e (by rw [show wqsF (m0 M) n m b = wqs_L (m0 M) n m b n from rfl, wqs_wd]; rfl)).trans tN_m0
    have w2 : mB (mIw (qL (m0 M) n m b p u (io sz)) 786 (io n)) 2 = mB M 2 := funext fun k => hag.2.1 2 k (by omega)
    have bW : mB (wqsF (m0 M) n m b) 2 = mB M 2 := by
      rw [show wqsF (m0 M) n m b = wqs_L (m0 M) n m b n from rfl, wqs_wd, wd_B]; rfl
    have oW : mB (wqsF (m0 M) n m b) 2 m = false := by
      rw [show wqsF (m0 M) n m b = wqs_L (m0 M) n m b n from rfl, wqs_wd, wd_B]; exact hout
    have hdead : ∀ k, k < n → mB (wqsF (m0 M) n m b) 4 k = true → oM (wqsF (m0 M) n m b) k = m → oB (wqsF (m0 M) n m b) k = b → (mA (wqsF (m0 M) n m b) 19 k = 0 ∨ mA (wqsF (m0 M) n m b) 19 k = 1 ∨ mA (wqsF (m0 M) n m b) 19 k = 4) → False := fun k hk c1 c2 c3 c4 => wqs_dead hk c1 c2 c3 ((Hv_m0 hv.1).2.2.1 k hk) c4
    unfold qres
    generalize wqsF (m0 M) n m b = N at *
    generalize mIw (qL (m0 M) n m b p u (io sz)) 786 (io n) = W0 at *
    cases qd M n m b (io sz) with
    | true => rw [cond_true]; exact Or.inr ⟨W0, ⟨by omega, w2⟩, Or.inl ⟨rfl, w0⟩⟩
    | false =>
      rw [cond_false]
      have H2 := Hv_qt (p := p) (u := u) (a := io sz) HW (by omega) hn hm hb ho3 ho1 ho2 hdead
      have NX : Nv (qX N n m b) n e pA := Nv_A (by omega) (Nv_nq NW)
      have oX : mB (qX N n m b) 2 m = false := oW
      have tX : tN (qX N n m b) = tN N := tN_e rfl
      have NL : Nv (qL (qX N n m b) n m b p u (io sz)) (n + 2) e (pW (pW pA n (nt p (io sz) true)) (n + 1) (nt u (io sz) false)) := by
        unfold qL
        have N1 : Nv (layM (qX N n m b) n m b true p (io sz) (io sz)) (n + 1) e (pW pA n (nt p (io sz) true)) := Nv_lay NX hm hb h1 h2 oX hp
        have o1 : mB (layM (qX N n m b) n m b true p (io sz) (io sz)) 2 m = false := (lay_eB (by omega)).trans oX
        generalize layM (qX N n m b) n m b true p (io sz) (io sz) = Y1 at *
        exact Nv_lay N1 hm hb h1 h2 o1 hu
      obtain ⟨-, f2, f3, -⟩ := qL_facts (a := io sz) (Kv_X (m := m) (b := b) HW.1) hn hm hb ho3 ho1 ho2
      obtain ⟨-, b2, b3, b4, b5, -⟩ := q_all (u := u) (p := p) (a := io sz) (Kv_X (m := m) (b := b) HW.1) hn hm hb ho3 ho1 ho2
      have bL : mB (qL (qX N n m b) n m b p u (io sz)) 2 = mB N 2 := funext fun k => qL_B (by omega)
      have tL : tN (qL (qX N n m b) n m b p u (io sz)) = tN (qX N n m b) := tN_e (qL_I (by decide))
      generalize qX N n m b = X at *
      generalize qL X n m b p u (io sz) = Z at *
      have NR := Nv_qR NL f2 f3
      have tR : tN (qR Z n) = tN Z := tN_e (congrFun qR_I 801)
      have bR : mB (qR Z n) 2 = mB Z 2 := funext fun k => qR_B (by decide)
      generalize qR Z n = R at *
      obtain ⟨n2, t2, t3⟩ := Nv_qF2 NR he b2 b3 b4 b5
      exact Or.inr ⟨qF2 R n, ⟨by omega, t3.trans (bR.trans (bL.trans bW))⟩, Or.inr ⟨rfl, H2, n2⟩⟩
end Syf
