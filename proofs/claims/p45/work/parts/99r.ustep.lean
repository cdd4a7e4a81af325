/-! uncross: one trade of the uncrossing -/
section S99r
variable {t t' t0 : sT} {M M' M0 N Y Z R : sM} {n T A B b c m o k K w v e q j i K' f : Nat} {p a h d u g p0 p1 x y : Int32} {s z : Bool} {L L' l : List Nat} {r r0 : Option Nat} {y0 y1 y2 y3 y4 y5 y6 : sV} {Q : sRs → sT → Prop}
/-- one trade: it is recorded, and both orders give it -/
def usM (M : sM) (b T : Nat) (p : Int32) (i j : Nat) (a : Int32) : sM := ofF (ofF (dbF M T b (oM M i) (oM M j) p a) i a) j a
theorem of_15 : mA (ofF M k a) 15 k = mA M 15 k - a := by
  unfold ofF
  cases decide (((mA M 15 k) - a) = 0)
  · rw [cond_false, aw_q (by decide), aw_s]
  · rw [cond_true, aw_q (by decide), aw_q (by decide), aw_q (by decide), aw_s]
theorem of_19 : mA (ofF M k a) 19 k = if mA M 15 k - a = 0 then 2 else mA M 19 k := by
  unfold ofF
  by_cases g : mA M 15 k - a = 0
  · rw [decide_eq_true g, cond_true, aw_q (by decide), aw_s, if_pos g]
  · rw [decide_eq_false g, cond_false, aw_q (by decide), aw_q (by decide), if_neg g]
theorem of_r {q : Nat} (hq : ¬ q = 15 ∧ ¬ q = 26 ∧ ¬ q = 19 ∧ ¬ q = 17) : mA (ofF M k a) q = mA M q := by
  unfold ofF
  cases decide (((mA M 15 k) - a) = 0)
  · rw [cond_false, aw_f hq.2.1, aw_f hq.1]
  · rw [cond_true, aw_f hq.2.2.2, aw_f hq.2.2.1, aw_f hq.2.1, aw_f hq.1]
theorem us_r {q : Nat} (hq : 12 ≤ q ∧ q ≤ 20) (h2 : ¬ q = 15 ∧ ¬ q = 19 ∧ ¬ q = 17) : mA (usM M b T p i j a) q k = mA M q k := by
  unfold usM
  rw [of_r (by omega), of_r (by omega)]
  exact Ux_db.1 q hq.1 hq.2
theorem us_o {q : Nat} (hq : 12 ≤ q ∧ q ≤ 20) (h1 : ¬ k = i) (h2 : ¬ k = j) : mA (usM M b T p i j a) q k = mA M q k := by
  unfold usM
  rw [of_o h2 (by omega), of_o h1 (by omega)]
  exact Ux_db.1 q hq.1 hq.2
theorem us_B {q : Nat} (hq : 3 ≤ q ∧ q ≤ 6) : mB (usM M b T p i j a) q k = mB M q k := by
  unfold usM
  rw [of_B, of_B]
  exact Ux_db.2 q hq.1 hq.2
theorem us_15i (h : ¬ i = j) : mA (usM M b T p i j a) 15 i = mA M 15 i - a := by
  unfold usM
  rw [of_o h (by decide), of_15]
  congr 1
  exact Ux_db.1 15 (by decide) (by decide)
theorem us_15j (h : ¬ i = j) : mA (usM M b T p i j a) 15 j = mA M 15 j - a := by
  unfold usM
  rw [of_15, of_o (fun g => h g.symm) (by decide)]
  congr 1
  exact Ux_db.1 15 (by decide) (by decide)
theorem us_19i (h : ¬ i = j) : mA (usM M b T p i j a) 19 i = if mA M 15 i - a = 0 then 2 else mA M 19 i := by
  unfold usM
  rw [of_o h (by decide), of_19]
  have e1 : mA (dbF M T b (oM M i) (oM M j) p a) 15 i = mA M 15 i := Ux_db.1 15 (by decide) (by decide)
  have e2 : mA (dbF M T b (oM M i) (oM M j) p a) 19 i = mA M 19 i := Ux_db.1 19 (by decide) (by decide)
  rw [e1, e2]
theorem us_19j (h : ¬ i = j) : mA (usM M b T p i j a) 19 j = if mA M 15 j - a = 0 then 2 else mA M 19 j := by
  unfold usM
  rw [of_19, of_o (fun g => h g.symm) (by decide), of_o (fun g => h g.symm) (by decide)]
  have e1 : mA (dbF M T b (oM M i) (oM M j) p a) 15 j = mA M 15 j := Ux_db.1 15 (by decide) (by decide)
  have e2 : mA (dbF M T b (oM M i) (oM M j) p a) 19 j = mA M 19 j := Ux_db.1 19 (by decide) (by decide)
  rw [e1, e2]
/-- what holds between two trades -/
def Lv1 (M : sM) (n : Nat) : Prop := Sd M n ∧ ∀ k, k < n → mA M 15 k = io (lfN M k) ∧ lfN M k ≤ 100 ∧ (mA M 19 k = 1 → 1 ≤ lfN M k)
def Uv (M : sM) (n b : Nat) (p : Int32) (K : Nat) : Prop := Lv1 M n ∧ K = min (waN M n b true p) (waN M n b false p)
def rcN (M : sM) (n : Nat) : Nat := sumN (fun k => if mA M 19 k = 1 then 1 else 0) n
def dnN (M : sM) (n : Nat) : Nat := sumN (fun k => if mA M 19 k = 2 then 1 else 0) n
theorem rcN_le : rcN M n ≤ n := by
  have h : rcN M n ≤ 1 * n := sumN_le (fun k _ => by split <;> omega)
  omega
/-- the best of a side with something wanted accepts -/
theorem best_a (hL : Sd M n) (h : 0 < waN M n b s p) : ∃ i, bsF M n b s = some i ∧ rst M n b s i ∧ acc M s p i = true := by
  obtain ⟨l, h1, h2⟩ := Cl_pre (b := b) (s := s) hL n (Nat.le_refl n)
  have h3 : ∀ o, o ∈ l ↔ rst M n b s o := fun o => (h2 o).trans ⟨fun h => h.2, fun h => ⟨h.1, h⟩⟩
  have e := bsF_hd h1 h3
  cases l with
  | nil =>
    have := waN_l (p := p) h1 h3
    have e2 : suL (fun k => if acc M s p k = true then lfN M k else 0) [] = 0 := rfl
    omega
  | cons i l =>
    refine ⟨i, e, (h3 i).mp List.mem_cons_self, ?_⟩
    apply Classical.byContradiction
    intro g
    have hp := List.pairwise_cons.mp h1
    have := waN_l (p := p) h1 h3
    have e2 : suL (fun k => if acc M s p k = true then lfN M k else 0) (i :: l) = 0 := suL_0 (fun y hy => by
      rcases List.mem_cons.mp hy with e | e
      · rw [e]; exact if_neg g
      · exact if_neg (acc_mono (hp.1 y e) g))
    omega
theorem waP_i (h : rst M n b s i) (ha : acc M s p i = true) : waP M b s p i = lfN M i := if_pos ⟨h.2, ha⟩
theorem wa_i (h : rst M n b s i) (ha : acc M s p i = true) : lfN M i ≤ waN M n b s p := by
  have e := sumN_up (f := waP M b s p) (g := fun k => if k = i then 0 else waP M b s p k) (n := n) h.1 (fun k _ hk => (if_neg hk).symm)
  have e2 : sumN (waP M b s p) n + (if i = i then 0 else waP M b s p i) = sumN (fun k => if k = i then 0 else waP M b s p k) n + waP M b s p i := e
  rw [if_pos rfl, waP_i h ha] at e2
  show lfN M i ≤ sumN (waP M b s p) n
  omega
/-- one trade keeps all this -/
theorem us_all (hU : Uv M n b p K) (hK : 0 < K) : ∃ i j v, bsF M n b true = some i ∧ bsF M n b false = some j ∧ i < n ∧ j < n ∧ mA M 19 i = 1 ∧ mA M 19 j = 1 ∧ ¬ i = j ∧ mnc (mA M 15 j) (mA M 15 i) = io v ∧ mnc (mA M 15 i) (mA M 15 j) = io v ∧ v ≤ K ∧ 1 ≤ v ∧ v ≤ 100 ∧ (∀ T, Uv (usM M b T p i j (io v)) n b p (K - v) ∧ rcN (usM M b T p i j (io v)) n < rcN M n ∧ dnN M n + 1 ≤ dnN (usM M b T p i j (io v)) n ∧ mA (ofF (dbF M T b (oM M i) (oM M j) p (io v)) i (io v)) 19 j = 1) := by
  obtain ⟨⟨hS, hL⟩, rfl⟩ := hU
  obtain ⟨i, e1, h1, a1⟩ := best_a (b := b) (s := true) (p := p) hS (by omega)
  obtain ⟨j, e2, h2, a2⟩ := best_a (b := b) (s := false) (p := p) hS (by omega)
  have hij : ¬ i = j := fun g => by have := h1.2.2.2; have := h2.2.2.2; rw [g] at *; simp_all
  obtain ⟨i1, i2, i3⟩ := hL i h1.1
  obtain ⟨j1, j2, j3⟩ := hL j h2.1
  have i4 := i3 h1.2.1
  have j4 := j3 h2.2.1
  have w1 := wa_i h1 a1
  have w2 := wa_i h2 a2
  have hv1 : mnc (mA M 15 j) (mA M 15 i) = io (min (lfN M j) (lfN M i)) := by
    have := mnc_io (p := lfN M j) (q := lfN M i) (by omega) (by omega)
    rw [j1, i1]; exact this
  have hv2 : mnc (mA M 15 i) (mA M 15 j) = io (min (lfN M j) (lfN M i)) := by
    have := mnc_io (p := lfN M i) (q := lfN M j) (by omega) (by omega)
    rw [j1, i1, Nat.min_comm (lfN M j)]; exact this
  refine ⟨i, j, min (lfN M j) (lfN M i), e1, e2, h1.1, h2.1, h1.2.1, h2.2.1, hij, hv1, hv2, by omega, by omega, by omega, fun T => ?_⟩
  generalize hv : min (lfN M j) (lfN M i) = v at *
  have vi : v ≤ lfN M i := by omega
  have vj : v ≤ lfN M j := by omega
  have s1 : mA M 15 i - io v = io (lfN M i - v) := by rw [i1]; exact io_sub vi
  have s2 : mA M 15 j - io v = io (lfN M j - v) := by rw [j1]; exact io_sub vj
  have q1 : mA (usM M b T p i j (io v)) 15 i = io (lfN M i - v) := (us_15i hij).trans s1
  have q2 : mA (usM M b T p i j (io v)) 15 j = io (lfN M j - v) := (us_15j hij).trans s2
  have z1 : ∀ z : Nat, z ≤ 100 → (io z = 0 ↔ z = 0) := fun z hz => ⟨fun g => by have := congrArg Int32.toNatClampNeg g; rw [nn_io (by omega)] at this; exact this, fun g => by rw [g]; rfl⟩
  have r1 : mA (usM M b T p i j (io v)) 19 i = if lfN M i - v = 0 then 2 else 1 := by
    rw [us_19i hij, s1, h1.2.1]
    by_cases g : lfN M i - v = 0
    · rw [if_pos g, if_pos ((z1 _ (by omega)).mpr g)]
    · rw [if_neg g, if_neg (fun z => g ((z1 _ (by omega)).mp z))]
  have r2 : mA (usM M b T p i j (io v)) 19 j = if lfN M j - v = 0 then 2 else 1 := by
    rw [us_19j hij, s2, h2.2.1]
    by_cases g : lfN M j - v = 0
    · rw [if_pos g, if_pos ((z1 _ (by omega)).mpr g)]
    · rw [if_neg g, if_neg (fun z => g ((z1 _ (by omega)).mp z))]
  have l1 : lfN (usM M b T p i j (io v)) i = lfN M i - v := by unfold lfN at q1 i2 ⊢; rw [q1]; exact nn_io (by omega)
  have l2 : lfN (usM M b T p i j (io v)) j = lfN M j - v := by unfold lfN at q2 j2 ⊢; rw [q2]; exact nn_io (by omega)
  have lo : ∀ k, ¬ k = i → ¬ k = j → lfN (usM M b T p i j (io v)) k = lfN M k := fun k g1 g2 => by unfold lfN; rw [us_o (by decide) g1 g2]
  have so : ∀ k, ¬ k = i → ¬ k = j → mA (usM M b T p i j (io v)) 19 k = mA M 19 k := fun k g1 g2 => us_o (by decide) g1 g2
  have s15 : ∀ k, ¬ k = i → ¬ k = j → mA (usM M b T p i j (io v)) 15 k = mA M 15 k := fun k g1 g2 => us_o (by decide) g1 g2
  have ac : ∀ s k, acc (usM M b T p i j (io v)) s p k = acc M s p k := fun s k => by unfold acc; rw [us_r (by decide) (by decide)]
  have ob : ∀ k, oB (usM M b T p i j (io v)) k = oB M k := fun k => by unfold oB; rw [us_r (by decide) (by decide)]
  have b3 : ∀ k, mB (usM M b T p i j (io v)) 3 k = mB M 3 k := fun k => us_B (by decide)
  have p18 : ∀ k, mA (usM M b T p i j (io v)) 18 k = mA M 18 k := fun k => us_r (by decide) (by decide)
  have g19 : mA (ofF (dbF M T b (oM M i) (oM M j) p (io v)) i (io v)) 19 j = 1 := by
    rw [of_o (fun g => hij g.symm) (by decide)]
    exact (Ux_db.1 19 (by decide) (by decide)).trans h2.2.1
  generalize usM M b T p i j (io v) = W at *
  have wb : waN W n b true p + v = waN M n b true p := by
    have e := sumN_up (f := waP W b true p) (g := waP M b true p) (n := n) h1.1 (fun k _ hk => by
      unfold waP
      rw [ac, ob, b3]
      by_cases g : k = j
      · rw [g, h2.2.2.2, if_neg (fun z => by cases z.1.2.2), if_neg (fun z => by cases z.1.2.2)]
      · rw [so k hk g, lo k hk g])
    have e3 : waP W b true p i = lfN M i - v := by
      unfold waP
      rw [ac, ob, b3, r1, l1, h1.2.2.1, h1.2.2.2, a1]
      by_cases g : lfN M i - v = 0
      · rw [if_pos g, if_neg (fun z => absurd z.1.1 (by decide)), g]
      · rw [if_neg g, if_pos ⟨⟨rfl, rfl, rfl⟩, rfl⟩]
    rw [e3, waP_i h1 a1] at e
    show sumN (waP W b true p) n + v = sumN (waP M b true p) n
    omega
  have ws : waN W n b false p + v = waN M n b false p := by
    have e := sumN_up (f := waP W b false p) (g := waP M b false p) (n := n) h2.1 (fun k _ hk => by
      unfold waP
      rw [ac, ob, b3]
      by_cases g : k = i
      · rw [g, h1.2.2.2, if_neg (fun z => by cases z.1.2.2), if_neg (fun z => by cases z.1.2.2)]
      · rw [so k g hk, lo k g hk])
    have e3 : waP W b false p j = lfN M j - v := by
      unfold waP
      rw [ac, ob, b3, r2, l2, h2.2.2.1, h2.2.2.2, a2]
      by_cases g : lfN M j - v = 0
      · rw [if_pos g, if_neg (fun z => absurd z.1.1 (by decide)), g]
      · rw [if_neg g, if_pos ⟨⟨rfl, rfl, rfl⟩, rfl⟩]
    rw [e3, waP_i h2 a2] at e
    show sumN (waP W b false p) n + v = sumN (waP M b false p) n
    omega
  have st : ∀ k, mA W 19 k = 1 → mA M 19 k = 1 := fun k g => by
    by_cases g1 : k = i
    · rw [g1]; exact h1.2.1
    · by_cases g2 : k = j
      · rw [g2]; exact h2.2.1
      · rw [← so k g1 g2]; exact g
  have dn : ∀ k, mA M 19 k = 2 → mA W 19 k = 2 := fun k g => by
    by_cases g1 : k = i
    · rw [g1, h1.2.1] at g; exact absurd g (by decide)
    · by_cases g2 : k = j
      · rw [g2, h2.2.1] at g; exact absurd g (by decide)
      · rw [so k g1 g2]; exact g
  have hz : lfN M i - v = 0 ∨ lfN M j - v = 0 := by omega
  have x0 : ∃ x, x < n ∧ mA M 19 x = 1 ∧ mA W 19 x = 2 := by
    rcases hz with g | g
    · exact ⟨i, h1.1, h1.2.1, by rw [r1, if_pos g]⟩
    · exact ⟨j, h2.1, h2.2.1, by rw [r2, if_pos g]⟩
  obtain ⟨x, x1, x2, x3⟩ := x0
  refine ⟨⟨⟨Sd_mono hS (fun k g => ⟨st k g, p18 k⟩), fun k hk => ?_⟩, by omega⟩, ?_, ?_, g19⟩
  · by_cases g1 : k = i
    · rw [g1, l1, r1, q1]
      refine ⟨rfl, by omega, fun g => ?_⟩
      by_cases g2 : lfN M i - v = 0
      · rw [if_pos g2] at g; exact absurd g (by decide)
      · omega
    · by_cases g2 : k = j
      · rw [g2, l2, r2, q2]
        refine ⟨rfl, by omega, fun g => ?_⟩
        by_cases g3 : lfN M j - v = 0
        · rw [if_pos g3] at g; exact absurd g (by decide)
        · omega
      · have h := hL k hk
        rw [lo k g1 g2, so k g1 g2, s15 k g1 g2]
        exact h
  · refine sumN_lt (x := x) (fun k hk => ?_) x1 ?_
    · by_cases g : mA W 19 k = 1
      · rw [if_pos g, if_pos (st k g)]; exact Nat.le_refl 1
      · rw [if_neg g]; omega
    · rw [x2, x3]; decide
  · have hlt : dnN M n < dnN W n := by
      refine sumN_lt (x := x) (fun k hk => ?_) x1 ?_
      · by_cases g : mA M 19 k = 2
        · rw [if_pos g, if_pos (dn k g)]; exact Nat.le_refl 1
        · rw [if_neg g]; omega
      · rw [x2, x3]; decide
    omega
end S99r
