/-! what trades keep: positions, sizes -/
section S99zj
variable {t t' t0 : sT} {M M' M0 N Y Z : sM} {n T A B b c m o k x K w e i d R H C D : Nat} {p a h u p0 p1 : Int32} {s z : Bool} {L L' l : List Nat} {V : List Nat} {f f2 : Nat → Nat} {v : Int32}
/-- six of a kind -/
def s6 (f : Nat → Int) : Int := ((((f 0 + f 1) + f 2) + f 3) + f 4) + f 5
def n6 (f : Nat → Int) : Nat := (f 0).natAbs + (f 1).natAbs + (f 2).natAbs + (f 3).natAbs + (f 4).natAbs + (f 5).natAbs
def px (M : sM) (c k : Nat) : Int := (mA M 6 ((3 * k) + c)).toInt
theorem s6_cg {f g : Nat → Int} (h : ∀ k, k < 6 → f k = g k) : s6 f = s6 g := by
  unfold s6
  rw [h 0 (by decide), h 1 (by decide), h 2 (by decide), h 3 (by decide), h 4 (by decide), h 5 (by decide)]
theorem n6_cg {f g : Nat → Int} (h : ∀ k, k < 6 → f k = g k) : n6 f = n6 g := by
  unfold n6
  rw [h 0 (by decide), h 1 (by decide), h 2 (by decide), h 3 (by decide), h 4 (by decide), h 5 (by decide)]
theorem n6_get {f : Nat → Int} (hk : k < 6) : (f k).natAbs ≤ n6 f := by
  unfold n6
  match k, hk with
  | 0, _ => omega
  | 1, _ => omega
  | 2, _ => omega
  | 3, _ => omega
  | 4, _ => omega
  | 5, _ => omega
theorem Zs_px : Zs M ↔ ∀ c, c < 3 → s6 (px M c) = 0 := Iff.rfl
/-- what moves: a is added at m, taken at o -/
def Mv6 (M N : sM) (c m o : Nat) (a : Int32) : Prop := ∀ q, mA N 6 q = (if q = (3 * o) + c then (if q = (3 * m) + c then mA M 6 q + a else mA M 6 q) - a else if q = (3 * m) + c then mA M 6 q + a else mA M 6 q)
theorem i_add {x y : Int32} (h1 : -2147483648 ≤ x.toInt + y.toInt) (h2 : x.toInt + y.toInt < 2147483648) : (x + y).toInt = x.toInt + y.toInt := by
  rw [Int32.toInt_add, Int.bmod_eq_of_le (by omega) (by omega)]
theorem i_sub {x y : Int32} (h1 : -2147483648 ≤ x.toInt - y.toInt) (h2 : x.toInt - y.toInt < 2147483648) : (x - y).toInt = x.toInt - y.toInt := by
  rw [Int32.toInt_sub, Int.bmod_eq_of_le (by omega) (by omega)]
theorem mv_o {c' : Nat} (h : Mv6 M N c m o a) (hc : c < 3) (hc' : c' < 3) (hn : ¬ c' = c) : px N c' k = px M c' k := by
  unfold px
  rw [h ((3 * k) + c'), if_neg (by omega), if_neg (by omega)]
theorem mv_y {W : Int} (h : Mv6 M N c m o a) (ha : a.toInt = W) (hW : -1000000 ≤ W ∧ W ≤ 1000000) (hb : -1000000 ≤ px M c k ∧ px M c k ≤ 1000000) : px N c k = px M c k + (if k = m then W else 0) - (if k = o then W else 0) := by
  unfold px at hb ⊢
  rw [h ((3 * k) + c)]
  have e1 : ((3 * k) + c = (3 * o) + c) ↔ k = o := by omega
  have e2 : ((3 * k) + c = (3 * m) + c) ↔ k = m := by omega
  by_cases h1 : k = o
  · rw [if_pos (e1.mpr h1), if_pos h1]
    by_cases h2 : k = m
    · rw [if_pos (e2.mpr h2), if_pos h2, Int32.add_sub_cancel]
      omega
    · rw [if_neg (fun z => h2 (e2.mp z)), if_neg h2, i_sub (by omega) (by omega)]
      omega
  · rw [if_neg (fun z => h1 (e1.mp z)), if_neg h1]
    by_cases h2 : k = m
    · rw [if_pos (e2.mpr h2), if_pos h2, i_add (by omega) (by omega)]
      omega
    · rw [if_neg (fun z => h2 (e2.mp z)), if_neg h2]
      omega
theorem s6_if {W : Int} (hm : m < 6) : s6 (fun k => if k = m then W else 0) = W := by
  unfold s6
  match m, hm with
  | 0, _ => simp
  | 1, _ => simp
  | 2, _ => simp
  | 3, _ => simp
  | 4, _ => simp
  | 5, _ => simp
theorem n6_if {W : Int} (hm : m < 6) : n6 (fun k => if k = m then W else 0) = W.natAbs := by
  unfold n6
  match m, hm with
  | 0, _ => simp
  | 1, _ => simp
  | 2, _ => simp
  | 3, _ => simp
  | 4, _ => simp
  | 5, _ => simp
theorem s6_mv0 {W : Int} {U : Nat} {f g pp qq : Nat → Int} (h : ∀ k, k < 6 → g k = f k + pp k - qq k) (h1 : s6 pp = W) (h2 : s6 qq = W) (h3 : n6 pp = U) (h4 : n6 qq = U) : s6 g = s6 f ∧ n6 g ≤ n6 f + U + U := by
  unfold s6 at *
  unfold n6 at *
  have g0 := h 0 (by decide)
  have g1 := h 1 (by decide)
  have g2 := h 2 (by decide)
  have g3 := h 3 (by decide)
  have g4 := h 4 (by decide)
  have g5 := h 5 (by decide)
  clear h
  rw [g0, g1, g2, g3, g4, g5]
  clear g0 g1 g2 g3 g4 g5
  generalize pp 0 = m0 at *
  generalize pp 1 = m1 at *
  generalize pp 2 = m2 at *
  generalize pp 3 = m3 at *
  generalize pp 4 = m4 at *
  generalize pp 5 = m5 at *
  generalize qq 0 = o0 at *
  generalize qq 1 = o1 at *
  generalize qq 2 = o2 at *
  generalize qq 3 = o3 at *
  generalize qq 4 = o4 at *
  generalize qq 5 = o5 at *
  generalize f 0 = f0 at *
  generalize f 1 = f1 at *
  generalize f 2 = f2 at *
  generalize f 3 = f3 at *
  generalize f 4 = f4 at *
  generalize f 5 = f5 at *
  constructor
  · omega
  · have k1 : ∀ a b c : Int, (a + b - c).natAbs ≤ a.natAbs + b.natAbs + c.natAbs := fun a b c => by omega
    have j0 := k1 f0 m0 o0
    have j1 := k1 f1 m1 o1
    have j2 := k1 f2 m2 o2
    have j3 := k1 f3 m3 o3
    have j4 := k1 f4 m4 o4
    have j5 := k1 f5 m5 o5
    clear k1 h1 h2
    generalize (f0 + m0 - o0).natAbs = q0 at *
    generalize (f1 + m1 - o1).natAbs = q1 at *
    generalize (f2 + m2 - o2).natAbs = q2 at *
    generalize (f3 + m3 - o3).natAbs = q3 at *
    generalize (f4 + m4 - o4).natAbs = q4 at *
    generalize (f5 + m5 - o5).natAbs = q5 at *
    generalize f0.natAbs = r0 at *
    generalize f1.natAbs = r1 at *
    generalize f2.natAbs = r2 at *
    generalize f3.natAbs = r3 at *
    generalize f4.natAbs = r4 at *
    generalize f5.natAbs = r5 at *
    generalize m0.natAbs = u0 at *
    generalize m1.natAbs = u1 at *
    generalize m2.natAbs = u2 at *
    generalize m3.natAbs = u3 at *
    generalize m4.natAbs = u4 at *
    generalize m5.natAbs = u5 at *
    generalize o0.natAbs = w0 at *
    generalize o1.natAbs = w1 at *
    generalize o2.natAbs = w2 at *
    generalize o3.natAbs = w3 at *
    generalize o4.natAbs = w4 at *
    generalize o5.natAbs = w5 at *
    omega
theorem s6_mv {W : Int} {f g : Nat → Int} (hm : m < 6) (ho : o < 6) (h : ∀ k, k < 6 → g k = f k + (if k = m then W else 0) - (if k = o then W else 0)) : s6 g = s6 f ∧ n6 g ≤ n6 f + W.natAbs + W.natAbs :=
  s6_mv0 (pp := fun k => if k = m then W else 0) (qq := fun k => if k = o then W else 0) h (s6_if hm) (s6_if ho) (n6_if hm) (n6_if ho)
/-- positions: their sums are 0; within K -/
def Po (M : sM) (K : Nat) : Prop := ∀ c, c < 3 → s6 (px M c) = 0 ∧ n6 (px M c) ≤ K
theorem Po_b (h : Po M K) (hK : K ≤ 1000000) (hc : c < 3) (hk : k < 6) : -1000000 ≤ px M c k ∧ px M c k ≤ 1000000 := by
  have h1 := (h c hc).2
  have h2 := n6_get (f := px M c) hk
  omega
theorem Po_mv {W : Int} (h : Po M K) (hK : K ≤ 1000000) (hv : Mv6 M N c m o a) (hc : c < 3) (hm : m < 6) (ho : o < 6) (ha : a.toInt = W) (hW : -100 ≤ W ∧ W ≤ 100) : Po N (K + 200) := fun c' hc' => by
  by_cases e : c' = c
  · rw [e]
    obtain ⟨h1, h2⟩ := s6_mv (f := px M c) (g := px N c) hm ho (fun k hk => mv_y hv ha (by omega) (Po_b h hK hc hk))
    have h3 := h c hc
    exact ⟨by rw [h1]; exact h3.1, by omega⟩
  · have h3 := h c' hc'
    rw [s6_cg (fun k _ => mv_o hv hc hc' e), n6_cg (fun k _ => mv_o hv hc hc' e)]
    exact ⟨h3.1, Nat.le_trans h3.2 (Nat.le_add_right K 200)⟩
theorem Po_le {K' : Nat} (h : Po M K) (hK : K ≤ K') : Po M K' := fun c hc => ⟨(h c hc).1, Nat.le_trans (h c hc).2 hK⟩
theorem Po_6 (h : Po M K) (e : mA N 6 = mA M 6) : Po N K := fun c hc => by
  have e2 : px N c = px M c := funext fun k => by unfold px; rw [e]
  rw [e2]
  exact h c hc
theorem Po_Zs (h : Po M K) : Zs M := fun c hc => (h c hc).1
theorem Po_Pv (h : Po M K) (hK : K ≤ 1000000) (h11 : ∀ q, q < 18 → -500 ≤ (mA M 11 q).toInt ∧ (mA M 11 q).toInt ≤ 500) : Pv M := ⟨fun q hq => by
  have h1 := Po_b h hK (c := q % 3) (Nat.mod_lt _ (by decide)) (k := q / 3) (by omega)
  unfold px at h1
  rw [show (3 * (q / 3)) + q % 3 = q by omega] at h1
  exact h1, h11⟩
theorem mk_6 {w : Bool} : Mv6 M (mkF M T c m o p a w) c m o a := fun q => by
  show (if 6 = 6 ∧ q = (3 * o) + c then ((if 6 = 6 ∧ (3 * o) + c = (3 * m) + c then mA M 6 ((3 * m) + c) + a else mA M 6 ((3 * o) + c)) - a) else if 6 = 6 ∧ q = (3 * m) + c then mA M 6 ((3 * m) + c) + a else mA M 6 q) = _
  by_cases h1 : q = (3 * o) + c
  · rw [if_pos ⟨rfl, h1⟩, if_pos h1]
    by_cases h2 : (3 * o) + c = (3 * m) + c
    · rw [if_pos ⟨rfl, h2⟩, if_pos (h1.trans h2), h1, h2]
    · rw [if_neg (fun z => h2 z.2), if_neg (fun z => h2 (h1.symm.trans z)), h1]
  · rw [if_neg (fun z => h1 z.2), if_neg h1]
    by_cases h2 : q = (3 * m) + c
    · rw [if_pos ⟨rfl, h2⟩, if_pos h2, h2]
    · rw [if_neg (fun z => h2 z.2), if_neg h2]
theorem mv_6 : Mv6 M (mvF M c m o p a) c m o a := fun q => by
  show (if 6 = 6 ∧ q = (3 * o) + c then ((if 6 = 6 ∧ (3 * o) + c = (3 * m) + c then mA M 6 ((3 * m) + c) + a else mA M 6 ((3 * o) + c)) - a) else if 6 = 6 ∧ q = (3 * m) + c then mA M 6 ((3 * m) + c) + a else mA M 6 q) = _
  by_cases h1 : q = (3 * o) + c
  · rw [if_pos ⟨rfl, h1⟩, if_pos h1]
    by_cases h2 : (3 * o) + c = (3 * m) + c
    · rw [if_pos ⟨rfl, h2⟩, if_pos (h1.trans h2), h1, h2]
    · rw [if_neg (fun z => h2 z.2), if_neg (fun z => h2 (h1.symm.trans z)), h1]
  · rw [if_neg (fun z => h1 z.2), if_neg h1]
    by_cases h2 : q = (3 * m) + c
    · rw [if_pos ⟨rfl, h2⟩, if_pos h2, h2]
    · rw [if_neg (fun z => h2 z.2), if_neg h2]
/-- a trade's size is small, or one of its members is out (or m) -/
def okT (M : sM) (r : Option Nat) (x : Nat) : Prop := (∃ v, v ≤ 100 ∧ mA M 25 x = io v) ∨ mB M 2 (tB M x) = true ∨ mB M 2 (tS M x) = true ∨ some (tB M x) = r ∨ some (tS M x) = r
def Tq (M : sM) (r : Option Nat) : Prop := ∀ x, x < tN M → okT M r x
theorem tN_T (h : mI M 801 = io T) (hT : T < 4096) : tN M = T := by unfold tN; rw [h]; exact nn_io (by omega)
theorem mk_22 {w : Bool} (k : Nat) : mA (mkF M T c m o p a w) 22 k = if k = T then io m else mA M 22 k := by
  show (if 22 = 22 ∧ k = T then io m else mA M 22 k) = _
  by_cases h : k = T
  · rw [if_pos ⟨rfl, h⟩, if_pos h]
  · rw [if_neg (fun z => h z.2), if_neg h]
theorem mk_23 {w : Bool} (k : Nat) : mA (mkF M T c m o p a w) 23 k = if k = T then io o else mA M 23 k := by
  show (if 23 = 23 ∧ k = T then io o else mA M 23 k) = _
  by_cases h : k = T
  · rw [if_pos ⟨rfl, h⟩, if_pos h]
  · rw [if_neg (fun z => h z.2), if_neg h]
theorem mk_25 {w : Bool} (k : Nat) : mA (mkF M T c m o p a w) 25 k = if k = T then a else mA M 25 k := by
  show (if 25 = 25 ∧ k = T then a else mA M 25 k) = _
  by_cases h : k = T
  · rw [if_pos ⟨rfl, h⟩, if_pos h]
  · rw [if_neg (fun z => h z.2), if_neg h]
theorem Tq_mk {r : Option Nat} {w : Bool} (h : Tq M r) (hI : mI M 801 = io T) (hT : T + 1 < 4096) (hm : m < 6) (ho : o < 6) (hs : (∃ v, v ≤ 100 ∧ a = io v) ∨ some m = r ∨ some o = r) : Tq (mkF M T c m o p a w) r := fun x hx => by
  rw [tN_T mk_T hT] at hx
  have h0 : tN M = T := tN_T hI (by omega)
  have eB : mB (mkF M T c m o p a w) 2 = mB M 2 := mk_B rfl
  unfold okT tB tS
  rw [eB, mk_22, mk_23, mk_25]
  by_cases e : x = T
  · rw [if_pos e, if_pos e, if_pos e, nn_io (by omega), nn_io (by omega)]
    rcases hs with g | g | g
    · exact Or.inl g
    · exact Or.inr (Or.inr (Or.inr (Or.inl g)))
    · exact Or.inr (Or.inr (Or.inr (Or.inr g)))
  · rw [if_neg e, if_neg e, if_neg e]
    exact h x (by omega)
theorem Tq_cg {r : Option Nat} (h : Tq M r) (h22 : mA N 22 = mA M 22) (h23 : mA N 23 = mA M 23) (h25 : mA N 25 = mA M 25) (h2 : ∀ k, mB M 2 k = true → mB N 2 k = true) (hI : mI N 801 = mI M 801) : Tq N r := fun x hx => by
  unfold tN at hx
  rw [hI] at hx
  have h1 := h x hx
  unfold okT tB tS at *
  rw [h22, h23, h25]
  rcases h1 with g | g | g | g | g
  · exact Or.inl g
  · exact Or.inr (Or.inl (h2 _ g))
  · exact Or.inr (Or.inr (Or.inl (h2 _ g)))
  · exact Or.inr (Or.inr (Or.inr (Or.inl g)))
  · exact Or.inr (Or.inr (Or.inr (Or.inr g)))
/-- the whole of it, e trades busted -/
def Pt (M : sM) (e : Nat) : Prop := Po M (200 * (tN M + e)) ∧ Tq M none
theorem Pt_cg (h : Pt M e) (h6 : mA N 6 = mA M 6) (h22 : mA N 22 = mA M 22) (h23 : mA N 23 = mA M 23) (h25 : mA N 25 = mA M 25) (h2 : mB N 2 = mB M 2) (hI : mI N 801 = mI M 801) : Pt N e := by
  refine ⟨?_, Tq_cg h.2 h22 h23 h25 (fun k g => by rw [h2]; exact g) hI⟩
  have e1 : tN N = tN M := by unfold tN; rw [hI]
  rw [e1]
  exact Po_6 h.1 h6
theorem Pt_mk {w : Bool} (h : Pt M e) (he : e ≤ 600) (hI : mI M 801 = io T) (hT : T + 1 < 4096) (hc : c < 3) (hm : m < 6) (ho : o < 6) (hK : K ≤ 100) (ha : a = io K) : Pt (mkF M T c m o p a w) e := by
  have h0 : tN M = T := tN_T hI (by omega)
  refine ⟨?_, Tq_mk h.2 hI hT hm ho (Or.inl ⟨K, hK, ha⟩)⟩
  have h1 := h.1
  rw [h0] at h1
  rw [tN_T mk_T hT]
  have hz : a.toInt = (K : Int) := by rw [ha]; exact io_int (by omega)
  have := Po_mv (W := (K : Int)) (a := a) (N := mkF M T c m o p a w) h1 (by omega) (mk_6 (w := w) (T := T) (p := p)) hc hm ho hz (by omega)
  exact Po_le this (by omega)
/-! what a step leaves alone -/
def vA1 (q : Nat) : Bool := Nat.ble q 2 || Nat.beq q 5 || Nat.beq q 15 || (Nat.ble 17 q && Nat.ble q 19) || Nat.beq q 24 || Nat.beq q 26
def vA0 (q : Nat) : Bool := vA1 q || Nat.beq q 6 || (Nat.ble 21 q && Nat.ble q 25)
def Un (N M : sM) : Prop := (∀ q, vA0 q = false → mA N q = mA M q) ∧ (∀ q, ¬ q = 6 → ¬ q = 7 → mB N q = mB M q) ∧ ∀ F, ¬ F = 800 → ¬ F = 801 → mI N F = mI M F
def Gk (N M : sM) : Prop := Un N M ∧ ∀ e, e ≤ 600 → Pt M e → Pt N e
theorem Un.refl (M : sM) : Un M M := ⟨fun _ _ => rfl, fun _ _ _ => rfl, fun _ _ _ => rfl⟩
theorem Un.trans (h1 : Un N Y) (h2 : Un Y M) : Un N M := ⟨fun q h => (h1.1 q h).trans (h2.1 q h), fun q g1 g2 => (h1.2.1 q g1 g2).trans (h2.2.1 q g1 g2), fun F g1 g2 => (h1.2.2 F g1 g2).trans (h2.2.2 F g1 g2)⟩
theorem Gk.refl (M : sM) : Gk M M := ⟨Un.refl M, fun _ _ h => h⟩
theorem Gk.trans (h1 : Gk N Y) (h2 : Gk Y M) : Gk N M := ⟨h1.1.trans h2.1, fun e he h => h1.2 e he (h2.2 e he h)⟩
theorem Un_A {q k : Nat} (h : vA0 q = true) : Un (mAw N q k v) N := ⟨fun q' hq => funext fun k' => if_neg (fun z => by rw [z.1, h] at hq; cases hq), fun _ _ _ => rfl, fun _ _ _ => rfl⟩
theorem Gk_A {q k : Nat} (h : vA1 q = true) (g : Gk N M) : Gk (mAw N q k v) M := by
  refine Gk.trans (Y := N) ⟨Un_A (by unfold vA0; rw [h]; rfl), fun e he hp => ?_⟩ g
  have ne : ∀ q', vA1 q' = false → mA (mAw N q k v) q' = mA N q' := fun q' h' => funext fun k' => if_neg (fun z => by rw [z.1, h] at h'; cases h')
  exact Pt_cg hp (ne 6 rfl) (ne 22 rfl) (ne 23 rfl) (ne 25 rfl) rfl rfl
theorem Gk_B6 {k : Nat} {w : Bool} (g : Gk N M) : Gk (mBw N 6 k w) M := by
  refine Gk.trans (Y := N) ⟨⟨fun _ _ => rfl, fun q h1 _ => funext fun k' => if_neg (fun z => h1 z.1), fun _ _ _ => rfl⟩, fun e he hp => ?_⟩ g
  exact Pt_cg hp rfl rfl rfl rfl (funext fun k' => (show (if 2 = 6 ∧ k' = k then w else mB N 2 k') = mB N 2 k' from if_neg (fun z => absurd z.1 (by decide)))) rfl
theorem Gk_I8 (g : Gk N M) : Gk (mIw N 800 v) M := by
  refine Gk.trans (Y := N) ⟨⟨fun _ _ => rfl, fun _ _ _ => rfl, fun F h1 _ => if_neg h1⟩, fun e he hp => ?_⟩ g
  exact Pt_cg hp rfl rfl rfl rfl rfl (show (if 801 = 800 then v else mI N 801) = mI N 801 from if_neg (by decide))
theorem Gk_c {w : Bool} (h1 : Gk N M) (h2 : Gk Y M) : Gk (bif w then N else Y) M := by cases w; exact h2; exact h1
theorem nb_f {q r : Nat} (h : ¬ q = r) : Nat.beq q r = false := by
  cases e : Nat.beq q r with
  | false => rfl
  | true => exact absurd (Nat.eq_of_beq_eq_true e) h
theorem g1_v {q : Nat} (h : vA0 q = false) : g1A q = false := by
  cases hg : g1A q with
  | false => rfl
  | true =>
    exfalso
    have h2 : q < 26 := by
      unfold g1A at hg
      simp only [Bool.or_eq_true, Bool.and_eq_true] at hg
      rcases hg with ((e | e) | e) | ⟨_, e⟩
      · have := Nat.eq_of_beq_eq_true e; omega
      · have := Nat.eq_of_beq_eq_true e; omega
      · have := Nat.eq_of_beq_eq_true e; omega
      · have := Nat.le_of_ble_eq_true e; omega
    rw [(by decide : ∀ q, q < 26 → g1A q = true → vA0 q = true) q h2 hg] at h
    cases h
theorem Un_mk {w : Bool} : Un (mkF M T c m o p a w) M := ⟨fun q h => mk_A (g1_v h), fun q _ h2 => mk_B (nb_f h2), fun F _ h2 => mk_I (nb_f h2)⟩
theorem Gk_mk {w : Bool} (g : Gk N M) (hI : mI N 801 = io T) (hT : T + 1 < 4096) (hc : c < 3) (hm : m < 6) (ho : o < 6) (hK : K ≤ 100) : Gk (mkF N T c m o p (io K) w) M :=
  Gk.trans ⟨Un_mk, fun e he hp => Pt_mk hp he hI hT hc hm ho hK rfl⟩ g
theorem Gk_db (g : Gk N M) (hI : mI N 801 = io T) (hT : T + 2 < 4096) (hb : b < 5) (hm : m < 6) (ho : o < 6) (hK : K ≤ 100) : Gk (dbF N T b m o p (io K)) M := by
  unfold dbF
  cases hs : snd b with
  | none => exact Gk_mk g hI (by omega) (fst3 hb) hm ho hK
  | some d => exact Gk_mk (Gk_mk g hI (by omega) (snd3 hb hs) ho hm hK) mk_T (by omega) (fst3 hb) hm ho hK
theorem Gk_sh {w : Bool} (g : Gk N M) : Gk (shF N k w) M := Gk_c (Gk_A rfl (Gk_I8 (Gk_A rfl g))) (Gk_A rfl g)
theorem Gk_of (g : Gk N M) : Gk (ofF N k a) M := Gk_c (Gk_A rfl (Gk_A rfl (Gk_A rfl (Gk_A rfl g)))) (Gk_A rfl (Gk_A rfl g))
theorem Gk_fl (g : Gk N M) : Gk (flF N k a) M := Gk_c (Gk_c (Gk_sh (Gk_of (Gk_A rfl g))) (Gk_of (Gk_A rfl g))) (Gk_of (Gk_A rfl g))
theorem Gk_cn (g : Gk N M) : Gk (cnF N k) M := Gk_A rfl (Gk_A rfl g)
theorem Gk_rs (g : Gk N M) : Gk (rsF N k) M := Gk_sh (Gk_A rfl g)
theorem Gk_tk (g : Gk N M) : Gk (tkF N k a) M := Gk_A rfl (Gk_A rfl g)
theorem Gk_reL (g : Gk N M) : ∀ k, Gk (reL N n b p k) M
  | 0 => g
  | k + 1 => by
    have h := Gk_reL g k
    show Gk (reS (reL N n b p k) n b p k) M
    generalize reL N n b p k = Y at h
    exact Gk_B6 h
theorem Gk_re (g : Gk N M) : Gk (reF N n b p) M := Gk_reL g n
theorem Gk_poL (g : Gk N M) : ∀ k, Gk (poL N n k) M
  | 0 => g
  | k + 1 => by
    have h := Gk_poL g k
    show Gk (poS (poL N n k) n k) M
    generalize poL N n k = Y at h
    exact Gk_c (Gk_c (Gk_c (Gk_A rfl (Gk_A rfl h)) h) h) h
theorem Gk_po (g : Gk N M) : Gk (poF N n) M := Gk_poL g n
theorem Gk_nq (g : Gk N M) : Gk (nqF N) M := Gk_A rfl (Gk_A rfl (Gk_A rfl (Gk_A rfl (Gk_A rfl (Gk_A rfl g)))))
theorem Gk_fin (g : Gk N M) : Gk (finF N o) M := by
  unfold finF
  cases decide (mA N 15 o = 0)
  · exact g
  · exact Gk_A rfl (Gk_A rfl g)
theorem Gk_se (g : Gk N M) : Gk (seF N o) M := by
  unfold seF
  cases decide (0 < mA N 15 o)
  · exact g
  · cases mB N 5 o
    · exact Gk_rs g
    · exact Gk_cn g
theorem Gk_wqs (g : Gk N M) : ∀ k, Gk (wqs_L N n m b k) M
  | 0 => g
  | k + 1 => by
    have h := Gk_wqs g k
    show Gk (wqs_S (wqs_L N n m b k) n m b k) M
    generalize wqs_L N n m b k = Y at h
    exact Gk_c (Gk_c (Gk_c (Gk_c (Gk_cn h) h) h) h) h
theorem Gk_wa (g : Gk N M) : ∀ k, Gk (wa_L N n m k) M
  | 0 => g
  | k + 1 => by
    have h := Gk_wa g k
    show Gk (wa_S (wa_L N n m k) n m k) M
    generalize wa_L N n m k = Y at h
    exact Gk_c (Gk_c (Gk_cn h) h) h
theorem Gk_own : ∀ {l : List Nat} {N : sM}, Gk N M → Gk (ownF m l N) M
  | [], _, g => g
  | x :: l, N, g => by
    show Gk (ownF m l (bif decide (oM N x = m) then cnF N x else N)) M
    exact Gk_own (Gk_c (Gk_cn g) g)
theorem Gk_flS {sz : Int32} : ∀ {l : List Nat} {N : sM}, Gk N M → Gk (flS sz l N) M
  | [], _, g => g
  | x :: l, N, g => by
    show Gk (flS sz l (flF N x sz)) M
    exact Gk_flS (Gk_fl g)
theorem Gk_flL : ∀ (l V : List Nat) (N : sM), Gk N M → Gk (flL l V N) M
  | [], V, N, g => g
  | x :: l, [], N, g => g
  | x :: l, v :: V, N, g => by
    show Gk (flL l V (if 0 < v then flF N x (io v) else N)) M
    split
    · exact Gk_flL l V _ (Gk_fl g)
    · exact Gk_flL l V _ g
theorem Gk_rfL : ∀ {l : List Nat} {N : sM}, Gk N M → Gk (rfL M0 n l N) M
  | [], _, g => g
  | x :: l, N, g => by
    show Gk (rfL M0 n l (reF N n (oB M0 x) (mA M0 14 x))) M
    exact Gk_rfL (Gk_re g)
theorem dbT_lx : T ≤ dbT b T ∧ dbT b T ≤ T + 2 := by
  unfold dbT
  cases snd b with
  | none =>
    show T ≤ T + 1 ∧ T + 1 ≤ T + 2
    omega
  | some d =>
    show T ≤ T + 2 ∧ T + 2 ≤ T + 2
    omega
theorem Gk_mkL (hR : Ri M0 n) (ho : o < n) : ∀ (l V : List Nat) (N : sM) (T : Nat), (∀ x, x ∈ l → x < n) → (∀ v, v ∈ V → v ≤ 100) → mI N 801 = io T → T + 2 * l.length + 2 < 4096 → Gk N M → Gk (mkL M0 o p l V N T) M
  | [], V, N, T, _, _, _, _, g => g
  | x :: l, [], N, T, _, _, _, _, g => g
  | x :: l, v :: V, N, T, hx, hV, hI, hT, g => by
    have hl : (x :: l).length = l.length + 1 := rfl
    rw [hl] at hT
    have h1 := gm6 hR (hx x List.mem_cons_self)
    have h2 := gm6 hR ho
    have hB : dbM M0 o x < 6 := by unfold dbM; cases mB M0 3 o; exact h1; exact h2
    have hS : dbS M0 o x < 6 := by unfold dbS; cases mB M0 3 o; exact h2; exact h1
    have hd := dbT_lx (b := oB M0 o) (T := T)
    show Gk (if 0 < v then mkL M0 o p l V (dbF N T (oB M0 o) (dbM M0 o x) (dbS M0 o x) p (io v)) (dbT (oB M0 o) T) else mkL M0 o p l V N T) M
    split
    · exact Gk_mkL hR ho l V _ _ (fun y hy => hx y (List.mem_cons_of_mem x hy)) (fun y hy => hV y (List.mem_cons_of_mem v hy)) dbF_T (by omega) (Gk_db g hI (by omega) (gb5 hR ho) hB hS (hV v List.mem_cons_self))
    · exact Gk_mkL hR ho l V _ _ (fun y hy => hx y (List.mem_cons_of_mem x hy)) (fun y hy => hV y (List.mem_cons_of_mem v hy)) hI (by omega) g
theorem Gk_mlG {W : TV} (hR : Ri M0 n) (hK : K ≤ 100) : ∀ (l : List Nat) (k m : Nat) (N : sM) (T : Nat), (∀ x, x ∈ l → x < n ∧ ∀ d, W.2.2.1 x = some d → d < 3) → m < 6 → mI N 801 = io T → T + l.length + 1 < 4096 → Gk N M → Gk (mlG M0 o (io K) z W k m l N T) M
  | [], _, _, _, _, _, _, _, _, g => g
  | x :: l, k, m, N, T, hx, hm, hI, hT, g => by
    have hl : (x :: l).length = l.length + 1 := rfl
    rw [hl] at hT
    obtain ⟨h1, h2⟩ := hx x List.mem_cons_self
    have h3 := gm6 hR h1
    have hm2 : (bif z then m else oM M0 x) < 6 := by cases z; exact h3; exact hm
    show Gk (mlG M0 o (io K) z W (k + 1) (bif z then m else oM M0 x) l (tlM M0 o (io K) z W k m x N T) (tlT W x T)) M
    have key : mI (tlM M0 o (io K) z W k m x N T) 801 = io (tlT W x T) ∧ tlT W x T ≤ T + 1 ∧ Gk (tlM M0 o (io K) z W k m x N T) M := by
      unfold tlM tlT
      cases hd : W.2.2.1 x with
      | none => exact ⟨hI, Nat.le_succ T, g⟩
      | some d =>
        refine ⟨mk_T, Nat.le_refl _, Gk_mk g hI (by omega) (h2 d hd) ?_ ?_ hK⟩
        · cases tlB M0 o z k; exact h3; exact hm
        · cases tlB M0 o z k; exact hm; exact h3
    obtain ⟨k1, k2, k3⟩ := key
    exact Gk_mlG hR hK l (k + 1) _ _ _ (fun y hy => hx y (List.mem_cons_of_mem x hy)) hm2 k1 (by omega) k3
theorem Gk_halt {k : Nat} : Gk (mAw M 0 k v) M := Gk_A rfl (Gk.refl M)
theorem leL_100 : ∀ {V S : List Nat}, leL V S → (∀ s, s ∈ S → s ≤ 100) → ∀ v, v ∈ V → v ≤ 100
  | [], [], _, _, v, hv => by cases hv
  | x :: V, y :: S, h, hS, v, hv => by
    rcases List.mem_cons.mp hv with e | e
    · rw [e]; exact Nat.le_trans h.1 (hS y List.mem_cons_self)
    · exact leL_100 (V := V) (S := S) h.2 (fun s hs => hS s (List.mem_cons_of_mem y hs)) v e
  | [], _ :: _, h, _, _, _ => by cases h
  | _ :: _, [], h, _, _, _ => by cases h
/-- a step -/
theorem cs_G (hJ : Jv M n) (hR : Ri M n) (ho : o < n) (hl1 : 1 ≤ lfN M o) (hT : mI M 801 = io T) (hT4 : T < 1500) : Gk (csM M n o) M := by
  have hn := hR.2.1
  have hTn : tN M = T := tN_T hT (by omega)
  unfold csM
  cases hw : bwF M n (oB M o) (mB M 3 o) with
  | none => exact Gk.refl M
  | some w =>
    obtain ⟨hw3, hx, hnd, hne, hfar, hlen⟩ := leg_Gd hJ hR ho hw
    show Gk (stpM M n o (wprF M n (oB M o) (mB M 3 o) w) (legL M n o w) (LgF M (oB M o) w (wprF M n (oB M o) (mB M 3 o) w) (legL M n o w)) (trF M n o w (wprF M n (oB M o) (mB M 3 o) w) (legL M n o w))) M
    generalize wprF M n (oB M o) (mB M 3 o) w = p at *
    generalize legL M n o w = L at *
    have h200 := nd_len n L hnd (fun y hy => (hx y hy).1)
    have hS := Iv_Sh hJ.1 hx
    cases hbad : badP M o p with
    | true => rw [(stp_bad hbad).1]; exact Gk.refl M
    | false =>
      cases hown : ownB M (oM M o) L with
      | true => rw [(stp_own hbad hown).1]; exact Gk_own (Gk.refl M)
      | false =>
        cases hob : obF M n (LgF M (oB M o) w p L) (LgF M (oB M o) w p L).length with
        | some c => rw [(stp_h (tr := trF M n o w p L) hbad hown hob).1]; exact Gk_halt
        | none =>
          rw [(stp_tr (tr := trF M n o w p L) hbad hown hob).1]
          unfold trF
          rw [hTn]
          by_cases hw0 : w = 0
          · rw [if_pos hw0]
            unfold cshF
            refine Gk_re (Gk_tk (Gk_flL _ _ _ (Gk_mkL hR ho L _ M T (fun x h => (hx x h).1) (fun v hv => ?_) hT (by omega) (Gk.refl M))))
            refine leL_100 (portN_le (a := lfN M o) (Sh_1 hS)) (fun s hs => ?_) v hv
            obtain ⟨x, hx2, ex⟩ := List.mem_map.mp hs
            rw [← ex]; exact (hS x hx2).2.2
          · rw [if_neg hw0]
            obtain ⟨hlf, hlf1⟩ := Iv_lf hJ.1 ho
            obtain ⟨z1, z2, z3⟩ := szN_b hS hl1
            have hz : decide (io w = 0) = false := decide_eq_false (fun z => hw0 ((io_inj (q := 0) (by omega) (by decide)).mp z))
            have hd := (hfar dV).2
            rw [hz] at hd
            unfold wayF
            rw [hlf, szF_io hS hlf1]
            refine Gk_rfL (Gk_re (Gk_tk (Gk_flS (Gk_mlG hR (by omega) L 0 (oM M o) M T (fun x h => ⟨(hx x h).1, fun d e => hd x d e h⟩) (gm6 hR ho) hT (by omega) (Gk.refl M)))))
end S99zj
