/-! what a trade keeps: positions are those by all trades, cash adds up, marks stay near -/
section Syb
variable {M M' M0 N Y Z R : sM} {n T T' b c m o k x w e i j K : Nat} {p a v sz : Int32} {s z : Bool} {L l : List Nat} {c' m' : Nat}
def cx (M : sM) (k : Nat) : Int := (mA M 5 k).toInt
def vMk (M : sM) : Prop := ∀ c, c < 3 → 80 ≤ (mA M 1 c).toInt ∧ (mA M 1 c).toInt ≤ 124
def vPT (M : sM) : Prop := ∀ m c, m < 6 → c < 3 → rqL M 0 m c 0 (tN M) = mA M 6 (3 * m + c)
def vOU (M : sM) : Prop := ∀ m, m < 6 → mB M 2 m = true → mA M 4 m = 0 ∧ mA M 5 m = 0 ∧ ∀ c, c < 3 → mA M 6 (3 * m + c) = 0
def vTp (M : sM) (x : Nat) : Prop := mB M 2 (tB M x) = true ∨ mB M 2 (tS M x) = true ∨ ((∃ v, v ≤ 12 ∧ mA M 25 x = io v) ∧ 76 ≤ (mA M 24 x).toInt ∧ (mA M 24 x).toInt ≤ 132)
def vTZ (M : sM) : Prop := ∀ x, x < tN M → 0 < mA M 25 x ∧ vTp M x
def vCl (M : sM) : Prop := ∀ m, m < 6 → 0 ≤ (mA M 4 m).toInt ∧ (mA M 4 m).toInt ≤ 100000000
def vX (M : sM) (e : Nat) : Prop := vMk M ∧ vPT M ∧ Po M (24 * (tN M + e)) ∧ (ouN M = 0 → s6 (cx M) = 0) ∧ n6 (cx M) ≤ 3200 * (tN M + e) + 60000000 * ouN M ∧ vOU M ∧ vTZ M ∧ vCl M
/-! positions by all trades -/
theorem rq_same {n n' : Nat} : ∀ K, (∀ k, k < K → mA N 21 k = mA M 21 k ∧ mA N 22 k = mA M 22 k ∧ mA N 23 k = mA M 23 k ∧ mA N 25 k = mA M 25 k ∧ mB N 7 k = mB M 7 k) → rqL N n m c a K = rqL M n' m c a K
  | 0, _ => rfl
  | K + 1, h => by
    have i : rqL N n m c a K = rqL M n' m c a K := rq_same K (fun k hk => h k (by omega))
    obtain ⟨h1, h2, h3, h4, h5⟩ := h K (Nat.lt_succ_self K)
    show rqS N n m c K (rqL N n m c a K) = rqS M n' m c K (rqL M n' m c a K)
    rw [i]
    unfold rqS tB tS tK
    rw [h1, h2, h3, h4, h5]
theorem rq_n {n n' : Nat} : rqL M n m c a K = rqL M n' m c a K := rq_same K (fun _ _ => ⟨rfl, rfl, rfl, rfl, rfl⟩)
theorem mk_21 {w : Bool} (k : Nat) : mA (mkF M T c m o p a w) 21 k = if k = T then io c else mA M 21 k := by
  show (if 21 = 21 ∧ k = T then io c else mA M 21 k) = _
  by_cases h : k = T
  · rw [if_pos ⟨rfl, h⟩, if_pos h]
  · rw [if_neg (fun z => h z.2), if_neg h]
theorem mk_24 {w : Bool} (k : Nat) : mA (mkF M T c m o p a w) 24 k = if k = T then p else mA M 24 k := by
  show (if 24 = 24 ∧ k = T then p else mA M 24 k) = _
  by_cases h : k = T
  · rw [if_pos ⟨rfl, h⟩, if_pos h]
  · rw [if_neg (fun z => h z.2), if_neg h]
theorem mk_7 {w : Bool} (k : Nat) : mB (mkF M T c m o p a w) 7 k = if k = T then false else mB M 7 k := by
  show (if 7 = 7 ∧ k = T then false else mB M 7 k) = _
  by_cases h : k = T
  · rw [if_pos ⟨rfl, h⟩, if_pos h]
  · rw [if_neg (fun z => h z.2), if_neg h]
theorem mk_1 {w : Bool} (k : Nat) : mA (mkF M T c m o p a w) 1 k = if k = c then (bif w then p else mA M 1 c) else mA M 1 k := by
  show (if 1 = 1 ∧ k = c then (bif w then p else mA M 1 c) else mA M 1 k) = _
  by_cases h : k = c
  · rw [if_pos ⟨rfl, h⟩, if_pos h]
  · rw [if_neg (fun z => h z.2), if_neg h]
theorem mk_5 {w : Bool} (k : Nat) : mA (mkF M T c m o p a w) 5 k = if k = o then (if k = m then mA M 5 k - p * a else mA M 5 k) + p * a else if k = m then mA M 5 k - p * a else mA M 5 k := by
  show (if 5 = 5 ∧ k = o then ((if 5 = 5 ∧ o = m then mA M 5 m - p * a else mA M 5 o) + p * a) else if 5 = 5 ∧ k = m then mA M 5 m - p * a else mA M 5 k) = _
  by_cases h1 : k = o
  · subst h1
    rw [if_pos ⟨rfl, rfl⟩, if_pos rfl]
    by_cases h2 : k = m
    · subst h2
      rw [if_pos ⟨rfl, rfl⟩, if_pos rfl]
    · rw [if_neg (fun z => h2 z.2), if_neg h2]
  · rw [if_neg (fun z => h1 z.2), if_neg h1]
    by_cases h2 : k = m
    · subst h2
      rw [if_pos ⟨rfl, rfl⟩, if_pos rfl]
    · rw [if_neg (fun z => h2 z.2), if_neg h2]
theorem i32_a (x a : Int32) : x + (a - 0) = x + a := by rw [Int32.sub_zero]
theorem i32_b (x a : Int32) : x + (0 - a) = x - a := by rw [Int32.zero_sub, ← Int32.sub_eq_add_neg]
theorem i32_c (x a : Int32) : x + (a - a) = x + a - a := by rw [Int32.sub_self, Int32.add_zero, Int32.add_sub_cancel]
theorem i32_d (x : Int32) : x + (0 - 0) = x := by rw [Int32.sub_zero, Int32.add_zero]
theorem PT_mk {w : Bool} (h : vPT M) (hI : mI M 801 = io T) (hT : T + 1 < 4096) (hc : c < 3) (hm : m < 6) (ho : o < 6) : vPT (mkF M T c m o p a w) := fun m' c' hm' hc' => by
  have e1 : tN (mkF M T c m o p a w) = T + 1 := tN_T mk_T hT
  have e0 : tN M = T := tN_T hI (by omega)
  have h0 := h m' c' hm' hc'
  rw [e0] at h0
  rw [e1]
  show rqS (mkF M T c m o p a w) 0 m' c' T (rqL (mkF M T c m o p a w) 0 m' c' 0 T) = _
  rw [rq_same (N := mkF M T c m o p a w) (M := M) (n' := 0) T (fun k hk => ⟨by rw [mk_21, if_neg (by omega)], by rw [mk_22, if_neg (by omega)], by rw [mk_23, if_neg (by omega)], by rw [mk_25, if_neg (by omega)], by rw [mk_7, if_neg (by omega)]⟩), h0]
  have t1 : tK (mkF M T c m o p a w) T = c := by unfold tK; rw [mk_21, if_pos rfl]; exact nn_io (by omega)
  have t2 : tB (mkF M T c m o p a w) T = m := by unfold tB; rw [mk_22, if_pos rfl]; exact nn_io (by omega)
  have t3 : tS (mkF M T c m o p a w) T = o := by unfold tS; rw [mk_23, if_pos rfl]; exact nn_io (by omega)
  have t4 : mB (mkF M T c m o p a w) 7 T = false := by rw [mk_7, if_pos rfl]
  have t5 : mA (mkF M T c m o p a w) 25 T = a := by rw [mk_25, if_pos rfl]
  unfold rqS
  rw [t1, t2, t3, t4, t5, mk_6 (w := w) (T := T) (p := p) (3 * m' + c')]
  by_cases q1 : c = c'
  · subst q1
    rw [decide_eq_true rfl]
    have a1 : (3 * m' + c = 3 * o + c) ↔ o = m' := by omega
    have a2 : (3 * m' + c = 3 * m + c) ↔ m = m' := by omega
    by_cases q2 : o = m'
    · rw [if_pos (a1.mpr q2), decide_eq_true q2]
      by_cases q3 : m = m'
      · rw [if_pos (a2.mpr q3), decide_eq_true q3]; exact i32_c _ _
      · rw [if_neg (fun z => q3 (a2.mp z)), decide_eq_false q3]; exact i32_b _ _
    · rw [if_neg (fun z => q2 (a1.mp z)), decide_eq_false q2]
      by_cases q3 : m = m'
      · rw [if_pos (a2.mpr q3), decide_eq_true q3]; exact i32_a _ _
      · rw [if_neg (fun z => q3 (a2.mp z)), decide_eq_false q3]; exact i32_d _
  · rw [decide_eq_false q1, if_neg (by omega), if_neg (by omega)]
    cases decide (m = m') <;> cases decide (o = m') <;> exact i32_d _
theorem PT_cg (h : vPT M) (h6 : mA N 6 = mA M 6) (h21 : mA N 21 = mA M 21) (h22 : mA N 22 = mA M 22) (h23 : mA N 23 = mA M 23) (h25 : mA N 25 = mA M 25) (h7 : mB N 7 = mB M 7) (hI : mI N 801 = mI M 801) : vPT N := fun m c hm hc => by
  have e : tN N = tN M := by unfold tN; rw [hI]
  rw [e, h6, ← h m c hm hc]
  exact rq_same _ (fun k _ => ⟨by rw [h21], by rw [h22], by rw [h23], by rw [h25], by rw [h7]⟩)
/-! cash -/
theorem mv5_y {W : Int} {N : sM} (hv : ∀ k, mA N 5 k = if k = o then (if k = m then mA M 5 k - a else mA M 5 k) + a else if k = m then mA M 5 k - a else mA M 5 k) (ha : a.toInt = W) (hW : -10000000 ≤ W ∧ W ≤ 10000000) (hb : (cx M k).natAbs ≤ 1000000000) : cx N k = cx M k + (if k = o then W else 0) - (if k = m then W else 0) := by
  unfold cx at hb ⊢
  rw [hv k]
  by_cases h1 : k = o
  · rw [if_pos h1, if_pos h1]
    by_cases h2 : k = m
    · rw [if_pos h2, if_pos h2, i_add (by rw [i_sub (by omega) (by omega)]; omega) (by rw [i_sub (by omega) (by omega)]; omega), i_sub (by omega) (by omega)]
      omega
    · rw [if_neg h2, if_neg h2, i_add (by omega) (by omega)]
      omega
  · rw [if_neg h1, if_neg h1]
    by_cases h2 : k = m
    · rw [if_pos h2, if_pos h2, i_sub (by omega) (by omega)]
      omega
    · rw [if_neg h2, if_neg h2]
      omega
theorem cx_mv {W : Int} {N : sM} (hv : ∀ k, mA N 5 k = if k = o then (if k = m then mA M 5 k - a else mA M 5 k) + a else if k = m then mA M 5 k - a else mA M 5 k) (ha : a.toInt = W) (hW : -10000000 ≤ W ∧ W ≤ 10000000) (hb : n6 (cx M) ≤ 1000000000) (hm : m < 6) (ho : o < 6) : s6 (cx N) = s6 (cx M) ∧ n6 (cx N) ≤ n6 (cx M) + W.natAbs + W.natAbs :=
  s6_mv ho hm (fun k hk => mv5_y hv ha hW (Nat.le_trans (n6_get hk) hb))
theorem pa_int {K : Nat} {lo hi : Int} (h1 : lo ≤ p.toInt) (h2 : p.toInt ≤ hi) (hl : -200 ≤ lo) (hh : hi ≤ 200) (hK : K ≤ 1000000) (ha : a = io K) : (p * a).toInt = p.toInt * (K : Int) ∧ -200000000 ≤ p.toInt * (K : Int) ∧ p.toInt * (K : Int) ≤ 200000000 := by
  have e : a.toInt = (K : Int) := by rw [ha]; exact io_int (by omega)
  have b1 : p.toInt * (K : Int) ≤ 200 * (K : Int) := Int.mul_le_mul_of_nonneg_right (by omega) (by omega)
  have b2 : -200 * (K : Int) ≤ p.toInt * (K : Int) := Int.mul_le_mul_of_nonneg_right (by omega) (by omega)
  refine ⟨?_, by omega, by omega⟩
  rw [Int32.toInt_mul, e]
  exact Int.bmod_eq_of_le (by omega) (by omega)
theorem Po_mvW {W : Int} (h : Po M K) (hK : K ≤ 1000000) (hv : Mv6 M N c m o a) (hc : c < 3) (hm : m < 6) (ho : o < 6) (ha : a.toInt = W) (hW : -1000000 ≤ W ∧ W ≤ 1000000) : Po N (K + W.natAbs + W.natAbs) := fun c' hc' => by
  by_cases e : c' = c
  · rw [e]
    obtain ⟨h1, h2⟩ := s6_mv (f := px M c) (g := px N c) hm ho (fun k hk => mv_y hv ha hW (Po_b h hK hc hk))
    have h3 := h c hc
    exact ⟨by rw [h1]; exact h3.1, by omega⟩
  · have h3 := h c' hc'
    rw [s6_cg (fun k _ => mv_o hv hc hc' e), n6_cg (fun k _ => mv_o hv hc hc' e)]
    exact ⟨h3.1, Nat.le_trans h3.2 (by omega)⟩
theorem OU_mk {w : Bool} (h : vOU M) (hm : mB M 2 m = false) (ho : mB M 2 o = false) (hc : c < 3) (hm6 : m < 6) (ho6 : o < 6) : vOU (mkF M T c m o p a w) := fun m' hm' hb => by
  have eB : mB (mkF M T c m o p a w) 2 = mB M 2 := mk_B rfl
  rw [eB] at hb
  obtain ⟨g1, g2, g3⟩ := h m' hm' hb
  have n1 : ¬ m' = m := fun z => by rw [z, hm] at hb; cases hb
  have n2 : ¬ m' = o := fun z => by rw [z, ho] at hb; cases hb
  refine ⟨by rw [mk_A rfl]; exact g1, by rw [mk_5, if_neg n2, if_neg n1]; exact g2, fun c' hc' => ?_⟩
  rw [mk_6 (w := w) (T := T) (p := p) (3 * m' + c'), if_neg (by omega), if_neg (by omega)]
  exact g3 c' hc'
theorem ou_mk {w : Bool} : ouN (mkF M T c m o p a w) = ouN M := by
  unfold ouN
  rw [mk_B rfl]
theorem vX_mk {w : Bool} (h : vX M e) (he : e ≤ 100) (hI : mI M 801 = io T) (hT : T + 1 < 4096) (hc : c < 3) (hm : m < 6) (ho : o < 6) (hK1 : 1 ≤ K) (hK : K ≤ 12) (hp : 76 ≤ p.toInt ∧ p.toInt ≤ 132) (hw : w = true → 80 ≤ p.toInt ∧ p.toInt ≤ 124) (om : mB M 2 m = false) (oo : mB M 2 o = false) : vX (mkF M T c m o p (io K) w) e := by
  obtain ⟨h1, h2, h3, h4, h5, h6, h7, h8⟩ := h
  have e1 : tN (mkF M T c m o p (io K) w) = T + 1 := tN_T mk_T hT
  have e0 : tN M = T := tN_T hI (by omega)
  have hu := ouN_le (M := M)
  rw [e0] at h3 h5
  have hz : (io K).toInt = (K : Int) := io_int (by omega)
  obtain ⟨q1, q2, q3⟩ := pa_int (K := K) (a := io K) hp.1 hp.2 (by decide) (by decide) (by omega) rfl
  have b1 : p.toInt * (K : Int) ≤ 132 * 12 := by
    have z1 : p.toInt * (K : Int) ≤ 132 * (K : Int) := Int.mul_le_mul_of_nonneg_right (by omega) (by omega)
    omega
  have b2 : 0 ≤ p.toInt * (K : Int) := Int.mul_nonneg (by omega) (by omega)
  obtain ⟨c1, c2⟩ := cx_mv (M := M) (N := mkF M T c m o p (io K) w) (a := p * io K) mk_5 q1 (by omega) (by omega) hm ho
  refine ⟨fun c' hc' => ?_, PT_mk h2 hI hT hc hm ho, ?_, fun g => ?_, ?_, OU_mk h6 om oo hc hm ho, fun x hx => ?_, fun m' hm' => ?_⟩
  · rw [mk_1]
    by_cases g : c' = c
    · rw [if_pos g]
      cases w with
      | true => exact hw rfl
      | false => exact h1 c hc
    · rw [if_neg g]; exact h1 c' hc'
  · rw [e1]
    refine Po_le (Po_mvW h3 (by omega) (mk_6 (w := w) (T := T) (p := p)) hc hm ho hz (by omega)) (by omega)
  · rw [ou_mk] at g
    rw [c1]; exact h4 g
  · rw [e1, ou_mk]; omega
  · rw [e1] at hx
    have eB2 : mB (mkF M T c m o p (io K) w) 2 = mB M 2 := mk_B rfl
    unfold vTp tB tS
    rw [mk_25, mk_22, mk_23, mk_24, eB2]
    by_cases g : x = T
    · rw [if_pos g, if_pos g, if_pos g, if_pos g]; exact ⟨(io_pos (by omega)).mpr hK1, Or.inr (Or.inr ⟨⟨K, hK, rfl⟩, hp⟩)⟩
    · rw [if_neg g, if_neg g, if_neg g, if_neg g]; exact h7 x (by omega)
  · rw [mk_A rfl]; exact h8 m' hm'
/-! what is the same -/
theorem vX_cg (h : vX M e) (hA : ∀ q, (q = 1 ∨ q = 4 ∨ q = 5 ∨ q = 6 ∨ (21 ≤ q ∧ q ≤ 25)) → mA N q = mA M q) (hB : ∀ q, (q = 2 ∨ q = 7) → mB N q = mB M q) (hI : mI N 801 = mI M 801) : vX N e := by
  obtain ⟨h1, h2, h3, h4, h5, h6, h7, h8⟩ := h
  have e1 : tN N = tN M := by unfold tN; rw [hI]
  have e2 : ouN N = ouN M := by unfold ouN; rw [hB 2 (Or.inl rfl)]
  have e3 : cx N = cx M := funext fun k => by unfold cx; rw [hA 5 (by omega)]
  refine ⟨fun c hc => by rw [hA 1 (by omega)]; exact h1 c hc, PT_cg h2 (hA 6 (by omega)) (hA 21 (by omega)) (hA 22 (by omega)) (hA 23 (by omega)) (hA 25 (by omega)) (hB 7 (Or.inr rfl)) hI, ?_, ?_, ?_, fun m hm g => ?_, fun x hx => ?_, fun m hm => ?_⟩
  · rw [e1]; exact Po_6 h3 (hA 6 (by omega))
  · rw [e2, e3]; exact h4
  · rw [e1, e2, e3]; exact h5
  · rw [hB 2 (Or.inl rfl)] at g
    rw [hA 4 (by omega), hA 5 (by omega), hA 6 (by omega)]
    exact h6 m hm g
  · rw [e1] at hx
    have h9 := h7 x hx
    unfold vTp tB tS at *
    rw [hA 25 (by omega), hA 22 (by omega), hA 23 (by omega), hA 24 (by omega), hB 2 (Or.inl rfl)]; exact h9
  · rw [hA 4 (by omega)]; exact h8 m hm
/-! what a step leaves, what it keeps -/
def vB1 (q : Nat) : Bool := Nat.beq q 2 || Nat.beq q 15 || (Nat.ble 17 q && Nat.ble q 19) || Nat.beq q 26
def vP (N M : sM) : Prop := ∀ b, mA N 0 b = mA M 0 b ∨ mA N 0 b = 3
def Gx (N M : sM) : Prop := Un N M ∧ vP N M ∧ ∀ e, e ≤ 100 → vX M e → vX N e
theorem vP.refl (M : sM) : vP M M := fun _ => Or.inl rfl
theorem vP.trans (h1 : vP N Y) (h2 : vP Y M) : vP N M := fun b => by
  rcases h1 b with g | g
  · rcases h2 b with g2 | g2
    · exact Or.inl (g.trans g2)
    · exact Or.inr (g.trans g2)
  · exact Or.inr g
theorem vP_eq (h : mA N 0 = mA M 0) : vP N M := fun b => Or.inl (congrFun h b)
theorem Gx.refl (M : sM) : Gx M M := ⟨Un.refl M, vP.refl M, fun _ _ h => h⟩
theorem Gx.trans (h1 : Gx N Y) (h2 : Gx Y M) : Gx N M := ⟨h1.1.trans h2.1, h1.2.1.trans h2.2.1, fun e he h => h1.2.2 e he (h2.2.2 e he h)⟩
theorem vB1_A {q k : Nat} (h : vB1 q = true) {q' : Nat} (h' : vB1 q' = false) : mA (mAw N q k v) q' = mA N q' := funext fun k' => if_neg (fun z => by rw [z.1, h] at h'; cases h')
theorem vB1_lt {q : Nat} (h : vB1 q = true) : vA0 q = true := by
  have h2 : q < 27 := by
    unfold vB1 at h
    simp only [Bool.or_eq_true, Bool.and_eq_true] at h
    rcases h with ((e | e) | ⟨_, e⟩) | e
    · have := Nat.eq_of_beq_eq_true e; omega
    · have := Nat.eq_of_beq_eq_true e; omega
    · have := Nat.le_of_ble_eq_true e; omega
    · have := Nat.eq_of_beq_eq_true e; omega
  exact (by decide : ∀ q, q < 27 → vB1 q = true → vA0 q = true) q h2 h
theorem Gx_A {q k : Nat} (h : vB1 q = true) (g : Gx N M) : Gx (mAw N q k v) M := by
  refine Gx.trans (Y := N) ⟨Un_A (vB1_lt h), vP_eq (vB1_A h rfl), fun e he hp => ?_⟩ g
  refine vX_cg hp (fun q' hq' => ?_) (fun _ _ => rfl) rfl
  have h3 : vB1 q' = false := by
    rcases hq' with e | e | e | e | e
    · subst e; rfl
    · subst e; rfl
    · subst e; rfl
    · subst e; rfl
    · exact (by decide : ∀ q, q < 26 → 21 ≤ q → vB1 q = false) q' (by omega) e.1
  exact vB1_A h h3
theorem Gx_B6 {k : Nat} {w : Bool} (g : Gx N M) : Gx (mBw N 6 k w) M := by
  refine Gx.trans (Y := N) ⟨⟨fun _ _ => rfl, fun q h1 _ => funext fun k' => if_neg (fun z => h1 z.1), fun _ _ _ => rfl⟩, vP_eq rfl, fun e he hp => ?_⟩ g
  refine vX_cg hp (fun _ _ => rfl) (fun q hq => ?_) rfl
  exact funext fun k' => (show (if q = 6 ∧ k' = k then w else mB N q k') = mB N q k' from if_neg (fun z => by have := z.1; omega))
theorem Gx_I8 (g : Gx N M) : Gx (mIw N 800 v) M := by
  refine Gx.trans (Y := N) ⟨⟨fun _ _ => rfl, fun _ _ _ => rfl, fun F h1 _ => if_neg h1⟩, vP_eq rfl, fun e he hp => ?_⟩ g
  exact vX_cg hp (fun _ _ => rfl) (fun _ _ => rfl) (show (if 801 = 800 then v else mI N 801) = mI N 801 from if_neg (by decide))
theorem Gx_c {w : Bool} (h1 : Gx N M) (h2 : Gx Y M) : Gx (bif w then N else Y) M := by cases w; exact h2; exact h1
theorem Gx_halt {k : Nat} : Gx (mAw M 0 k 3) M := by
  refine ⟨Un_A rfl, fun b => ?_, fun e he hp => ?_⟩
  · by_cases g : b = k
    · exact Or.inr (if_pos ⟨rfl, g⟩)
    · exact Or.inl (if_neg (fun z => g z.2))
  · refine vX_cg hp (fun q hq => funext fun k' => if_neg (fun z => ?_)) (fun _ _ => rfl) rfl
    have := z.1
    omega
theorem mk_0 {w : Bool} : vP (mkF M T c m o p a w) M := vP_eq (mk_A rfl)
theorem Gx_mk {w : Bool} (g : Gx N M) (hI : mI N 801 = io T) (hT : T + 1 < 4096) (hc : c < 3) (hm : m < 6) (ho : o < 6) (hK1 : 1 ≤ K) (hK : K ≤ 12) (hp : 76 ≤ p.toInt ∧ p.toInt ≤ 132) (hw : w = true → 80 ≤ p.toInt ∧ p.toInt ≤ 124) (om : mB N 2 m = false) (oo : mB N 2 o = false) : Gx (mkF N T c m o p (io K) w) M :=
  Gx.trans ⟨Un_mk, mk_0, fun e he hx => vX_mk hx he hI hT hc hm ho hK1 hK hp hw om oo⟩ g
/-- prices of a book -/
def vPb (b : Nat) (p : Int32) : Prop := (b < 3 → 96 ≤ p.toInt ∧ p.toInt ≤ 108) ∧ (3 ≤ b → -4 ≤ p.toInt ∧ p.toInt ≤ 8)
theorem snd_ge {d : Nat} (h : snd b = some d) : 3 ≤ b := by
  unfold snd at h
  split at h
  · cases h
  · omega
theorem snd_l3 (h : snd b = none) : b < 3 := by
  unfold snd at h
  split at h
  · assumption
  · cases h
theorem Gx_db (g : Gx N M) (hI : mI N 801 = io T) (hT : T + 2 < 4096) (hb : b < 5) (hm : m < 6) (ho : o < 6) (hK1 : 1 ≤ K) (hK : K ≤ 12) (hp : vPb b p) (om : mB N 2 m = false) (oo : mB N 2 o = false) : Gx (dbF N T b m o p (io K)) M := by
  unfold dbF
  cases hs : snd b with
  | none =>
    have h3 := hp.1 (snd_l3 hs)
    exact Gx_mk g hI (by omega) (fst3 hb) hm ho hK1 hK (by omega) (fun _ => by omega) om oo
  | some d =>
    have h3 := hp.2 (snd_ge hs)
    have hd := snd3 hb hs
    have B1 : ∀ {q : Nat}, mB (mkF N T d o m (mA N 1 d) (io K) false) 2 q = mB N 2 q := fun {q} => congrFun (mk_B rfl) q
    refine Gx.trans (Y := N) ⟨Un_mk.trans Un_mk, (mk_0).trans mk_0, fun e he hx => ?_⟩ g
    have hM := hx.1 d hd
    have e1 : (mA N 1 d + p).toInt = (mA N 1 d).toInt + p.toInt := i_add (by omega) (by omega)
    exact vX_mk (vX_mk hx he hI (by omega) hd ho hm hK1 hK (by omega) (fun z => by cases z) oo om) he mk_T (by omega) (fst3 hb) hm ho hK1 hK (by rw [e1]; omega) (fun z => by cases z) (by rw [B1]; exact om) (by rw [B1]; exact oo)
theorem Gx_sh {w : Bool} (g : Gx N M) : Gx (shF N k w) M := Gx_c (Gx_A rfl (Gx_I8 (Gx_A rfl g))) (Gx_A rfl g)
theorem Gx_of (g : Gx N M) : Gx (ofF N k a) M := Gx_c (Gx_A rfl (Gx_A rfl (Gx_A rfl (Gx_A rfl g)))) (Gx_A rfl (Gx_A rfl g))
theorem Gx_fl (g : Gx N M) : Gx (flF N k a) M := Gx_c (Gx_c (Gx_sh (Gx_of (Gx_A rfl g))) (Gx_of (Gx_A rfl g))) (Gx_of (Gx_A rfl g))
theorem Gx_cn (g : Gx N M) : Gx (cnF N k) M := Gx_A rfl (Gx_A rfl g)
theorem Gx_rs (g : Gx N M) : Gx (rsF N k) M := Gx_sh (Gx_A rfl g)
theorem Gx_tk (g : Gx N M) : Gx (tkF N k a) M := Gx_A rfl (Gx_A rfl g)
theorem Gx_reL (g : Gx N M) : ∀ k, Gx (reL N n b p k) M
  | 0 => g
  | k + 1 => by
    have h := Gx_reL g k
    show Gx (reS (reL N n b p k) n b p k) M
    generalize reL N n b p k = Y at h
    exact Gx_B6 h
theorem Gx_re (g : Gx N M) : Gx (reF N n b p) M := Gx_reL g n
theorem Gx_poL (g : Gx N M) : ∀ k, Gx (poL N n k) M
  | 0 => g
  | k + 1 => by
    have h := Gx_poL g k
    show Gx (poS (poL N n k) n k) M
    generalize poL N n k = Y at h
    exact Gx_c (Gx_c (Gx_c (Gx_A rfl (Gx_A rfl h)) h) h) h
theorem Gx_po (g : Gx N M) : Gx (poF N n) M := Gx_poL g n
theorem Gx_nq (g : Gx N M) : Gx (nqF N) M := Gx_A rfl (Gx_A rfl (Gx_A rfl (Gx_A rfl (Gx_A rfl (Gx_A rfl g)))))
theorem Gx_fin (g : Gx N M) : Gx (finF N o) M := by
  unfold finF
  cases decide (mA N 15 o = 0)
  · exact g
  · exact Gx_A rfl (Gx_A rfl g)
theorem Gx_se (g : Gx N M) : Gx (seF N o) M := by
  unfold seF
  cases decide (0 < mA N 15 o)
  · exact g
  · cases mB N 5 o
    · exact Gx_rs g
    · exact Gx_cn g
theorem Gx_wqs (g : Gx N M) : ∀ k, Gx (wqs_L N n m b k) M
  | 0 => g
  | k + 1 => by
    have h := Gx_wqs g k
    show Gx (wqs_S (wqs_L N n m b k) n m b k) M
    generalize wqs_L N n m b k = Y at h
    exact Gx_c (Gx_c (Gx_c (Gx_c (Gx_cn h) h) h) h) h
theorem Gx_wa (g : Gx N M) : ∀ k, Gx (wa_L N n m k) M
  | 0 => g
  | k + 1 => by
    have h := Gx_wa g k
    show Gx (wa_S (wa_L N n m k) n m k) M
    generalize wa_L N n m k = Y at h
    exact Gx_c (Gx_c (Gx_cn h) h) h
theorem Gx_own : ∀ {l : List Nat} {N : sM}, Gx N M → Gx (ownF m l N) M
  | [], _, g => g
  | x :: l, N, g => by
    show Gx (ownF m l (bif decide (oM N x = m) then cnF N x else N)) M
    exact Gx_own (Gx_c (Gx_cn g) g)
theorem Gx_flS {sz : Int32} : ∀ {l : List Nat} {N : sM}, Gx N M → Gx (flS sz l N) M
  | [], _, g => g
  | x :: l, N, g => by
    show Gx (flS sz l (flF N x sz)) M
    exact Gx_flS (Gx_fl g)
theorem Gx_flL : ∀ (l V : List Nat) (N : sM), Gx N M → Gx (flL l V N) M
  | [], V, N, g => g
  | x :: l, [], N, g => g
  | x :: l, v :: V, N, g => by
    show Gx (flL l V (if 0 < v then flF N x (io v) else N)) M
    split
    · exact Gx_flL l V _ (Gx_fl g)
    · exact Gx_flL l V _ g
theorem Gx_rfL : ∀ {l : List Nat} {N : sM}, Gx N M → Gx (rfL M0 n l N) M
  | [], _, g => g
  | x :: l, N, g => by
    show Gx (rfL M0 n l (reF N n (oB M0 x) (mA M0 14 x))) M
    exact Gx_rfL (Gx_re g)
end Syb
