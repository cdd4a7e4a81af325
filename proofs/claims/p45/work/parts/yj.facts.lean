/-! what holds at each time of the law is what the law asks -/
section Syj
variable {t : sT} {M M' M0 N Y Z R : sM} {n T A B b c m o k x e f sz i j L q : Nat} {p a u v w h c0 c1 c2 : Int32} {s z : Bool} {pA xs : Nat → Int32} {r : Option Nat}
/-! notes of orders -/
theorem nt_io (hp : -100 ≤ p.toInt ∧ p.toInt ≤ 200) (hs : sz ≤ 12) : ∃ q, q < 1000 ∧ p + 600 = io q ∧ (q : Int) = p.toInt + 600 ∧ ∃ z, z ≤ 1 ∧ nt p (io sz) s = io (q + 2048 * sz + 1048576 * z) := by
  have e6 : (600 : Int32).toInt = 600 := rfl
  have e1 : (p + 600).toInt = p.toInt + 600 := by rw [i_add (by rw [e6]; omega) (by rw [e6]; omega), e6]
  have e2 : p + 600 = io (p.toInt + 600).toNat := by
    apply Int32.toInt_inj.mp
    rw [e1, io_int (by omega)]; omega
  refine ⟨(p.toInt + 600).toNat, by omega, e2, by omega, if s = true then 1 else 0, by split <;> omega, ?_⟩
  unfold nt
  rw [e2, show (2048 : Int32) = io 2048 from rfl, io_mul, io_add]
  cases s
  · rw [if_neg Bool.false_ne_true, if_neg Bool.false_ne_true, show (0 : Int32) = io 0 from rfl, io_add]
  · rw [if_pos rfl, if_pos rfl, show (1048576 : Int32) = io 1048576 from rfl, io_add]
theorem nt_2048 (hp : -100 ≤ p.toInt ∧ p.toInt ≤ 200) (hs : sz ≤ 12) : ∃ q, q < 1000 ∧ r2048 (nt p (io sz) s) = io q ∧ p + 600 = io q ∧ (q : Int) = p.toInt + 600 := by
  obtain ⟨q, h1, h2, h3, z, h4, h5⟩ := nt_io (s := s) hp hs
  refine ⟨q, h1, ?_, h2, h3⟩
  unfold r2048
  rw [h5, show (2048 : Int32) = io 2048 from rfl, io_rem (by omega) (by decide)]
  congr 1
  omega
theorem nt_sz (hp : -100 ≤ p.toInt ∧ p.toInt ≤ 200) (hs : sz ≤ 12) : (nt p (io sz) s - nt p (io sz) s / 1048576 * 1048576) / 2048 = io sz := by
  obtain ⟨q, h1, h2, h3, z, h4, h5⟩ := nt_io (s := s) hp hs
  rw [h5, show (1048576 : Int32) = io 1048576 from rfl, io_rem (by omega) (by decide), show (2048 : Int32) = io 2048 from rfl, io_div (by omega) (by decide)]
  congr 1
  omega
theorem vPb_b (h : vPb b p) : -100 ≤ p.toInt ∧ p.toInt ≤ 200 := by
  by_cases g : b < 3
  · have := h.1 g; omega
  · have := h.2 (by omega); omega
/-- orders -/
theorem Vw_Ook (h : Vw M n e pA) (hL : La t M n T A B xs L pA c0 c1 c2) : ∀ k, k < n → k < 64 → Ook M pA k := fun k hk hk6 => by
  obtain ⟨g1, g2, g3, g4, g5, g6⟩ := h.2
  obtain ⟨s1, y1, y2, y3⟩ := g4 k hk hk6
  obtain ⟨d1, d2⟩ := g3 k hk
  have hI := h.1.1.1.1
  obtain ⟨f1, f2⟩ := Iv_lf hI hk
  have hn4 := h.1.2.2.1 k hk
  have hp := vPb_b (g2 k hk).1
  obtain ⟨⟨l, hW⟩, -⟩ := hL
  have hd : mA M 19 k = 2 ↔ lfN M k = 0 := by
    rcases d1 with d | d
    · exact absurd d hn4
    · exact d
  have h3 : (¬ mA M 19 k < 0) ∧ ¬ 3 < mA M 19 k := by
    rcases d2 with d | d | d | d | d
    · rw [d]; decide
    · rw [d]; decide
    · rw [d]; decide
    · rw [d]; decide
    · exact absurd d hn4
  by_cases h1 : mA M 19 k = 1
  · obtain ⟨i1, i2, i3, -⟩ := Iv_sh hI hk h1
    exact ⟨s1, lfN M k, shN M k, by rw [y3]; exact nt_sz hp y1, f1, i1, y2, by omega, i3, hd, ⟨fun _ => by omega, fun _ => h1⟩, h3.1, h3.2⟩
  · have i1 := kW0 hW.1 hk h1
    exact ⟨s1, lfN M k, 0, by rw [y3]; exact nt_sz hp y1, f1, i1, y2, by omega, Nat.zero_le _, hd, ⟨fun z => absurd z h1, fun z => absurd z (Nat.lt_irrefl 0)⟩, h3.1, h3.2⟩
/-- trades -/
theorem Vw_Tok (h : Vw M n e pA) (hL : La t M n T A B xs L pA c0 c1 c2) : Tok M T := fun k hk => by
  obtain ⟨h1, h2, h3⟩ := La_Ti hL
  obtain ⟨⟨a1, a2⟩, ⟨b1, b2⟩, d1, d2⟩ := h3 k hk
  have hT := La_T hL
  have g := (h.2.1.2.2.2.2.2.2.1 k (by omega)).1
  refine ⟨?_, ?_, ?_, g⟩
  · rw [a1]; exact ⟨io_n0 (by omega), io_lt' a2 (by decide)⟩
  · rw [b1]; exact ⟨io_n0 (by omega), io_lt' b2 (by decide)⟩
  · rw [d1]; exact ⟨io_n0 (by omega), io_lt' d2 (by decide)⟩
/-! the best orders -/
theorem bs_best (hJ : Jv M n) (h : bsF M n b s = some k) (hi : rst M n b s i) : if s = true then (mA M 14 i).toInt ≤ (mA M 14 k).toInt else (mA M 14 k).toInt ≤ (mA M 14 i).toInt := by
  obtain ⟨l, h1, h2⟩ := Cl_ex hJ b s
  have e := bsF_hd h1 h2
  rw [h] at e
  cases l with
  | nil => cases e
  | cons y l =>
    have e2 : k = y := Option.some.inj e
    rcases List.mem_cons.mp ((h2 i).mpr hi) with g | g
    · rw [g, e2]; split <;> exact Int.le_refl _
    · have hb := (List.pairwise_cons.mp h1).1 i g
      rw [btr_iff] at hb
      rw [e2]
      split at hb
      · split <;> omega
      · split
        · rename_i hs; rw [if_pos hs] at hb; omega
        · rename_i hs; rw [if_neg hs] at hb; omega
theorem sumN_ex {f : Nat → Nat} : ∀ K, 0 < sumN f K → ∃ k, k < K ∧ 0 < f k
  | 0, h => absurd h (Nat.lt_irrefl 0)
  | K + 1, h => by
    have h' : 0 < sumN f K + f K := h
    by_cases g : 0 < f K
    · exact ⟨K, Nat.lt_succ_self K, g⟩
    · have g' : f K = 0 := Nat.eq_zero_of_not_pos g
      rw [g', Nat.add_zero] at h'
      obtain ⟨k, h1, h2⟩ := sumN_ex K h'
      exact ⟨k, by omega, h2⟩
theorem wa_ex (h : 0 < waN M n b s p) : ∃ k, rst M n b s k ∧ acc M s p k = true := by
  obtain ⟨k, h1, h2⟩ := sumN_ex n h
  unfold waP at h2
  by_cases g : (mA M 19 k = 1 ∧ oB M k = b ∧ mB M 3 k = s) ∧ acc M s p k = true
  · exact ⟨k, ⟨h1, g.1⟩, g.2⟩
  · rw [if_neg g] at h2; exact absurd h2 (Nat.lt_irrefl 0)
theorem acc_t : acc M true p k = true ↔ p.toInt ≤ (mA M 14 k).toInt := by
  unfold acc
  rw [cond_true, Bool.not_eq_true', decide_eq_false_iff_not, Int32.lt_iff_toInt_lt]; omega
theorem acc_f : acc M false p k = true ↔ (mA M 14 k).toInt ≤ p.toInt := by
  unfold acc
  rw [cond_false, Bool.not_eq_true', decide_eq_false_iff_not, Int32.lt_iff_toInt_lt]; omega
theorem au_best (hJ : Jv M n) (hk : bsF M n b true = some k) (hj : bsF M n b false = some j) : auF M n b = -10000 ↔ (mA M 14 k).toInt < (mA M 14 j).toInt := by
  have h1 := (auL_i (b := b) hJ.1 n (Nat.le_refl n)).1
  have e : (auL M n b (-10000) 0 0 0 n).1 = auF M n b := rfl
  rw [e] at h1
  have rk := bsF_rst hk
  have rj := bsF_rst hj
  rcases h1 with ⟨g, _, _, g2⟩ | ⟨_, g, _, g2, _⟩
  · refine ⟨fun _ => ?_, fun _ => g⟩
    by_cases hh : (mA M 14 k).toInt < (mA M 14 j).toInt
    · exact hh
    · exfalso
      have h0 := g2 (mA M 14 j) ⟨j, rj.1, ⟨rj.2.1, rj.2.2.1⟩, rfl⟩
      have a1 : acc M true (mA M 14 j) k = true := acc_t.mpr (by omega)
      have a2 : acc M false (mA M 14 j) j = true := acc_f.mpr (Int.le_refl _)
      have b1 := wa_i rk a1
      have b2 := wa_i rj a2
      have c1 := (Iv_sh hJ.1 rk.1 rk.2.1)
      have c2 := (Iv_sh hJ.1 rj.1 rj.2.1)
      unfold szP at h0
      omega
  · refine ⟨fun z => absurd z g, fun z => ?_⟩
    exfalso
    unfold szP at g2
    obtain ⟨i1, r1, a1⟩ := wa_ex (M := M) (n := n) (b := b) (s := true) (p := auF M n b) (by omega)
    obtain ⟨i2, r2, a2⟩ := wa_ex (M := M) (n := n) (b := b) (s := false) (p := auF M n b) (by omega)
    have c1 := acc_t.mp a1
    have c2 := acc_f.mp a2
    have d1 := bs_best hJ hk r1
    have d2 := bs_best hJ hj r2
    rw [if_pos rfl] at d1
    rw [if_neg Bool.false_ne_true] at d2
    omega
theorem lg_0 (hb : b < 5) : lgO M n b s 0 = bif zok M n b (!s) then some [ovD (bsF M n b (!s))] else none := by
  have e : lgs b 0 = some [(b, false)] := by
    match b, hb with
    | 0, _ => rfl
    | 1, _ => rfl
    | 2, _ => rfl
    | 3, _ => rfl
    | 4, _ => rfl
  unfold lgO
  rw [e]
  cases s <;> rfl
theorem wok_0 (hb : b < 5) (h : wokF M n b s 0 = true) : mA M 0 b = 2 ∧ lgO M n b s 0 = some [ovD (bsF M n b (!s))] := by
  unfold wokF at h
  rw [lg_0 hb] at h ⊢
  cases g : zok M n b (!s) with
  | false => rw [g] at h; cases h
  | true =>
    unfold zok at g
    rw [Bool.and_eq_true, decide_eq_true_eq] at g
    exact ⟨g.1, rfl⟩
/-- books -/
theorem Vw_Wkb (h : Vw M n e pA) (hb : b < 5) : Wkb M n pA b := by
  have hJ := h.1.1.1
  have hpr : ∀ k, k < n → k < 64 → ∃ q, r2048 (pA k) = io q ∧ q < 1000 ∧ mA M 14 k + 600 = io q ∧ (q : Int) = (mA M 14 k).toInt + 600 := fun k hk hk6 => by
    obtain ⟨s1, y1, y2, y3⟩ := h.2.2.2.2.1 k hk hk6
    obtain ⟨q, q1, q2, q3, q4⟩ := nt_2048 (s := mB M 3 k) (vPb_b (h.2.2.1 k hk).1) y1
    exact ⟨q, by rw [y3]; exact q2, q1, q3, q4⟩
  refine ⟨fun s k hk => ?_, ?_, fun k j hk hj hk6 hj6 => ?_, fun j hj hj6 hw => ?_⟩
  · have r := bsF_rst hk
    obtain ⟨i1, i2, i3, -⟩ := Iv_sh hJ.1 r.1 r.2.1
    have i4 := (Iv_lf hJ.1 r.1).2
    exact ⟨r.1, r.2.1, by rw [i1]; exact (io_pos (by omega)).mpr i2⟩
  · by_cases g : mA M 0 b = 2
    · exact Or.inl g
    · exact Or.inr ⟨fun z => g (wok_0 hb (bwF_ok z).2).1, fun z => g (wok_0 hb (bwF_ok z).2).1⟩
  · have rk := bsF_rst hk
    have rj := bsF_rst hj
    obtain ⟨q1, a1, a2, -, a3⟩ := hpr k rk.1 hk6
    obtain ⟨q2, b1, b2, -, b3⟩ := hpr j rj.1 hj6
    rw [au_best hJ hk hj, a1, b1, io_lt (by omega) (by omega)]
    omega
  · have rj := bsF_rst hj
    obtain ⟨q2, b1, b2, b4, b3⟩ := hpr j rj.1 hj6
    have hl := (wok_0 hb (bwF_ok hw).2).2
    unfold wyP
    rw [hw]
    show wprF M n b true 0 = _
    unfold wprF
    rw [hl]
    have e2 : ovD (bsF M n b (!true)) = j := by
      rw [show (!true) = false from rfl, hj]; rfl
    rw [e2]
    show prF M b 0 [j] = _
    rw [prF_0y hb, b1, ← b4, Int32.add_sub_cancel]
/-! members -/
theorem mul_b {x v : Int32} (hx : -1400000 ≤ x.toInt ∧ x.toInt ≤ 1400000) (hv : -500 ≤ v.toInt ∧ v.toInt ≤ 500) : (x * v).toInt = x.toInt * v.toInt := by
  have h1 : (x.toInt * v.toInt).natAbs ≤ 1400000 * 500 := by
    rw [Int.natAbs_mul]
    exact Nat.mul_le_mul (by omega) (by omega)
  rw [Int32.toInt_mul, Int.bmod_eq_of_le (by omega) (by omega)]
theorem mx_i {x y : Int32} : x.toInt ≤ (mx x y).toInt ∧ y.toInt ≤ (mx x y).toInt := by
  unfold mx
  split
  · rename_i h; rw [Int32.lt_iff_toInt_lt] at h; omega
  · rename_i h; rw [Int32.lt_iff_toInt_lt] at h; omega
theorem cp_b {p v f g : Int32} (hp : -1000000 ≤ p.toInt ∧ p.toInt ≤ 1000000) (hv : -500 ≤ v.toInt ∧ v.toInt ≤ 500) (hf : 0 ≤ f.toInt ∧ f.toInt ≤ 40000) (hg : 0 ≤ g.toInt ∧ g.toInt ≤ 40000) :
    -(p.toInt * v.toInt) ≤ (mx ((-(p + f)) * v) ((-(p - g)) * v)).toInt ∧ (mx ((-(p + f)) * v) ((-(p - g)) * v)).toInt ≤ 700000000 ∧ (p * v).toInt = p.toInt * v.toInt ∧ -500000000 ≤ p.toInt * v.toInt ∧ p.toInt * v.toInt ≤ 500000000 := by
  have e1 : (p + f).toInt = p.toInt + f.toInt := i_add (by omega) (by omega)
  have e2 : (p - g).toInt = p.toInt - g.toInt := i_sub (by omega) (by omega)
  have e3 : (-(p + f)).toInt = -(p.toInt + f.toInt) := by rw [i_neg (by omega), e1]
  have e4 : (-(p - g)).toInt = -(p.toInt - g.toInt) := by rw [i_neg (by omega), e2]
  have b1 := Bd_mul (x := -(p + f)) (v := v) (by omega) hv
  have b2 := Bd_mul (x := -(p - g)) (v := v) (by omega) hv
  have m1 := mul_b (x := -(p + f)) (v := v) (by omega) hv
  have m2 := mul_b (x := -(p - g)) (v := v) (by omega) hv
  have m3 := mul_b (x := p) (v := v) (by omega) hv
  have hn : (p.toInt * v.toInt).natAbs ≤ 1000000 * 500 := by
    rw [Int.natAbs_mul]
    exact Nat.mul_le_mul (by omega) (by omega)
  obtain ⟨x1, x2⟩ := mx_i (x := (-(p + f)) * v) (y := (-(p - g)) * v)
  unfold Bd at b1 b2
  refine ⟨?_, ?_, m3, by omega, by omega⟩
  · rcases Int.le_total 0 v.toInt with hv0 | hv0
    · have k : -(p.toInt) * v.toInt ≤ -(p.toInt - g.toInt) * v.toInt := Int.mul_le_mul_of_nonneg_right (by omega) hv0
      rw [Int.neg_mul] at k
      rw [m2, e4] at x2
      omega
    · have k : -(p.toInt) * v.toInt ≤ -(p.toInt + f.toInt) * v.toInt := Int.mul_le_mul_of_nonpos_right (by omega) hv0
      rw [Int.neg_mul] at k
      rw [m1, e3] at x1
      omega
  · rcases mx_or (x := (-(p + f)) * v) (v := (-(p - g)) * v) with g | g
    · rw [g]; omega
    · rw [g]; omega
theorem row_b {p0 p1 p2 v0 v1 v2 X0 X1 X2 : Int32} (h0 : -(p0.toInt * v0.toInt) ≤ X0.toInt ∧ X0.toInt ≤ 700000000 ∧ (p0 * v0).toInt = p0.toInt * v0.toInt ∧ -500000000 ≤ p0.toInt * v0.toInt ∧ p0.toInt * v0.toInt ≤ 500000000) (h1 : -(p1.toInt * v1.toInt) ≤ X1.toInt ∧ X1.toInt ≤ 700000000 ∧ (p1 * v1).toInt = p1.toInt * v1.toInt ∧ -500000000 ≤ p1.toInt * v1.toInt ∧ p1.toInt * v1.toInt ≤ 500000000) (h2 : -(p2.toInt * v2.toInt) ≤ X2.toInt ∧ X2.toInt ≤ 700000000 ∧ (p2 * v2).toInt = p2.toInt * v2.toInt ∧ -500000000 ≤ p2.toInt * v2.toInt ∧ p2.toInt * v2.toInt ≤ 500000000)
    (hz : (X0 + X1) + X2 ≤ w) : -(((p0 * v0) + (p1 * v1)) + (p2 * v2)) ≤ w := by
  obtain ⟨a1, a2, a3, a4, a5⟩ := h0
  obtain ⟨b1, b2, b3, b4, b5⟩ := h1
  obtain ⟨d1, d2, d3, d4, d5⟩ := h2
  generalize p0.toInt * v0.toInt = y0 at *
  generalize p1.toInt * v1.toInt = y1 at *
  generalize p2.toInt * v2.toInt = y2 at *
  have e1 : ((p0 * v0) + (p1 * v1)).toInt = y0 + y1 := by rw [i_add (by omega) (by omega), a3, b3]
  have e2 : (((p0 * v0) + (p1 * v1)) + (p2 * v2)).toInt = y0 + y1 + y2 := by rw [i_add (by omega) (by omega), e1, d3]
  have e3 : (X0 + X1).toInt = X0.toInt + X1.toInt := i_add (by omega) (by omega)
  have e4 : ((X0 + X1) + X2).toInt = X0.toInt + X1.toInt + X2.toInt := by rw [i_add (by omega) (by omega), e3]
  rw [Int32.le_iff_toInt_le] at hz ⊢
  rw [i_neg (by omega), e2]
  omega
theorem le_rf {x : Int32} : x ≤ x := by rw [Int32.le_iff_toInt_le]; exact Int.le_refl _
theorem ma_nd (hm : m < 6) (hP : Pv M) (hI : Iv M n) (hR : Ri M n) : ¬ ndF M n m < maF M n m := by
  have hn : n ≤ 200 := hI.2.2.2.2.2
  have hO := opL_b (M := M) (m := m) (r := none) hI n (Nat.le_refl n)
  have hE := need_e hm hP hI hR
  generalize opL M m none n = f at *
  have hf : ∀ p, 0 ≤ (f p).toInt ∧ (f p).toInt ≤ 40000 := fun p => by have := hO p; omega
  have cp : ∀ i j l q, i < 3 → q < 18 → _ := fun i j l q hi hq => cp_b (f := f j) (g := f l) (hP.1 (3 * m + i) (by omega)) (hP.2 q hq) (hf j) (hf l)
  have hz : cndG M m f ≤ cndG M m f := le_rf
  rw [← hE]
  intro hh
  have key : maF M n m ≤ cndG M m f := by
    generalize hz9 : cndG M m f = w at *
    rw [← hz9] at hz
    have hz2 : cndG M m f ≤ w := by rw [hz9]; exact le_rf
    clear hz hz9 hh hE
    unfold cndG at hz2
    simp only [mx_le] at hz2
    obtain ⟨⟨⟨⟨⟨⟨g, r0⟩, r1⟩, r2⟩, r3⟩, r4⟩, r5⟩ := hz2
    unfold maF mgF
    simp only [mxc_le]
    exact ⟨⟨⟨⟨⟨⟨g, row_b (cp 0 0 3 0 (by decide) (by decide)) (cp 1 1 4 1 (by decide) (by decide)) (cp 2 2 5 2 (by decide) (by decide)) r0⟩, row_b (cp 0 0 3 3 (by decide) (by decide)) (cp 1 1 4 4 (by decide) (by decide)) (cp 2 2 5 5 (by decide) (by decide)) r1⟩, row_b (cp 0 0 3 6 (by decide) (by decide)) (cp 1 1 4 7 (by decide) (by decide)) (cp 2 2 5 8 (by decide) (by decide)) r2⟩, row_b (cp 0 0 3 9 (by decide) (by decide)) (cp 1 1 4 10 (by decide) (by decide)) (cp 2 2 5 11 (by decide) (by decide)) r3⟩, row_b (cp 0 0 3 12 (by decide) (by decide)) (cp 1 1 4 13 (by decide) (by decide)) (cp 2 2 5 14 (by decide) (by decide)) r4⟩, row_b (cp 0 0 3 15 (by decide) (by decide)) (cp 1 1 4 16 (by decide) (by decide)) (cp 2 2 5 17 (by decide) (by decide)) r5⟩
  rw [Int32.le_iff_toInt_le] at key
  rw [Int32.lt_iff_toInt_lt] at hh
  omega
theorem ma_0 : ¬ maF M n m < 0 := by
  have h : maF M n m ≤ maF M n m := le_rf
  generalize hw : maF M n m = w at *
  have h2 : maF M n m ≤ w := by rw [hw]; exact le_rf
  unfold maF mgF at h2
  simp only [mxc_le] at h2
  have h3 := h2.1.1.1.1.1.1
  rw [Int32.le_iff_toInt_le] at h3
  rw [Int32.lt_iff_toInt_lt]
  omega
theorem fd_0 (h4 : mA M 4 m = 0) (h5 : mA M 5 m = 0) (h6 : ∀ c, c < 3 → mA M 6 (3 * m + c) = 0) : fdF M n m = 0 := by
  unfold fdF
  rw [h4, h5, h6 0 (by decide), h6 1 (by decide), h6 2 (by decide), Int32.zero_mul, Int32.zero_mul, Int32.zero_mul]
  rfl
theorem ma_z (h6 : ∀ c, c < 3 → mA M 6 (3 * m + c) = 0) : maF M n m = 0 := by
  unfold maF
  have h0 : mA M 6 (3 * m) = 0 := h6 0 (by decide)
  rw [h0, h6 1 (by decide), h6 2 (by decide)]
  unfold mgF
  simp only [Int32.zero_mul]
  rfl
theorem Vw_Wkm (h : Vw M n e pA) (he : e ≤ 600) (hm : m < 6) : Wkm M n m := by
  refine ⟨ma_0, ma_nd hm (Hv_Pv h.1 he) h.1.1.1.1 h.1.1.2.1, fun g => ?_⟩
  obtain ⟨y1, y2, y3⟩ := h.2.1.2.2.2.2.2.1 m hm g
  exact fd_0 y1 y2 y3
/-! sums -/
theorem sum_z {f : Nat → Int32} (h0 : s6 (fun k => (f k).toInt) = 0) (hb : n6 (fun k => (f k).toInt) ≤ 1000000000) : (((((0 + f 0) + f 1) + f 2) + f 3) + f 4) + f 5 = 0 := by
  have e0 : (0 : Int32) + f 0 = f 0 := Int32.zero_add _
  unfold s6 at h0
  unfold n6 at hb
  have hs : ((f 0).toInt + (f 1).toInt + (f 2).toInt + (f 3).toInt + (f 4).toInt + (f 5).toInt) = 0 := h0
  have hn : ((f 0).toInt).natAbs + ((f 1).toInt).natAbs + ((f 2).toInt).natAbs + ((f 3).toInt).natAbs + ((f 4).toInt).natAbs + ((f 5).toInt).natAbs ≤ 1000000000 := hb
  clear h0 hb
  have e1 : (f 0 + f 1).toInt = (f 0).toInt + (f 1).toInt := i_add (by omega) (by omega)
  have e2 : (f 0 + f 1 + f 2).toInt = (f 0).toInt + (f 1).toInt + (f 2).toInt := by rw [i_add (by omega) (by omega), e1]
  have e3 : (f 0 + f 1 + f 2 + f 3).toInt = (f 0).toInt + (f 1).toInt + (f 2).toInt + (f 3).toInt := by rw [i_add (by omega) (by omega), e2]
  have e4 : (f 0 + f 1 + f 2 + f 3 + f 4).toInt = (f 0).toInt + (f 1).toInt + (f 2).toInt + (f 3).toInt + (f 4).toInt := by rw [i_add (by omega) (by omega), e3]
  have e5 : (f 0 + f 1 + f 2 + f 3 + f 4 + f 5).toInt = (f 0).toInt + (f 1).toInt + (f 2).toInt + (f 3).toInt + (f 4).toInt + (f 5).toInt := by rw [i_add (by omega) (by omega), e4]
  apply Int32.toInt_inj.mp
  rw [e0, e5, hs]
  rfl
theorem Vw_Wkc (h : Vw M n e pA) (he : e ≤ 90) (hL : La t M n T A B xs L pA c0 c1 c2) (hc : c < 3) : Wkc M n T c := by
  have hT := La_T hL
  have hb := (Hv_T h.1).1
  obtain ⟨x1, x2, x3, -⟩ := h.2.1
  obtain ⟨p1, p2⟩ := x3 c hc
  refine ⟨sum_z (f := fun k => mA M 6 (3 * k + c)) p1 (by
    have : n6 (fun k => (mA M 6 (3 * k + c)).toInt) ≤ 24 * (tN M + e) := p2
    omega), fun m hm => ?_⟩
  rw [← x2 m c hm hc, hT]
  exact rq_n
theorem Vw_cash (h : Vw M n e pA) (he : e ≤ 90) : ¬ ((((((0 + mA M 5 0) + mA M 5 1) + mA M 5 2) + mA M 5 3) + mA M 5 4) + mA M 5 5) = 0 → 0 < io (ouN M) := fun hn => by
  have hb := (Hv_T h.1).1
  have hu := ouN_le (M := M)
  obtain ⟨x1, x2, x3, x4, x5, -⟩ := h.2.1
  by_cases g : ouN M = 0
  · exact absurd (sum_z (f := fun k => mA M 5 k) (x4 g) (by
      have : n6 (fun k => (mA M 5 k).toInt) ≤ 3200 * (tN M + e) + 60000000 * ouN M := x5
      omega)) hn
  · exact (io_pos (by omega)).mpr (by omega)
end Syj
