/-! what holds at each time of the law: kept by fail, its end -/
section Syi
variable {M M' M0 N Y Z R : sM} {n T b c m o k x e f K i j d D : Nat} {p a u v h : Int32} {s z w : Bool} {pA pA' : Nat → Int32} {r : Rs4} {V : List Nat}
theorem cl_4 (k : Nat) : mA (clF M n m) 4 k = if k = m then 0 else mA M 4 k := by
  show (if 4 = 7 ∧ k < 6 then mA (clM M n m) 7 k - io ((ptN (qN M m) (cN M n m)).getD k 0) else if 4 = 7 ∧ k = m then 0 else if 4 = 4 ∧ k = m then 0 else if 4 = 5 ∧ k = m then 0 else mA M 4 k) = _
  rw [if_neg (fun z => absurd z.1 (by decide)), if_neg (fun z => absurd z.1 (by decide))]
  by_cases g : k = m
  · rw [if_pos ⟨rfl, g⟩, if_pos g]
  · rw [if_neg (fun z => g z.2), if_neg (fun z => g z.2), if_neg g]
theorem cl_5 (k : Nat) : mA (clF M n m) 5 k = if k = m then 0 else mA M 5 k := by
  show (if 5 = 7 ∧ k < 6 then mA (clM M n m) 7 k - io ((ptN (qN M m) (cN M n m)).getD k 0) else if 5 = 7 ∧ k = m then 0 else if 5 = 4 ∧ k = m then 0 else if 5 = 5 ∧ k = m then 0 else mA M 5 k) = _
  rw [if_neg (fun z => absurd z.1 (by decide)), if_neg (fun z => absurd z.1 (by decide)), if_neg (fun z => absurd z.1 (by decide))]
  by_cases g : k = m
  · rw [if_pos ⟨rfl, g⟩, if_pos g]
  · rw [if_neg (fun z => g z.2), if_neg g]
theorem cl_7m (hm : m < 6) : mA (clF M n m) 7 m = 0 := by
  have e1 : mA (clF M n m) 7 m = mA (clM M n m) 7 m - io ((ptN (qN M m) (cN M n m)).getD m 0) := by
    unfold clF coF
    rw [mA_I]
    exact sh_7 hm
  have hle := pt_get (f := qN M m) (R := cN M n m) (Nat.min_le_right _ _) hm
  have h2 : mA (clM M n m) 7 m = 0 := if_pos ⟨rfl, rfl⟩
  rw [qN_m] at hle
  rw [e1, h2, Nat.le_zero.mp hle]
  rfl
theorem cl_785 : mI (clF M n m) 785 = mI M 785 + io (kN M n m - cN M n m) := by
  show (if 785 = 785 then mI M 785 + io (kN M n m - cN M n m) else mI (coF (clM M n m) (qN M m) (cN M n m)) 785) = _
  exact if_pos rfl
def Fzl (N Y : sM) (m : Nat) : Prop := tN Y ≤ tN N ∧ mB N 2 m = true ∧ mA N 4 m = 0 ∧ mA N 5 m = 0 ∧ mA N 7 m = 0 ∧ (∀ c, c < 3 → mA N 6 (3 * m + c) = 0) ∧ (mI Y 785).toInt ≤ (mI N 785).toInt ∧ ouN N = ouN Y + 1
theorem ls_le {a b : Int32} (h1 : 0 ≤ a.toInt) (h2 : a.toInt ≤ 100000000) (h3 : b.toInt.natAbs ≤ 900000000) : (-(a + b)).toNatClampNeg ≤ b.toInt.natAbs := by
  have e1 : (a + b).toInt = a.toInt + b.toInt := i_add (by omega) (by omega)
  have e2 : (-(a + b)).toInt = -(a + b).toInt := i_neg (by omega)
  show (-(a + b)).toInt.toNat ≤ _
  omega
theorem vU_s {j L : Nat} {U : Int} (hj : j ≤ 5) (hU : U ≤ 9000000 * (j : Int) + 30000000 * ((j : Int) * ((j : Int) + 1))) (hL : L ≤ 9000000 + 60000000 * (j + 1)) : U + (L : Int) ≤ 9000000 * ((j + 1 : Nat) : Int) + 30000000 * (((j + 1 : Nat) : Int) * (((j + 1 : Nat) : Int) + 1)) ∧ U + (L : Int) ≤ 2000000000 := by
  have hc : j = 0 ∨ j = 1 ∨ j = 2 ∨ j = 3 ∨ j = 4 ∨ j = 5 := by omega
  rcases hc with g | g | g | g | g | g <;> subst g <;> omega
theorem Nv_end (hv : Vw Y n e pA) (he : e ≤ 90) (hm : m < 6) (ho : mB Y 2 m = false) (W : Wf Z Y m 47000000) (zA : ∀ q, g1A q = false → mA Z q = mA Y q) (zB : ∀ q, ¬ q = 1 → ¬ q = 7 → mB Z q = mB Y q) (zI : ∀ F, ¬ F = 801 → mI Z F = mI Y F) (t1 : mI Z 801 = io T) (t2 : tN Y ≤ T) (t3 : T ≤ tN Y + 18) (hP : Po Z (24 * (tN Y + e))) (z0 : ∀ c, c < 3 → px Z c m = 0) (hd : ∀ k, k < n → oM Y k = m → ¬ (mA Y 19 k = 0 ∨ mA Y 19 k = 1 ∨ mA Y 19 k = 4)) : Nv (clF Z n m) n e pA ∧ Fzl (clF Z n m) Y m := by
  have hTb := (Hv_T hv.1).1
  obtain ⟨g1, g2, g3, g4, g5, g6⟩ := hv.2
  obtain ⟨x1, x2, x3, x4, x5, x6, x7, x8⟩ := g1
  obtain ⟨w1, w2, w3, w4, w5, w6⟩ := W
  have p0 : ∀ c, c < 3 → mA Z 6 (3 * m + c) = 0 := fun c hc => Int32.toInt_inj.mp (z0 c hc)
  have k4 : mA Z 4 = mA Y 4 := zA 4 rfl
  have hls : lsN Z n m ≤ (cx Z m).natAbs := by
    have hf : fdF Z n m = mA Z 4 m + mA Z 5 m := by
      unfold fdF
      rw [p0 0 (by decide), p0 1 (by decide), p0 2 (by decide), Int32.zero_mul, Int32.zero_mul, Int32.zero_mul, Int32.add_zero, Int32.add_zero, Int32.add_zero]
    unfold lsN
    rw [hf, k4]
    have h8 := x8 m hm
    have h9 := n6_get (f := cx Z) hm
    have hu := ouN_le (M := Y)
    exact ls_le h8.1 h8.2 (by
      show (cx Z m).natAbs ≤ _
      omega)
  have hkc : kN Z n m - cN Z n m ≤ lsN Z n m := by
    unfold kN l1N
    omega
  have h9 := n6_get (f := cx Z) hm
  have e785 := cl_785 (M := Z) (n := n) (m := m)
  have e4 := cl_4 (M := Z) (n := n) (m := m)
  have e5 := cl_5 (M := Z) (n := n) (m := m)
  have e7 := cl_7m (M := Z) (n := n) hm
  have eA : ∀ q, ¬ q = 4 → ¬ q = 5 → ¬ q = 7 → mA (clF Z n m) q = mA Z q := fun q h1 h2 h3 => cl_A h1 h2 h3
  have eB : ∀ q k, mB (clF Z n m) q k = if q = 2 ∧ k = m then true else mB Z q k := fun q k => cl_B
  have eI : ∀ F, ¬ F = 784 → ¬ F = 785 → mI (clF Z n m) F = mI Z F := fun F h1 h2 => cl_I h1 h2
  generalize clF Z n m = N at *
  generalize kN Z n m - cN Z n m = L at *
  generalize lsN Z n m = L2 at *
  have eT : tN N = T := tN_T ((eI 801 (by decide) (by decide)).trans t1) (by omega)
  have eTZ : tN Z = T := tN_T t1 (by omega)
  have eB2 : ∀ k, mB N 2 k = if k = m then true else mB Y 2 k := fun k => by
    rw [eB, zB 2 (by decide) (by decide)]
    by_cases h : k = m
    · rw [if_pos ⟨rfl, h⟩, if_pos h]
    · rw [if_neg (fun z => h z.2), if_neg h]
  have eBo : ∀ q, ¬ q = 2 → mB N q = mB Z q := fun q hq => funext fun k => by
    rw [eB, if_neg (fun z => hq z.1)]
  have eou : ouN N = ouN Y + 1 := by
    have h := sumN_up (f := fun k => if mB N 2 k = true then 1 else 0) (g := fun k => if mB Y 2 k = true then 1 else 0) (n := 6) hm (fun k _ hk => by
      show (if mB N 2 k = true then 1 else 0) = if mB Y 2 k = true then 1 else 0
      rw [eB2, if_neg hk])
    have h2 : ouN N + (if mB Y 2 m = true then 1 else 0) = ouN Y + (if mB N 2 m = true then 1 else 0) := h
    rw [eB2, if_pos rfl, ho, if_neg Bool.false_ne_true, if_pos rfl] at h2
    exact h2
  have hou := ouN_le (M := N)
  rw [eou] at hou
  have eAY : ∀ q, g1A q = false → ¬ q = 4 → ¬ q = 7 → mA N q = mA Y q := fun q h1 h2 h3 => by
    rw [eA q h2 (fun z => by rw [z] at h1; cases h1) h3, zA q h1]
  have hn6 : n6 (cx N) ≤ n6 (cx Z) := n6_le (fun k _ => by
    unfold cx
    rw [e5]
    by_cases g : k = m
    · rw [if_pos g]
      have : (0 : Int32).toInt = 0 := rfl
      rw [this]; omega
    · rw [if_neg g]; exact Nat.le_refl _)
  have hyx : vX N e := by
    refine ⟨fun c hc => by rw [eA 1 (by decide) (by decide) (by decide)]; exact w1 c hc, PT_cg w2 (eA 6 (by decide) (by decide) (by decide)) (eA 21 (by decide) (by decide) (by decide)) (eA 22 (by decide) (by decide) (by decide)) (eA 23 (by decide) (by decide) (by decide)) (eA 25 (by decide) (by decide) (by decide)) (eBo 7 (by decide)) (eI 801 (by decide) (by decide)), ?_, fun g => by omega, ?_, fun m' hm' g => ?_, fun x hx => ?_, fun m' hm' => ?_⟩
    · rw [eT]
      exact Po_6 (Po_le hP (by omega)) (eA 6 (by decide) (by decide) (by decide))
    · rw [eT, eou]; omega
    · by_cases q : m' = m
      · rw [q]
        exact ⟨by rw [e4, if_pos rfl], by rw [e5, if_pos rfl], fun c hc => by rw [eA 6 (by decide) (by decide) (by decide)]; exact p0 c hc⟩
      · rw [eB2, if_neg q] at g
        rw [← zB 2 (by decide) (by decide)] at g
        obtain ⟨y1, y2, y3⟩ := w5 m' hm' g
        exact ⟨by rw [e4, if_neg q]; exact y1, by rw [e5, if_neg q]; exact y2, fun c hc => by rw [eA 6 (by decide) (by decide) (by decide)]; exact y3 c hc⟩
    · rw [eT] at hx
      have h10 := w6 x (by omega)
      have hb2 : ∀ k, mB Z 2 k = true → mB N 2 k = true := fun k hk => by
        rw [zB 2 (by decide) (by decide)] at hk
        rw [eB2]; split; rfl; exact hk
      have hbm : ∀ k, k = m → mB N 2 k = true := fun k hk => by rw [eB2, if_pos hk]
      unfold vTp tB tS at *
      rw [eA 25 (by decide) (by decide) (by decide), eA 22 (by decide) (by decide) (by decide), eA 23 (by decide) (by decide) (by decide), eA 24 (by decide) (by decide) (by decide)]
      refine ⟨h10.1, ?_⟩
      rcases h10.2 with (g | g | g) | g | g
      · exact Or.inl (hb2 _ g)
      · exact Or.inr (Or.inl (hb2 _ g))
      · exact Or.inr (Or.inr g)
      · exact Or.inl (hbm _ g)
      · exact Or.inr (Or.inl (hbm _ g))
    · rw [e4]
      by_cases q : m' = m
      · rw [if_pos q]; exact ⟨by decide, by decide⟩
      · rw [if_neg q, k4]; exact x8 m' hm'
  have e14 := eAY 14 rfl (by decide) (by decide)
  have e15 := eAY 15 rfl (by decide) (by decide)
  have e19 := eAY 19 rfl (by decide) (by decide)
  have eBL : (L : Int) ≤ L2 := by omega
  have hI785 : (mI N 785).toInt = (mI Y 785).toInt + (L : Int) := by
    obtain ⟨u1, u2⟩ := g6
    have u3 := (vU_s (L := L) (by omega) u2 (by omega)).2
    rw [e785, zI 785 (by decide), i_add (by rw [io_int (by omega)]; omega) (by rw [io_int (by omega)]; omega), io_int (by omega)]
  refine ⟨⟨hyx, fun k hk => ?_, fun k hk => ?_, fun k hk hk6 => ?_, ?_, ?_⟩, by omega, by rw [eB2, if_pos rfl], by rw [e4, if_pos rfl], by rw [e5, if_pos rfl], e7, fun c hc => by rw [eA 6 (by decide) (by decide) (by decide)]; exact p0 c hc, by rw [hI785]; omega, eou⟩
  · have := g2 k hk
    have hdk := hd k hk
    unfold lfN oM oB at *
    rw [eAY 12 rfl (by decide) (by decide), eAY 13 rfl (by decide) (by decide), e14, e15, e19, eB2]
    refine ⟨this.1, this.2.1, fun g => ?_⟩
    by_cases q : (mA Y 12 k).toNatClampNeg = m
    · exact absurd g (hdk q)
    · rw [if_neg q]; exact this.2.2 g
  · have := g3 k hk
    unfold Dk lfN at *
    rw [e15, e19]; exact this
  · have := g4 k hk hk6
    unfold lfN at *
    rw [e14, e15, eBo 3 (by decide), zB 3 (by decide) (by decide)]; exact this
  · exact vB_eq g5 (fun q hq => eAY q (by rcases hq with g | g | g <;> rw [g] <;> rfl) (by omega) (by omega))
  · obtain ⟨u1, u2⟩ := g6
    have u3 := vU_s (L := L) (by omega) u2 (by omega)
    unfold vU
    rw [hI785, eou]
    exact ⟨by omega, u3.1⟩
theorem tbC_ok (h : tbC M n m k = true) : mB M 2 k = false := by
  cases g : mB M 2 k with
  | false => rfl
  | true => rw [tc_3 g] at h; cases h
theorem tkrL_ok : ∀ q j, tkrL M n m q = some j → mB M 2 j = false
  | 0, j, h => by cases h
  | q + 1, j, h => by
    have e : tkrL M n m (q + 1) = (bif tbC M n m q && (match tkrL M n m q with | none => true | some j => decide (mA M 9 q < mA M 9 j)) then some q else tkrL M n m q) := rfl
    rw [e] at h
    cases hz : (tbC M n m q && (match tkrL M n m q with | none => true | some j => decide (mA M 9 q < mA M 9 j))) with
    | true =>
      rw [hz] at h
      have e1 : q = j := Option.some.inj h
      rw [Bool.and_eq_true] at hz
      rw [← e1]; exact tbC_ok hz.1
    | false =>
      rw [hz] at h
      exact tkrL_ok q j h
theorem Vw_ff (hv : Vw Y n e pA) (he : e ≤ 90) (hm : m < 6) (ho : mB Y 2 m = false) (hd : ∀ k, k < n → oM Y k = m → ¬ (mA Y 19 k = 0 ∨ mA Y 19 k = 1 ∨ mA Y 19 k = 4)) : Vw (ffF Y n m (tkrL Y n m 6)) n e pA ∧ Fzl (ffF Y n m (tkrL Y n m 6)) Y m := by
  have hT := Hv_T hv.1
  have hH := Hv_ff hv.1 (by omega) hm ho
  obtain ⟨x1, x2, x3, x4, x5, x6, x7, x8⟩ := hv.2.1
  have hu := ouN_le (M := Y)
  have hK : 24 * (tN Y + e) ≤ 60000 := by omega
  have hW : Wf Y Y m 0 := ⟨x1, x2, rfl, Nat.le_refl _, x6, fun x hx => ⟨(x7 x hx).1, Or.inl (x7 x hx).2⟩⟩
  cases hr : tkrL Y n m 6 with
  | none =>
    rw [hr, ffF_n] at hH
    rw [ffF_n]
    obtain ⟨w1, ⟨T', t1, t2, t3⟩, w3⟩ := Wf_teA hW x3 hK ho hm (by omega) hT.2.2 (by omega) 3 (Nat.le_refl 3)
    have hP := Po_teA x3 (by omega) hm 3 (Nat.le_refl 3)
    have zA : ∀ q, g1A q = false → mA (teA Y m 3) q = mA Y q := fun q h => teA_A h 3
    have zB : ∀ q, ¬ q = 7 → mB (teA Y m 3) q = mB Y q := fun q h => teA_B (nb_f h) 3
    have zI : ∀ F, ¬ F = 801 → mI (teA Y m 3) F = mI Y F := fun F h => teA_I (nb_f h) 3
    generalize teA Y m 3 = Z at *
    have hc := Nv_end (Z := cnbF Z) (T := T') hv he hm ho (Wf_le (Wf_cnb w1) (by omega)) (fun q h => (congrFun cnb_A q).trans (zA q h)) (fun q h1 h7 => (cnb_Bq h1).trans (zB q h7)) (fun F h => (congrFun cnb_I F).trans (zI F h)) ((congrFun cnb_I 801).trans t1) t2 (by omega) (Po_6 hP (congrFun cnb_A 6)) (fun c hc => by
      have : px (cnbF Z) c m = px Z c m := by unfold px; rw [cnb_A]
      rw [this]; exact w3 c hc) hd
    exact ⟨⟨hH, hc.1⟩, hc.2⟩
  | some k =>
    have hk : k < 6 := tkrL_lt 6 k hr
    have hkm : ¬ k = m := tkrL_ne 6 k hr
    have hok : mB Y 2 k = false := tkrL_ok 6 k hr
    rw [hr, ffF_s] at hH
    rw [ffF_s]
    obtain ⟨w1, ⟨T', t1, t2, t3⟩, w3⟩ := Wf_toL hW x3 hK ho hok hm hk hkm (by omega) hT.2.2 (by omega) 3 (Nat.le_refl 3)
    have hP := Po_toL x3 (by omega) hm hk hkm 3 (Nat.le_refl 3)
    have zA : ∀ q, g1A q = false → mA (toL Y m k 3) q = mA Y q := fun q h => toL_A h 3
    have zB : ∀ q, ¬ q = 7 → mB (toL Y m k 3) q = mB Y q := fun q h => toL_B (nb_f h) 3
    have zI : ∀ F, ¬ F = 801 → mI (toL Y m k 3) F = mI Y F := fun F h => toL_I (nb_f h) 3
    generalize toL Y m k 3 = Z at *
    have h9 := hv.2.2.2.2.2.1.2.2 k hk
    have w4 := Wf_pay w1 hm hk (by rw [zB 2 (by decide)]; exact ho) (by rw [zB 2 (by decide)]; exact hok) (by rw [zA 9 rfl]; exact h9) (by omega)
    have a1 : ∀ q, ¬ q = 5 → mA (payF Z m k) q = mA Z q := fun q hq => payF_A hq
    have a2 : mB (payF Z m k) = mB Z := payF_B
    have a3 : mI (payF Z m k) = mI Z := payF_Is
    generalize payF Z m k = X at *
    have hc := Nv_end (Z := cnbF X) (T := T') hv he hm ho (Wf_le (Wf_cnb w4) (by omega)) (fun q h => (congrFun cnb_A q).trans ((a1 q (fun z => by rw [z] at h; cases h)).trans (zA q h))) (fun q h1 h7 => (cnb_Bq h1).trans ((congrFun a2 q).trans (zB q h7))) (fun F h => (congrFun cnb_I F).trans ((congrFun a3 F).trans (zI F h))) ((congrFun cnb_I 801).trans ((congrFun a3 801).trans t1)) t2 (by omega) (Po_6 hP ((congrFun cnb_A 6).trans (a1 6 (by decide)))) (fun c hc => by
      have : px (cnbF X) c m = px Z c m := by unfold px; rw [cnb_A, a1 6 (by decide)]
      rw [this]; exact w3 c hc) hd
    exact ⟨⟨hH, hc.1⟩, hc.2⟩
/-- the orders withdrawn -/
theorem wa_k : ∀ K k, k < K → oM M k = m → ¬ (mA (wa_L M n m K) 19 k = 0 ∨ mA (wa_L M n m K) 19 k = 1)
  | 0, k, h, _ => absurd h (Nat.not_lt_zero k)
  | K + 1, k, h, hm => by
    have ih := wa_k K k
    have eM : oM (wa_L M n m K) = oM M := by
      have h1 := (wa_Fr (M := M) (n := n) (m := m) K)
      unfold oM
      rw [(Gx_wa (n := n) (m := m) (Gx.refl M) K).1.1 12 rfl]
    show ¬ (mA (wa_S (wa_L M n m K) n m K) 19 k = 0 ∨ mA (wa_S (wa_L M n m K) n m K) 19 k = 1)
    generalize wa_L M n m K = X at *
    unfold wa_S
    by_cases g : k = K
    · subst g
      rw [eM, decide_eq_true hm, cond_true]
      by_cases q0 : mA X 19 k = 0
      · rw [decide_eq_true q0, Bool.true_or, cond_true, cn_19, if_pos rfl]; decide
      · by_cases q1 : mA X 19 k = 1
        · rw [decide_eq_true q1, Bool.or_true, cond_true, cn_19, if_pos rfl]; decide
        · rw [decide_eq_false q0, decide_eq_false q1]
          intro q
          rcases q with q | q
          · exact q0 q
          · exact q1 q
    · have i2 := ih (by omega) hm
      cases decide (oM X K = m) with
      | false => exact i2
      | true =>
        cases decide (mA X 19 K = 0) || decide (mA X 19 K = 1) with
        | false => exact i2
        | true => rw [cond_true, cond_true, cn_19, if_neg g]; exact i2
theorem wa_15 : ∀ K, mA (wa_L M n m K) 15 = mA M 15
  | 0 => rfl
  | K + 1 => by
    have ih := wa_15 K
    show mA (wa_S (wa_L M n m K) n m K) 15 = mA M 15
    generalize wa_L M n m K = X at *
    unfold wa_S
    cases decide (oM X K = m)
    · exact ih
    · cases decide (mA X 19 K = 0) || decide (mA X 19 K = 1)
      · exact ih
      · exact cn_15y.trans ih
theorem wa_d : ∀ K, ∀ k, mA (wa_L M n m K) 19 k = mA M 19 k ∨ ((mA M 19 k = 0 ∨ mA M 19 k = 1) ∧ mA (wa_L M n m K) 19 k = 3)
  | 0, k => Or.inl rfl
  | K + 1, k => by
    have ih := wa_d K k
    show mA (wa_S (wa_L M n m K) n m K) 19 k = mA M 19 k ∨ ((mA M 19 k = 0 ∨ mA M 19 k = 1) ∧ mA (wa_S (wa_L M n m K) n m K) 19 k = 3)
    generalize wa_L M n m K = X at *
    unfold wa_S
    cases decide (oM X K = m) with
    | false => exact ih
    | true =>
      cases hz : decide (mA X 19 K = 0) || decide (mA X 19 K = 1) with
      | false => exact ih
      | true =>
        rw [cond_true, cond_true, cn_19]
        by_cases g : k = K
        · rw [if_pos g]
          refine Or.inr ⟨?_, rfl⟩
          rcases ih with q | q
          · rw [Bool.or_eq_true, decide_eq_true_eq, decide_eq_true_eq] at hz
            rw [← q, g]; exact hz
          · exact q.1
        · rw [if_neg g]; exact ih
theorem Vw_101 (hv : Vw M n e pA) (he : e ≤ 90) (hm : m < 6) (ho : mB M 2 m = false) (hf : fdF M n m < maF M n m) : ∃ N r, sp101 M n (io m) = ok (ov r) N n ∧ Vw N n e pA ∧ Fzl N M m ∧ (∀ j, r = some j → j < 6 ∧ ¬ j = m) := by
  have h0 : ¬ mB M 2 m = true := fun z => by rw [ho] at z; cases z
  have H1 : Hv (waF_ (m0 M) n m) n e := Hv_wa (Hv_m0 hv.1) (by omega)
  have e1 : waF_ (m0 M) n m = wa_L (m0 M) n m n := rfl
  have N1 : Nv (waF_ (m0 M) n m) n e pA := Nv_dead (Nv_m0 hv.2) (by omega) (by rw [e1]; exact Gx_wa (Gx.refl _) n) (by rw [e1]; exact wa_15 n) (fun k _ => by rw [e1]; exact wa_d n k)
  have hB2 : mB (waF_ (m0 M) n m) 2 m = false := wa_out h0
  have hd : ∀ k, k < n → oM (waF_ (m0 M) n m) k = m → ¬ (mA (waF_ (m0 M) n m) 19 k = 0 ∨ mA (waF_ (m0 M) n m) 19 k = 1 ∨ mA (waF_ (m0 M) n m) 19 k = 4) := fun k hk g q => by
    have h4 := H1.2.2.1 k hk
    rw [e1] at g q h4
    have eM : oM (wa_L (m0 M) n m n) = oM (m0 M) := by
      unfold oM
      rw [(Gx_wa (n := n) (m := m) (Gx.refl (m0 M)) n).1.1 12 rfl]
    rw [eM] at g
    have := wa_k (n := n) n k hk g
    rcases q with q | q | q
    · exact this (Or.inl q)
    · exact this (Or.inr q)
    · exact h4 q
  have t8 : tN (waF_ (m0 M) n m) = tN M := (tN_e (by rw [e1, wa_I])).trans tN_m0
  have t7 : mI (waF_ (m0 M) n m) 785 = mI M 785 := by
    rw [e1, wa_I]
    show (if 785 = 768 then (0 : Int32) else mI M 785) = mI M 785
    exact if_neg (by decide)
  have t6 : ouN (waF_ (m0 M) n m) = ouN M := by
    have e : mB (waF_ (m0 M) n m) 2 = mB M 2 := (Gk_wa (n := n) (m := m) (Gk.refl (m0 M)) n).1.2.1 2 (by decide) (by decide)
    unfold ouN
    rw [e]
  unfold sp101
  rw [ixo_in (by decide) hm]
  simp only []
  rw [if_neg h0, if_pos hf]
  generalize waF_ (m0 M) n m = Y at *
  obtain ⟨v1, v2⟩ := Vw_ff ⟨H1, N1⟩ he hm hB2 hd
  have k1 : ∀ j, tkrL Y n m 6 = some j → j < 6 ∧ ¬ j = m := fun j hj => ⟨tkrL_lt 6 j hj, tkrL_ne 6 j hj⟩
  refine ⟨_, _, rfl, v1, ?_, k1⟩
  unfold Fzl at v2 ⊢
  rw [t8, t7, t6] at v2
  exact v2
end Syi
