/-! what holds at each time of the law: kept by the other calls, but for fail -/
section Syg
variable {M M' M0 N Y Z R : sM} {n T b c m o k x e f sz K : Nat} {p a u v h : Int32} {s z w : Bool} {pA pA' : Nat → Int32} {r : Rs4}
theorem Nv_vB (h : Nv M n e pA) (hA : ∀ q k, ¬ (q = 8 ∨ q = 9 ∨ q = 11) → mA N q k = mA M q k) (hB : ∀ q k, (q = 2 ∨ q = 3 ∨ q = 7) → mB N q k = mB M q k) (hI : ∀ F, (F = 785 ∨ F = 801) → mI N F = mI M F) (hb : vB N) : Nv N n e pA :=
  Nv_cgk h (fun q k hq => hA q k (by omega)) (fun q k hq => hB q k (by omega)) hI hb
theorem Vw_84 (h : Vw M n e pA) : Vw (m0 (mAw (m0 M) 0 b v)) n e pA := Vw_m0 ⟨Hv_sA (by omega) (Hv_m0 h.1), Nv_A (by omega) (Nv_m0 h.2)⟩
theorem Vw_87 (h : Vw M n e pA) : Vw (m0 (mBw (m0 M) 0 b s)) n e pA :=
  Vw_m0 ⟨Hv_sB (by decide) (Hv_m0 h.1), Nv_cgk (Nv_m0 h.2) (fun _ _ _ => rfl) (fun q k hq => bw_q (by omega)) (fun _ _ => rfl) (vB_eq (Nv_m0 h.2).2.2.2.2.1 (fun _ _ => rfl))⟩
theorem Vw_88 (h : Vw M n e pA) (hu : ¬ u < 0) : Vw (m0 (mAw (mAw (m0 M) 2 c p) 3 c u)) n e pA :=
  Vw_m0 ⟨Hv_s3 (Int32.not_lt.mp hu) (Hv_sA (by omega) (Hv_m0 h.1)), Nv_A (by omega) (Nv_A (by omega) (Nv_m0 h.2))⟩
theorem Vw_90 (h : Vw M n e pA) (h1 : ¬ p < 0) (h2 : ¬ 1000000 < p) : Vw (m0 (mAw (m0 M) 7 m p)) n e pA :=
  Vw_m0 ⟨Hv_s7 h1 h2 (Hv_m0 h.1), Nv_A (by omega) (Nv_m0 h.2)⟩
theorem Vw_91 (h : Vw M n e pA) (h1 : ¬ p < 0) : Vw (m0 (mIw (m0 M) 784 p)) n e pA :=
  Vw_m0 ⟨Hv_784 h1 (Hv_m0 h.1), Nv_cgk (Nv_m0 h.2) (fun _ _ _ => rfl) (fun _ _ _ => rfl) (fun F hF => if_neg (by omega)) (vB_eq (Nv_m0 h.2).2.2.2.2.1 (fun _ _ => rfl))⟩
theorem aw_at {q : Nat} : mA (mAw M q x v) q k = if k = x then v else mA M q k := by
  rw [aw_cell]
  by_cases g : k = x
  · rw [if_pos ⟨rfl, g⟩, if_pos g]
  · rw [if_neg (fun z => g z.2), if_neg g]
theorem Vw_92 (h : Vw M n e pA) (h1 : 0 ≤ p.toInt) : Vw (m0 (mAw (m0 M) 8 m p)) n e pA := by
  obtain ⟨b1, b2, b3⟩ := (Nv_m0 h.2).2.2.2.2.1
  refine Vw_m0 ⟨Hv_sA (by omega) (Hv_m0 h.1), Nv_vB (Nv_m0 h.2) (fun q k hq => by rw [aw_f (by omega)]) (fun _ _ _ => rfl) (fun _ _ => rfl) ⟨?_, ?_, ?_⟩⟩
  · rw [aw_f (by decide)]; exact b1
  · intro m' hm'
    rw [aw_at]
    by_cases g : m' = m
    · rw [if_pos g]; exact h1
    · rw [if_neg g]; exact b2 m' hm'
  · rw [aw_f (by decide)]; exact b3
theorem Vw_93 (h : Vw M n e pA) (h1 : -20 ≤ p.toInt) (h2 : p.toInt ≤ 20) (h3 : ¬ p < -500) (h4 : ¬ 500 < p) : Vw (m0 (mAw (m0 M) 11 k p)) n e pA := by
  obtain ⟨b1, b2, b3⟩ := (Nv_m0 h.2).2.2.2.2.1
  refine Vw_m0 ⟨Hv_s11 h3 h4 (Hv_m0 h.1), Nv_vB (Nv_m0 h.2) (fun q k hq => by rw [aw_f (by omega)]) (fun _ _ _ => rfl) (fun _ _ => rfl) ⟨?_, ?_, ?_⟩⟩
  · intro q hq
    rw [aw_at]
    by_cases g : q = k
    · rw [if_pos g]; exact ⟨h1, h2⟩
    · rw [if_neg g]; exact b1 q hq
  · rw [aw_f (by decide)]; exact b2
  · rw [aw_f (by decide)]; exact b3
theorem Vw_100 (h : Vw M n e pA) (h1 : -1000000 ≤ p.toInt) (h2 : p.toInt ≤ 1000000) : Vw (m0 (mBw (mAw (m0 M) 9 m p) 1 m true)) n e pA := by
  obtain ⟨b1, b2, b3⟩ := (Nv_m0 h.2).2.2.2.2.1
  refine Vw_m0 ⟨Hv_sB (by decide) (Hv_sA (by omega) (Hv_m0 h.1)), Nv_vB (Nv_m0 h.2) (fun q k hq => by rw [mA_B, aw_f (by omega)]) (fun q k hq => bw_q (by omega)) (fun _ _ => rfl) ⟨?_, ?_, ?_⟩⟩
  · rw [mA_B, aw_f (by decide)]; exact b1
  · rw [mA_B, aw_f (by decide)]; exact b2
  · intro m' hm'
    rw [mA_B, aw_at]
    by_cases g : m' = m
    · rw [if_pos g]; exact ⟨h1, h2⟩
    · rw [if_neg g]; exact b3 m' hm'
/-- a deposit -/
theorem Vw_89 (h : Vw M n e pA) (ho : mB M 2 m = false) (h1 : 0 ≤ v.toInt) (h2 : v.toInt ≤ 100000000) : Vw (m0 (mAw (m0 M) 4 m v)) n e pA := by
  have hN := Nv_m0 h.2
  obtain ⟨g1, g2, g3, g4, g5, g6⟩ := hN
  obtain ⟨x1, x2, x3, x4, x5, x6, x7, x8⟩ := g1
  have hB2 : mB (m0 M) 2 = mB M 2 := rfl
  refine Vw_m0 ⟨Hv_sA (by omega) (Hv_m0 h.1), ?_⟩
  generalize m0 M = Y at *
  have ec : cx (mAw Y 4 m v) = cx Y := funext fun k => by unfold cx; rw [aw_f (by decide)]
  have f : ∀ q, ¬ q = 4 → mA (mAw Y 4 m v) q = mA Y q := fun q hq => aw_f hq
  have cc : ∀ k, mA (mAw Y 4 m v) 4 k = if k = m then v else mA Y 4 k := fun k => aw_at
  have fB : mB (mAw Y 4 m v) = mB Y := rfl
  have fI : mI (mAw Y 4 m v) = mI Y := rfl
  have eT : tN (mAw Y 4 m v) = tN Y := rfl
  have eO : ouN (mAw Y 4 m v) = ouN Y := rfl
  generalize mAw Y 4 m v = N at *
  have gN : vX N e → Nv N n e pA := fun gx => by
    refine ⟨gx, fun k hk => ?_, fun k hk => ?_, fun k hk hk6 => ?_, vB_eq g5 (fun q hq => f q (by omega)), vU_eq g6 (congrFun fI 785) (congrFun fB 2)⟩
    · have := g2 k hk
      unfold lfN oM oB at *
      rw [f 12 (by decide), f 13 (by decide), f 14 (by decide), f 15 (by decide), f 19 (by decide), fB]; exact this
    · have := g3 k hk
      unfold Dk lfN at *
      rw [f 15 (by decide), f 19 (by decide)]; exact this
    · have := g4 k hk hk6
      unfold lfN at *
      rw [f 14 (by decide), f 15 (by decide), fB]; exact this
  refine gN ⟨fun c hc => by rw [f 1 (by decide)]; exact x1 c hc, PT_cg x2 (f 6 (by decide)) (f 21 (by decide)) (f 22 (by decide)) (f 23 (by decide)) (f 25 (by decide)) (congrFun fB 7) (congrFun fI 801), by rw [eT]; exact Po_6 x3 (f 6 (by decide)), by rw [eO, ec]; exact x4, by rw [eT, eO, ec]; exact x5, fun m' hm' g => ?_, fun x hx => ?_, fun m' hm' => ?_⟩
  · have g' : mB Y 2 m' = true := by rw [← fB]; exact g
    obtain ⟨y1, y2, y3⟩ := x6 m' hm' g'
    have n1 : ¬ m' = m := fun z => by rw [z, hB2, ho] at g'; cases g'
    refine ⟨by rw [cc, if_neg n1]; exact y1, by rw [f 5 (by decide)]; exact y2, fun c hc => by rw [f 6 (by decide)]; exact y3 c hc⟩
  · rw [eT] at hx
    have h9 := x7 x hx
    unfold vTp tB tS at *
    rw [f 25 (by decide), f 22 (by decide), f 23 (by decide), f 24 (by decide), fB]; exact h9
  · rw [cc]
    by_cases g : m' = m
    · rw [if_pos g]; exact ⟨h1, h2⟩
    · rw [if_neg g]; exact x8 m' hm'
/-- a cancel -/
theorem Vw_98 (h : Vw M n e pA) (he : e ≤ 100) (ho : o < n) (hs : mA M 19 o = 0 ∨ mA M 19 o = 1) : Vw (m0 (cnF (m0 M) o)) n e pA := by
  refine Vw_m0 ⟨Hv_cn (Hv_m0 h.1) (by omega) ho hs, Nv_dead (Nv_m0 h.2) he (Gx_cn (Gx.refl _)) cn_15y (fun k hk => ?_)⟩
  rw [cn_19]
  by_cases g : k = o
  · rw [if_pos g, g]; exact Or.inr ⟨hs, rfl⟩
  · rw [if_neg g]; exact Or.inl rfl
/-- an uncrossing -/
theorem un_5 (hb : b < 5) (HY : Hv Y n e) : ∀ k, k < n → ok5 (mA Y 19 k) → ok5 (mA (unR Y n b) 19 k) := fun k hk h => by
  have hT := Hv_T HY
  obtain ⟨f1, f2⟩ := un_facts (b := b) HY.1
  obtain ⟨G1, T', t1, t2, t3⟩ := un_G hb HY.1 (by omega)
  have hKX := un_K (b := b) (K := usz Y n b) (p := auF Y n b) HY.1 t1 t2
  have h1 : ok5 (mA (unZ Y n b) 19 k) := by
    rcases f1.2.2.2.2.2.1 k with g | ⟨g1, g2⟩
    · rw [g]; exact h
    · rw [g2]; exact Or.inr (Or.inr (Or.inl rfl))
  unfold unR
  generalize unZ Y n b = Z at *
  have e19 : mA (unG (unS Z n b) n b (usz Y n b) (auF Y n b)) 19 = mA Z 19 := unG_19.trans (sa_f (by decide))
  have h2 : ok5 (mA (poF (unG (unS Z n b) n b (usz Y n b) (auF Y n b)) n) 19 k) := by
    rcases po_19 (N := unG (unS Z n b) n b (usz Y n b) (auF Y n b)) (n := n) (k := k) with g | g
    · rw [g, e19]; exact h1
    · rw [g.2]; exact Or.inr (Or.inr (Or.inr (Or.inl rfl)))
  generalize poF (unG (unS Z n b) n b (usz Y n b) (auF Y n b)) n = W at *
  exact fol_5 n W hKX k hk h2
theorem un_e0 : unR Y 0 b = unG (unS Y 0 b) 0 b (usz Y 0 b) (auF Y 0 b) := rfl
theorem un_p0 {j : Nat} : mA (unR Y 0 b) 0 j = if j = b then 2 else mA Y 0 j := by
  rw [un_e0]
  have hS : mA (unS Y 0 b) 0 = mA Y 0 := sa_f (by decide)
  generalize unS Y 0 b = S at *
  have e0 : mA (mAw S 0 b 2) 0 j = if j = b then 2 else mA S 0 j := by
    rw [aw_cell]
    by_cases g : j = b
    · rw [if_pos ⟨rfl, g⟩, if_pos g]
    · rw [if_neg (fun z => g z.2), if_neg g]
  rw [← hS, ← e0]
  have e1 : mA (reF (mAw S 0 b 2) 0 b (auF Y 0 b)) 0 = mA (mAw S 0 b 2) 0 := by
    rw [reF_eq]; rfl
  unfold unG
  split
  · cases decide (b < 3) with
    | true => rw [cond_true, aw_f (by decide), e1]
    | false => rw [cond_false, e1]
  · rfl
theorem un_t0 : tN (unR Y 0 b) = tN Y := by
  rw [un_e0]
  exact tN_e (unG_801.trans rfl)
theorem Vw_86 (h : Vw M n e pA) (he : e ≤ 100) (hb : b < 5) (hp : mA M 0 b = 1 ∨ mA M 0 b = 3) : ∃ N, sp86 M n (io b) = ok (io (usz (nqF (m0 M)) n b)) N n ∧ Vw N n e pA ∧ tN M ≤ tN N ∧ (mA N 0 b = 2 ∨ mA N 0 b = 3) ∧ (0 < usz (nqF (m0 M)) n b → tN M < tN N) ∧ mB N 2 = mB M 2 ∧ (n = 0 → tN N = tN M ∧ ∀ j, mA N 0 j = if j = b then 2 else mA M 0 j) := by
  have HY : Hv (nqF (m0 M)) n e := Hv_nq (Hv_m0 h.1)
  have NY : Nv (nqF (m0 M)) n e pA := Nv_nq (Nv_m0 h.2)
  have h86 := H86 (p0 := io b) h.1 (show e ≤ 600 by omega)
  have tY : tN (nqF (m0 M)) = tN M := (tN_e rfl).trans tN_m0
  have bY : mB (nqF (m0 M)) 2 = mB M 2 := rfl
  have aY : mA (nqF (m0 M)) 0 = mA M 0 := nq_A (by decide)
  unfold sp86 at h86 ⊢
  rw [ixo_in (by decide) hb] at h86 ⊢
  simp only [] at h86 ⊢
  rw [if_pos hp] at h86 ⊢
  have h87 : Hv (unR (nqF (m0 M)) n b) n e := h86
  clear h86
  refine ⟨_, rfl, ?_⟩
  generalize nqF (m0 M) = Y at *
  have h5 := un_5 hb HY
  obtain ⟨u1, u2, u3, u4, u5, u6, u7⟩ := un_end hb HY NY.2.1
  exact ⟨⟨h87, Nv_go NY u7 (u1 e he NY.1) u2 u3 h5⟩, by omega, u4, fun g => by have := u6 g; omega, (u7.2.1 2 (by decide) (by decide)).trans bY, fun g => by
    subst g
    refine ⟨un_t0.trans tY, fun j => ?_⟩
    rw [un_p0, aY]⟩
theorem au_cg (hI : Iv M n) (hI' : Iv N n) (hA : ∀ q k, (q = 1 ∨ (13 ≤ q ∧ q ≤ 15) ∨ q = 19) → mA N q k = mA M q k) (h3 : mB N 3 = mB M 3) : auF N n b = auF M n b := by
  have eB : oB N = oB M := funext fun k => by unfold oB; rw [hA 13 k (by omega)]
  have eW : ∀ s p, waN N n b s p = waN M n b s p := fun s p => by
    refine sumN_cong (fun k hk => ?_)
    unfold waP acc lfN
    rw [eB, h3, hA 14 k (by omega), hA 15 k (by omega), hA 19 k (by omega)]
  have eS : szP N n b = szP M n b := funext fun v => by unfold szP; rw [eW, eW]
  have eG : gpP N n b = gpP M n b := funext fun v => by unfold gpP; rw [eW, eW]
  have eD : mdP N b = mdP M b := by unfold mdP; rw [hA 1 b (by omega)]
  have h1 := (auL_i (b := b) hI n (Nat.le_refl n)).1
  have h2 := (auL_i (b := b) hI' n (Nat.le_refl n)).1
  rw [eS, eG, eD, eB] at h2
  refine Inb_u (S := szP M n b) (fun v => Nat.le_trans (Nat.min_le_left _ _) (waN_le hI)) (fun v => ?_) h2 h1
  constructor
  · rintro ⟨j, j1, j2, j3⟩
    exact ⟨j, j1, ⟨by rw [← hA 19 j (by omega)]; exact j2.1, j2.2⟩, by rw [← hA 14 j (by omega)]; exact j3⟩
  · rintro ⟨j, j1, j2, j3⟩
    exact ⟨j, j1, ⟨by rw [hA 19 j (by omega)]; exact j2.1, j2.2⟩, by rw [hA 14 j (by omega)]; exact j3⟩
theorem au_nq (hK : Kv M n) : auF (nqF M) n b = auF M n b :=
  au_cg hK.1.1 (Kv_nq hK).1.1 (fun q k hq => by rw [nq_A (by omega)]) rfl
theorem usz_0 (hI : Iv Y n) : usz Y n b = 0 ↔ auF Y n b = -10000 := by
  have h1 := (auL_i (b := b) hI n (Nat.le_refl n)).1
  unfold usz
  have e : (auL Y n b (-10000) 0 0 0 n).1 = auF Y n b := rfl
  rw [e] at h1
  by_cases g : auF Y n b = -10000
  · rw [if_pos g]; exact ⟨fun _ => g, fun _ => rfl⟩
  · rw [if_neg g]
    rcases h1 with ⟨g2, _⟩ | ⟨_, _, _, g2, _⟩
    · exact absurd g2 g
    · unfold szP at g2
      exact ⟨fun z => by omega, fun z => absurd z g⟩
/-! a trade busted -/
def ctB (M : sM) (m c x : Nat) : Int32 := (bif decide (tB M x = m) then (bif decide (tK M x = c) then mA M 25 x else 0) else 0) - (bif decide (tS M x = m) then (bif decide (tK M x = c) then mA M 25 x else 0) else 0)
theorem i32_e (a d : Int32) : (a + d) - d = a := Int32.add_sub_cancel _ _
theorem i32_f (a d y : Int32) : (a - y) + d = (a + d) - y := by
  rw [Int32.sub_eq_add_neg, Int32.sub_eq_add_neg, Int32.add_assoc, Int32.add_comm (-y) d, ← Int32.add_assoc]
theorem i32_g (x : Int32) : x + (-a) = x - (a - 0) := by rw [Int32.sub_zero, ← Int32.sub_eq_add_neg]
theorem i32_h (x : Int32) : x - (-a) = x - (0 - a) := by rw [Int32.zero_sub]
theorem i32_i (x : Int32) : (x + (-a)) - (-a) = x - (a - a) := by rw [Int32.add_sub_cancel, Int32.sub_self, Int32.sub_zero]
theorem i32_j (x : Int32) : x = x - (0 - 0) := by rw [Int32.sub_zero, Int32.sub_zero]
theorem rq_bust (h0 : mB M 7 x = false) (h21 : mA N 21 = mA M 21) (h22 : mA N 22 = mA M 22) (h23 : mA N 23 = mA M 23) (h25 : mA N 25 = mA M 25) (h7 : ∀ k, mB N 7 k = if k = x then true else mB M 7 k) : ∀ K, rqL N 0 m c 0 K = if x < K then rqL M 0 m c 0 K - ctB M m c x else rqL M 0 m c 0 K
  | 0 => by rw [if_neg (Nat.not_lt_zero x)]; rfl
  | K + 1 => by
    have ih := rq_bust h0 h21 h22 h23 h25 h7 K
    show rqS N 0 m c K (rqL N 0 m c 0 K) = if x < K + 1 then rqS M 0 m c K (rqL M 0 m c 0 K) - ctB M m c x else rqS M 0 m c K (rqL M 0 m c 0 K)
    rw [ih]
    generalize rqL M 0 m c 0 K = a
    unfold rqS tB tS tK
    rw [h21, h22, h23, h25, h7]
    by_cases g : K = x
    · subst g
      rw [if_neg (Nat.lt_irrefl K), if_pos rfl, if_pos (Nat.lt_succ_self K), h0]
      have e : ctB M m c K = (bif decide ((mA M 22 K).toNatClampNeg = m) then (bif decide ((mA M 21 K).toNatClampNeg = c) then (bif false then 0 else mA M 25 K) else 0) else 0) - (bif decide ((mA M 23 K).toNatClampNeg = m) then (bif decide ((mA M 21 K).toNatClampNeg = c) then (bif false then 0 else mA M 25 K) else 0) else 0) := rfl
      rw [← e, i32_e]
      cases decide ((mA M 22 K).toNatClampNeg = m) <;> cases decide ((mA M 23 K).toNatClampNeg = m) <;> cases decide ((mA M 21 K).toNatClampNeg = c) <;> exact i32_d _
    · rw [if_neg g]
      by_cases g2 : x < K
      · rw [if_pos g2, if_pos (by omega)]; exact i32_f _ _ _
      · rw [if_neg g2, if_neg (by omega)]
theorem mv_5 (k : Nat) : mA (mvF M c m o p a) 5 k = if k = o then (if k = m then mA M 5 k - p * a else mA M 5 k) + p * a else if k = m then mA M 5 k - p * a else mA M 5 k := by
  show (if 5 = 5 ∧ k = o then ((if 5 = 5 ∧ o = m then mA M 5 m - p * a else mA M 5 o) + p * a) else if 5 = 5 ∧ k = m then mA M 5 m - p * a else mA M 5 k) = _
  by_cases h1 : k = o
  · subst h1
    rw [if_pos ⟨rfl, rfl⟩, if_pos rfl]
    by_cases h2 : k = m
    · subst h2
      rw [if_pos ⟨rfl, rfl⟩, if_pos rfl]
    · rw [if_neg (fun z => h2 z.2), if_neg h2]
  · rw [if_neg (fun z => h1 z.2), if_neg h1]
    by_cases h2 : k = m
    · subst h2
      rw [if_pos ⟨rfl, rfl⟩, if_pos rfl]
    · rw [if_neg (fun z => h2 z.2), if_neg h2]
theorem vX_bust (h : vX M e) (he : e ≤ 100) (hT4 : tN M < 4096) (hx : x < tN M) (h0 : mB M 7 x = false) (hc : tK M x < 3) (hm : tB M x < 6) (ho : tS M x < 6) (om : mB M 2 (tB M x) = false) (oo : mB M 2 (tS M x) = false)
    (hA : ∀ q, ¬ q = 5 → ¬ q = 6 → mA N q = mA M q) (h6 : Mv6 M N (tK M x) (tB M x) (tS M x) (-(mA M 25 x))) (h5 : ∀ k, mA N 5 k = if k = tS M x then (if k = tB M x then mA M 5 k - mA M 24 x * -(mA M 25 x) else mA M 5 k) + mA M 24 x * -(mA M 25 x) else if k = tB M x then mA M 5 k - mA M 24 x * -(mA M 25 x) else mA M 5 k)
    (hB : ∀ k, mB N 7 k = if k = x then true else mB M 7 k) (hB2 : mB N 2 = mB M 2) (hI : mI N 801 = mI M 801) : vX N (e + 1) := by
  obtain ⟨x1, x2, x3, x4, x5, x6, x7, x8⟩ := h
  have eT : tN N = tN M := tN_e hI
  have eO : ouN N = ouN M := by unfold ouN; rw [hB2]
  have hu := ouN_le (M := M)
  have hs : (∃ v, v ≤ 12 ∧ mA M 25 x = io v) ∧ 76 ≤ (mA M 24 x).toInt ∧ (mA M 24 x).toInt ≤ 132 := by
    rcases (x7 x hx).2 with g | g | g
    · rw [om] at g; cases g
    · rw [oo] at g; cases g
    · exact g
  obtain ⟨⟨v, v1, v2⟩, v3, v4⟩ := hs
  have hW : (-(mA M 25 x)).toInt = -(v : Int) := by
    rw [v2, Int32.toInt_neg, io_int (by omega), Int.bmod_eq_of_le (by omega) (by omega)]
  have b1 : (mA M 24 x).toInt * (v : Int) ≤ 132 * 12 := by
    have z1 : (mA M 24 x).toInt * (v : Int) ≤ 132 * (v : Int) := Int.mul_le_mul_of_nonneg_right (by omega) (by omega)
    omega
  have b2 : 0 ≤ (mA M 24 x).toInt * (v : Int) := Int.mul_nonneg (by omega) (by omega)
  have hP : (mA M 24 x * -(mA M 25 x)).toInt = -((mA M 24 x).toInt * (v : Int)) := by
    rw [Int32.toInt_mul, hW, Int.mul_neg]
    exact Int.bmod_eq_of_le (by omega) (by omega)
  obtain ⟨c1, c2⟩ := cx_mv (M := M) (N := N) (a := mA M 24 x * -(mA M 25 x)) h5 hP (by omega) (by omega) hm ho
  refine ⟨fun c' hc' => by rw [hA 1 (by decide) (by decide)]; exact x1 c' hc', fun m' c' hm' hc' => ?_, ?_, fun g => ?_, ?_, fun m' hm' g => ?_, fun y hy => ?_, fun m' hm' => by rw [hA 4 (by decide) (by decide)]; exact x8 m' hm'⟩
  · rw [eT, rq_bust h0 (hA 21 (by decide) (by decide)) (hA 22 (by decide) (by decide)) (hA 23 (by decide) (by decide)) (hA 25 (by decide) (by decide)) hB, if_pos hx, x2 m' c' hm' hc', h6]
    unfold ctB
    by_cases q1 : tK M x = c'
    · have a1 : (3 * m' + c' = 3 * tS M x + tK M x) ↔ tS M x = m' := by omega
      have a2 : (3 * m' + c' = 3 * tB M x + tK M x) ↔ tB M x = m' := by omega
      rw [decide_eq_true q1]
      by_cases q2 : tS M x = m'
      · rw [if_pos (a1.mpr q2), decide_eq_true q2]
        by_cases q3 : tB M x = m'
        · rw [if_pos (a2.mpr q3), decide_eq_true q3]; exact (i32_i _).symm
        · rw [if_neg (fun z => q3 (a2.mp z)), decide_eq_false q3]; exact (i32_h _).symm
      · rw [if_neg (fun z => q2 (a1.mp z)), decide_eq_false q2]
        by_cases q3 : tB M x = m'
        · rw [if_pos (a2.mpr q3), decide_eq_true q3]; exact (i32_g _).symm
        · rw [if_neg (fun z => q3 (a2.mp z)), decide_eq_false q3]; exact (i32_j _).symm
    · rw [decide_eq_false q1, if_neg (by omega), if_neg (by omega)]
      cases decide (tB M x = m') <;> cases decide (tS M x = m') <;> exact (i32_j _).symm
  · rw [eT]
    exact Po_le (Po_mvW x3 (by omega) h6 hc hm ho hW (by omega)) (by omega)
  · rw [eO] at g
    rw [c1]; exact x4 g
  · rw [eT, eO]; omega
  · rw [hB2] at g
    obtain ⟨g1, g2, g3⟩ := x6 m' hm' g
    have n1 : ¬ m' = tB M x := fun z => by rw [z, om] at g; cases g
    have n2 : ¬ m' = tS M x := fun z => by rw [z, oo] at g; cases g
    refine ⟨by rw [hA 4 (by decide) (by decide)]; exact g1, by rw [h5, if_neg n2, if_neg n1]; exact g2, fun c' hc' => ?_⟩
    rw [h6, if_neg (by omega), if_neg (by omega)]
    exact g3 c' hc'
  · rw [eT] at hy
    have h9 := x7 y hy
    unfold vTp tB tS at *
    rw [hA 25 (by decide) (by decide), hA 22 (by decide) (by decide), hA 23 (by decide) (by decide), hA 24 (by decide) (by decide), hB2]; exact h9
theorem Vw_99 (h : Vw M n e pA) (he : e < 100) (hTi : Ti M T) (hT : tN M = T) (hx : x < T) (h0 : ¬ mB M 7 x = true) (om : ¬ mB M 2 (tB M x) = true) (oo : ¬ mB M 2 (tS M x) = true) : ∃ N, sp99 M n T (io x) = ok (mA M 25 x) N n ∧ Vw N n (e + 1) pA ∧ tN N = tN M ∧ mB N 7 x = true ∧ mA N 25 x = mA M 25 x ∧ mB N 2 = mB M 2 := by
  obtain ⟨⟨_, k1⟩, ⟨_, k2⟩, _, k3⟩ := hTi.2.2 x hx
  have h99 := H99 (p0 := io x) h.1 (show e ≤ 599 by omega) hT hTi
  have hT4 := hTi.2.1
  unfold sp99 at h99 ⊢
  rw [ixo_in (by omega) hx] at h99 ⊢
  simp only [] at h99 ⊢
  rw [if_neg h0, if_neg om, if_neg oo] at h99 ⊢
  refine ⟨_, rfl, ?_⟩
  have H1 : Hv (mvF (mBw (m0 M) 7 x true) (tK M x) (tB M x) (tS M x) (mA M 24 x) (-(mA M 25 x))) n (e + 1) := h99
  clear h99
  have hN := Nv_m0 h.2
  have i1 : mA (m0 M) = mA M := rfl
  have i2 : mB (m0 M) = mB M := rfl
  have i3 : tN (m0 M) = tN M := tN_m0
  have j1 : ∀ q, ¬ q = 5 → ¬ q = 6 → mA (mvF (mBw (m0 M) 7 x true) (tK M x) (tB M x) (tS M x) (mA M 24 x) (-(mA M 25 x))) q = mA (m0 M) q := fun q h5 h6 => (mvF_A h5 h6).trans rfl
  have j2 := mv_5 (M := mBw (m0 M) 7 x true) (c := tK M x) (m := tB M x) (o := tS M x) (p := mA M 24 x) (a := -(mA M 25 x))
  have j3 := mv_6 (M := mBw (m0 M) 7 x true) (c := tK M x) (m := tB M x) (o := tS M x) (p := mA M 24 x) (a := -(mA M 25 x))
  have j4 : ∀ k, mB (mvF (mBw (m0 M) 7 x true) (tK M x) (tB M x) (tS M x) (mA M 24 x) (-(mA M 25 x))) 7 k = if k = x then true else mB (m0 M) 7 k := fun k => by
    show (if 7 = 7 ∧ k = x then true else mB (m0 M) 7 k) = _
    by_cases g : k = x
    · rw [if_pos ⟨rfl, g⟩, if_pos g]
    · rw [if_neg (fun z => g z.2), if_neg g]
  have j5 : ∀ q, ¬ q = 7 → mB (mvF (mBw (m0 M) 7 x true) (tK M x) (tB M x) (tS M x) (mA M 24 x) (-(mA M 25 x))) q = mB (m0 M) q := fun q hq => funext fun k => bw_q hq
  have j6 : mI (mvF (mBw (m0 M) 7 x true) (tK M x) (tB M x) (tS M x) (mA M 24 x) (-(mA M 25 x))) = mI (m0 M) := rfl
  generalize mvF (mBw (m0 M) 7 x true) (tK M x) (tB M x) (tS M x) (mA M 24 x) (-(mA M 25 x)) = N at *
  have eK : tK (m0 M) x = tK M x := rfl
  have eB : tB (m0 M) x = tB M x := rfl
  have eS : tS (m0 M) x = tS M x := rfl
  have e24 : mA (m0 M) 24 x = mA M 24 x := rfl
  have e25 : mA (m0 M) 25 x = mA M 25 x := rfl
  rw [← eK] at k1
  rw [← eB] at k2
  rw [← eS] at k3
  rw [← i2] at h0
  rw [← i2, ← eB] at om
  rw [← i2, ← eS] at oo
  rw [← i3] at hT
  have hMv : Mv6 (m0 M) N (tK (m0 M) x) (tB (m0 M) x) (tS (m0 M) x) (-(mA (m0 M) 25 x)) := j3
  have hm5 : ∀ k, mA N 5 k = if k = tS (m0 M) x then (if k = tB (m0 M) x then mA (m0 M) 5 k - mA (m0 M) 24 x * -(mA (m0 M) 25 x) else mA (m0 M) 5 k) + mA (m0 M) 24 x * -(mA (m0 M) 25 x) else if k = tB (m0 M) x then mA (m0 M) 5 k - mA (m0 M) 24 x * -(mA (m0 M) 25 x) else mA (m0 M) 5 k := j2
  clear j2 j3
  have zb : ∀ {z : Bool}, ¬ z = true → z = false := fun {z} hz => by cases z; rfl; exact absurd rfl hz
  generalize m0 M = Y at *
  have hX : vX N (e + 1) := vX_bust hN.1 (by omega) (by omega) (by omega) (zb h0) k1 k2 k3 (zb om) (zb oo) j1 hMv hm5 j4 (j5 2 (by decide)) (congrFun j6 801)
  obtain ⟨g1, g2, g3, g4, g5, g6⟩ := hN
  have eTN : tN N = tN M := (tN_e (congrFun j6 801)).trans i3
  refine ⟨⟨H1, hX, fun k hk => ?_, fun k hk => ?_, fun k hk hk6 => ?_, vB_eq g5 (fun q hq => j1 q (by omega) (by omega)), vU_eq g6 (congrFun j6 785) (j5 2 (by decide))⟩, eTN, by rw [j4, if_pos rfl], by rw [j1 25 (by decide) (by decide), e25], (j5 2 (by decide)).trans (congrFun i2 2)⟩
  · have := g2 k hk
    unfold lfN oM oB at *
    rw [j1 12 (by decide) (by decide), j1 13 (by decide) (by decide), j1 14 (by decide) (by decide), j1 15 (by decide) (by decide), j1 19 (by decide) (by decide), j5 2 (by decide)]; exact this
  · have := g3 k hk
    unfold Dk lfN at *
    rw [j1 15 (by decide) (by decide), j1 19 (by decide) (by decide)]; exact this
  · have := g4 k hk hk6
    unfold lfN at *
    rw [j1 14 (by decide) (by decide), j1 15 (by decide) (by decide), j5 3 (by decide)]; exact this
end Syg
