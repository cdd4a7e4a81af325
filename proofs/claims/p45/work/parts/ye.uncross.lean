/-! what an uncrossing keeps -/
section Sye
variable {M M' M0 N Y Z R : sM} {n T b c m o k x w e K f i j : Nat} {p a v sz : Int32} {s z : Bool} {L l : List Nat} {P : Nat → Bool}
theorem db_T1 : T + 1 ≤ dbT b T := by
  unfold dbT
  cases snd b with
  | none => exact Nat.le_refl _
  | some d => exact Nat.le_succ _
theorem us_Dk {v : Nat} (hij : ¬ i = j) (i1 : mA M 15 i = io (lfN M i)) (i2 : lfN M i ≤ 100) (j1 : mA M 15 j = io (lfN M j)) (j2 : lfN M j ≤ 100) (vi : v ≤ lfN M i) (vj : v ≤ lfN M j) (si : mA M 19 i = 1) (sj : mA M 19 j = 1) (h : Dk M k) : Dk (usM M b T p i j (io v)) k := by
  have s1 : mA M 15 i - io v = io (lfN M i - v) := by rw [i1]; exact io_sub vi
  have s2 : mA M 15 j - io v = io (lfN M j - v) := by rw [j1]; exact io_sub vj
  have q1 : mA (usM M b T p i j (io v)) 15 i = io (lfN M i - v) := (us_15i hij).trans s1
  have q2 : mA (usM M b T p i j (io v)) 15 j = io (lfN M j - v) := (us_15j hij).trans s2
  have z1 : ∀ z : Nat, z ≤ 100 → (io z = 0 ↔ z = 0) := fun z hz => ⟨fun g => by have := congrArg Int32.toNatClampNeg g; rw [nn_io (by omega)] at this; exact this, fun g => by rw [g]; rfl⟩
  have r1 : mA (usM M b T p i j (io v)) 19 i = if lfN M i - v = 0 then 2 else 1 := by
    rw [us_19i hij, s1, si]
    by_cases g : lfN M i - v = 0
    · rw [if_pos g, if_pos ((z1 _ (by omega)).mpr g)]
    · rw [if_neg g, if_neg (fun z => g ((z1 _ (by omega)).mp z))]
  have r2 : mA (usM M b T p i j (io v)) 19 j = if lfN M j - v = 0 then 2 else 1 := by
    rw [us_19j hij, s2, sj]
    by_cases g : lfN M j - v = 0
    · rw [if_pos g, if_pos ((z1 _ (by omega)).mpr g)]
    · rw [if_neg g, if_neg (fun z => g ((z1 _ (by omega)).mp z))]
  have fin : ∀ y, mA (usM M b T p i j (io v)) 15 y = io (lfN M y - v) → lfN M y ≤ 100 → mA (usM M b T p i j (io v)) 19 y = (if lfN M y - v = 0 then 2 else 1) → Dk (usM M b T p i j (io v)) y := fun y h1 h2 h3 => by
    have e : lfN (usM M b T p i j (io v)) y = lfN M y - v := by unfold lfN at h1 h2 ⊢; rw [h1]; exact nn_io (by omega)
    refine Or.inr ?_
    rw [e, h3]
    by_cases g : lfN M y - v = 0
    · rw [if_pos g]; exact ⟨fun _ => g, fun _ => rfl⟩
    · rw [if_neg g]; exact ⟨fun q => absurd q (by decide), fun q => absurd q g⟩
  by_cases g1 : k = i
  · rw [g1]; exact fin i q1 i2 r1
  · by_cases g2 : k = j
    · rw [g2]; exact fin j q2 j2 r2
    · unfold Dk lfN at h ⊢
      rw [us_o (by decide) g1 g2, us_o (by decide) g1 g2]; exact h
theorem Gx_us (g : Gx N M) (hI : mI N 801 = io T) (hT : T + 2 < 4096) (hb : b < 5) (hm : oM N i < 6) (ho : oM N j < 6) (hK1 : 1 ≤ K) (hK : K ≤ 12) (hp : vPb b p) (om : mB N 2 (oM N i) = false) (oo : mB N 2 (oM N j) = false) : Gx (usM N b T p i j (io K)) M := Gx_of (Gx_of (Gx_db g hI hT hb hm ho hK1 hK hp om oo))
theorem uc_X (hb : b < 5) (hp : vPb b p) : ∀ (f : Nat) (M : sM) (T K : Nat), Ri M n → Uv M n b p K → mI M 801 = io T → T + 2 * rcN M n < 4094 → vLm M n →
    Gx (uc n b p f M K) M ∧ vLm (uc n b p f M K) n ∧ (∀ k, Dk M k → Dk (uc n b p f M K) k) ∧ tN M ≤ tN (uc n b p f M K) ∧ (0 < K → 0 < f → tN M < tN (uc n b p f M K))
  | 0, M, T, K, hR, hU, hI, hT, hL => ⟨Gx.refl M, hL, fun _ h => h, Nat.le_refl _, fun _ h => absurd h (Nat.lt_irrefl 0)⟩
  | f + 1, M, T, K, hR, hU, hI, hT, hL => by
    rcases Nat.eq_zero_or_pos K with h0 | h0
    · subst h0
      rw [uc_0]
      exact ⟨Gx.refl M, hL, fun _ h => h, Nat.le_refl _, fun h => absurd h (Nat.lt_irrefl 0)⟩
    · obtain ⟨i, j, v, u1, u2, u3, u4, u5, u6, u7, u8, u9, u10, u11, u12, u13⟩ := us_all hU h0
      obtain ⟨w1, w2, w3, _⟩ := u13 T
      have hTn := tN_T hI (by omega)
      rw [uc_s h0 u1 u2 u9 u12 hTn]
      have hd := dbT_lx (b := b) (T := T)
      have hd1 := db_T1 (b := b) (T := T)
      obtain ⟨i1, i2, i3⟩ := hU.1.2 i u3
      obtain ⟨j1, j2, j3⟩ := hU.1.2 j u4
      have hv : v = min (lfN M i) (lfN M j) := by
        have g := mnc_io (p := lfN M i) (q := lfN M j) (by omega) (by omega)
        rw [← i1, ← j1, u9] at g
        have := congrArg Int32.toNatClampNeg g
        rw [nn_io (by omega), nn_io (by omega)] at this
        exact this
      have hi12 := (hL i u3).2.1
      have hG : Gx (usM M b T p i j (io v)) M := Gx_us (Gx.refl M) hI (by omega) hb (gm6 hR u3) (gm6 hR u4) u11 (by omega) hp ((hL i u3).2.2 (Or.inr (Or.inl u5))) ((hL j u4).2.2 (Or.inr (Or.inl u6)))
      have hw := Uw_us (b := b) (T := T) (p := p) (v := v) (Uw.refl (M := M) (n := n) (b := b)) w1.1 (fun k hk => ⟨(hU.1.2 k hk).1, (hU.1.2 k hk).2.1⟩) u7 (bsF_rst u1) (bsF_rst u2) (by omega) (by omega)
      have hL2 : vLm (usM M b T p i j (io v)) n := vLm_go hL hG.1 hw.2.2.2.2.1 (fun k hk g => by
        rcases hw.2.2.2.2.2.1 k with g1 | ⟨g1, g2⟩
        · rw [g1] at g; exact g
        · rw [g2] at g; rcases g with g | g | g <;> exact absurd g (by decide))
      have hT2 : tN (usM M b T p i j (io v)) = dbT b T := tN_T us_T (by omega)
      obtain ⟨a1, a2, a3, a4, _⟩ := uc_X hb hp f (usM M b T p i j (io v)) (dbT b T) (K - v) (Ri_G hR hG.1) w1 us_T (by omega) hL2
      exact ⟨a1.trans hG, a2, fun k h => a3 k (us_Dk u7 i1 i2 j1 j2 (by omega) (by omega) u5 u6 h), by omega, fun _ _ => by omega⟩
/-- the price of an auction is that of an order -/
theorem au_p (hI : Iv M n) (h : ¬ auF M n b = -10000) : ∃ j, j < n ∧ (mA M 19 j = 1 ∧ oB M j = b) ∧ mA M 14 j = auF M n b := by
  have h1 := (auL_i (b := b) hI n (Nat.le_refl n)).1
  rcases h1 with ⟨g, _⟩ | ⟨g, _⟩
  · exact absurd g h
  · exact g
theorem un_X (hb : b < 5) (hK : Kv M n) (hT : tN M + 2 * rcN M n < 4094) (hL : vLm M n) : Gx (unZ M n b) M ∧ vLm (unZ M n b) n ∧ (∀ k, Dk M k → Dk (unZ M n b) k) ∧ tN M ≤ tN (unZ M n b) ∧ (0 < usz M n b → tN M < tN (unZ M n b)) := by
  obtain ⟨T, h1, h2⟩ := hK.2.2.2.2
  have e1 := tN_T h1 h2
  rw [← e1] at h1
  unfold unZ
  by_cases g : auF M n b = -10000
  · have e0 : usz M n b = 0 := by unfold usz; rw [if_pos g]
    rw [e0, uc_0]
    exact ⟨Gx.refl M, hL, fun _ h => h, Nat.le_refl _, fun h => absurd h (Nat.lt_irrefl 0)⟩
  · obtain ⟨j, j1, j2, j3⟩ := au_p hK.1.1 g
    have hp : vPb b (auF M n b) := by rw [← j3, ← j2.2]; exact (hL j j1).1
    have e0 : usz M n b = min (waN M n b true (auF M n b)) (waN M n b false (auF M n b)) := by unfold usz; rw [if_neg g]
    obtain ⟨a1, a2, a3, a4, a5⟩ := uc_X hb hp n M (tN M) (usz M n b) hK.2.1 ⟨Lv1_of hK, e0⟩ h1 hT hL
    exact ⟨a1, a2, a3, a4, fun h => a5 h (by omega)⟩
theorem unG_15 : mA (unG N n b K p) 15 = mA N 15 := by
  have e1 : mA (reF (mAw N 0 b 2) n b p) 15 = mA N 15 := re_15.trans (aw_f (by decide))
  unfold unG
  split
  · cases decide (b < 3) with
    | true => exact (aw_f (by decide)).trans e1
    | false => exact e1
  · exact aw_f (by decide)
theorem Gx_unG : Gx (unG N n b K p) (mAw N 0 b 2) := by
  unfold unG
  split
  · cases decide (b < 3) with
    | true => exact Gx_A rfl (Gx_re (Gx.refl _))
    | false => exact Gx_re (Gx.refl _)
  · exact Gx.refl _
theorem unG_801 : mI (unG N n b K p) 801 = mI N 801 := by
  unfold unG
  split
  · cases decide (b < 3) with
    | true => exact re_801
    | false => exact re_801
  · rfl
/-- all of it -/
theorem un_end (hb : b < 5) (HY : Hv Y n e) (hL : vLm Y n) :
    (∀ e', e' ≤ 100 → vX Y e' → vX (unR Y n b) e') ∧ vLm (unR Y n b) n ∧ Lz Y (unR Y n b) n ∧ (mA (unR Y n b) 0 b = 2 ∨ mA (unR Y n b) 0 b = 3) ∧ tN Y ≤ tN (unR Y n b) ∧ (0 < usz Y n b → tN Y < tN (unR Y n b)) ∧ Un (unR Y n b) Y := by
  have hT := Hv_T HY
  obtain ⟨f1, f2⟩ := un_facts (b := b) HY.1
  obtain ⟨G1, T', t1, t2, t3⟩ := un_G hb HY.1 (by omega)
  obtain ⟨X1, X2, X3, X4, X5⟩ := un_X hb HY.1 (by omega) hL
  have hKX := un_K (b := b) (K := usz Y n b) (p := auF Y n b) HY.1 t1 t2
  have hD1 : Dd (unZ Y n b) Y n := fun k hk => by
    rcases f1.2.2.2.2.2.1 k with g | ⟨g1, g2⟩
    · rw [g]; exact ⟨fun _ _ _ => rfl, fun h => h⟩
    · exact ⟨fun _ h1 _ => absurd g1 h1, fun h => by rw [g2] at h; exact absurd h (by decide)⟩
  have hLw : ∀ k, k < n → lfN (unZ Y n b) k ≤ lfN Y k := f1.2.2.2.2.1
  unfold unR
  have eZT : tN (unZ Y n b) = T' := tN_T t1 t2
  generalize unZ Y n b = Z at *
  have e19 : mA (unG (unS Z n b) n b (usz Y n b) (auF Y n b)) 19 = mA Z 19 := unG_19.trans (sa_f (by decide))
  have e15 : mA (unG (unS Z n b) n b (usz Y n b) (auF Y n b)) 15 = mA Z 15 := unG_15.trans (sa_f (by decide))
  have hD : Dd (poF (unG (unS Z n b) n b (usz Y n b) (auF Y n b)) n) Y n := (Dd_po.trans (Dd_eq e19)).trans hD1
  have hG : Gk (poF (unG (unS Z n b) n b (usz Y n b) (auF Y n b)) n) Y := Gk_po (Gk_unG (Gk_sa G1))
  have z1 : Lz Y Z n := fun k hk => ⟨hLw k hk, X3 k⟩
  have z2 : Lz Y (poF (unG (unS Z n b) n b (usz Y n b) (auF Y n b)) n) n := (z1.trans (Lz_eq e19 e15)).trans Lz_po
  have hL2 : vLm (poF (unG (unS Z n b) n b (usz Y n b) (auF Y n b)) n) n := vLm_go hL hG.1 (fun k hk => (z2 k hk).1) (Dd_lv hD)
  have g2 : Gx (poF (unG (unS Z n b) n b (usz Y n b) (auF Y n b)) n) (mAw (unS Z n b) 0 b 2) := Gx_po Gx_unG
  have x2 : ∀ e', e' ≤ 100 → vX Y e' → vX (mAw (unS Z n b) 0 b 2) e' := fun e' he' hx => by
    have hx2 : vX (unS Z n b) e' := vX_cg (X1.2.2 e' he' hx) (fun q hq => sa_f (by omega)) (fun _ _ => rfl) rfl
    exact vX_cg hx2 (fun q hq => aw_f (by omega)) (fun _ _ => rfl) rfl
  have eT : tN (poF (unG (unS Z n b) n b (usz Y n b) (auF Y n b)) n) = T' := tN_T (po_801.trans (unG_801.trans t1)) t2
  have p2 : mA (mAw (unS Z n b) 0 b 2) 0 b = 2 := if_pos ⟨rfl, rfl⟩
  generalize poF (unG (unS Z n b) n b (usz Y n b) (auF Y n b)) n = W at *
  obtain ⟨i1, i2, i3⟩ := fol_X n W hKX hL2
  have i4 := fol_Lz n W hKX
  have hP := i1.2.1.trans g2.2.1
  refine ⟨fun e' he' hx => i1.2.2 e' he' (g2.2.2 e' he' (x2 e' he' hx)), i2, z2.trans i4, ?_, by omega, fun h => ?_, i1.1.trans hG.1⟩
  · rcases hP b with g | g
    · exact Or.inl (g.trans p2)
    · exact Or.inr g
  · have := X5 h
    omega
end Sye
