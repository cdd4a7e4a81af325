/-! uncross: what holds when all is done -/
section S99u
variable {t t' t0 : sT} {M M' M0 N Y Z R : sM} {n T A B b c m o k K w v e q j i d : Nat} {p a h u g p0 p1 : Int32} {x : Nat} {s z : Bool} {L L' l : List Nat} {r r0 : Option Nat} {P P' : Nat → Bool} {Q : sRs → sT → Prop}
theorem uc_w : ∀ (f : Nat) (M : sM) (K : Nat), Uv M n b p K → Uw M0 M n b → Uw M0 (uc n b p f M K) n b ∧ Lv1 (uc n b p f M K) n
  | 0, M, K, hU, hw => ⟨hw, hU.1⟩
  | f + 1, M, 0, hU, hw => by rw [uc_0]; exact ⟨hw, hU.1⟩
  | f + 1, M, K + 1, hU, hw => by
    obtain ⟨i, j, w, e1, e2, hi, hj, si, sj, hij, hm1, hm2, hwK, hw1, hw100, h⟩ := us_all hU (show 0 < K + 1 from Nat.succ_pos K)
    obtain ⟨u1, u2, u3, u4⟩ := h (tN M)
    rw [uc_s (show 0 < K + 1 from Nat.succ_pos K) e1 e2 hm2 hw100 rfl]
    have ri := bsF_rst e1
    have rj := bsF_rst e2
    obtain ⟨i1, i2, i3⟩ := hU.1.2 i hi
    obtain ⟨j1, j2, j3⟩ := hU.1.2 j hj
    have hv : w = min (lfN M i) (lfN M j) := by
      have g := mnc_io (p := lfN M i) (q := lfN M j) (by omega) (by omega)
      rw [← i1, ← j1, hm2] at g
      have := congrArg Int32.toNatClampNeg g
      rw [nn_io (by omega), nn_io (by omega)] at this
      exact this
    refine uc_w f _ _ u1 (Uw_us hw u1.1 (fun k hk => ⟨(hU.1.2 k hk).1, (hU.1.2 k hk).2.1⟩) hij ri rj (by omega) (by omega))
theorem Lv1_of (hK : Kv M n) : Lv1 M n := ⟨hK.1.2, fun k hk => ⟨(Iv_lf hK.1.1 hk).1, (Iv_lf hK.1.1 hk).2, fun h => by
  have := Iv_sh hK.1.1 hk h
  omega⟩⟩
/-- all shown anew: what holds between calls holds again -/
theorem Kv_un (hK : Kv M0 n) (hw : Uw M0 Z n b) (hL : Lv1 Z n) (hT : mI Z 801 = io T) (hT4 : T < 4096) : Kv (saF Z (fun j => decide (j < n) && rsB Z b j)) n := by
  obtain ⟨⟨⟨i1, i2, i3, i4, i5, i6⟩, hS⟩, hR, hQ, hl, -⟩ := hK
  obtain ⟨u1, u2, u3, u4, u5, u6, u7⟩ := hw
  have hb0 : ∀ k, oB Z k = oB M0 k := fun k => by unfold oB; rw [u1 13 k (by omega)]
  have hm0 : ∀ k, oM Z k = oM M0 k := fun k => by unfold oM; rw [u1 12 k (by omega)]
  have st : stN Z = stN M0 := by unfold stN; rw [u4]
  have one : ∀ x, mA Z 19 x = 1 → mA M0 19 x = 1 := fun x hx => by
    rcases u6 x with e | ⟨_, e⟩
    · rw [← e]; exact hx
    · rw [hx] at e; exact absurd e (by decide)
  have zero : ∀ x, mA Z 19 x = 0 → mA M0 19 x = 0 := fun x hx => by
    rcases u6 x with e | ⟨_, e⟩
    · rw [← e]; exact hx
    · rw [hx] at e; exact absurd e (by decide)
  have f15 : mA (saF Z (fun j => decide (j < n) && rsB Z b j)) 15 = mA Z 15 := sa_f (by decide)
  have f19 : mA (saF Z (fun j => decide (j < n) && rsB Z b j)) 19 = mA Z 19 := sa_f (by decide)
  have f18 : mA (saF Z (fun j => decide (j < n) && rsB Z b j)) 18 = mA Z 18 := sa_f (by decide)
  have fl : ∀ k, lfN (saF Z (fun j => decide (j < n) && rsB Z b j)) k = lfN Z k := fun k => by unfold lfN; rw [f15]
  have fs : stN (saF Z (fun j => decide (j < n) && rsB Z b j)) = stN Z := rfl
  refine ⟨⟨⟨fun k hk => ?_, ?_, ?_, fun c hc => ?_, fun k hk => ?_, i6⟩, ?_⟩, ⟨?_, hR.2.1, fun k hk => ?_, fun k hk => ?_⟩, fun k hk h4 h0 => ?_, fun k hk h0 => ?_, T, hT, hT4⟩
  · obtain ⟨z1, z2, z3⟩ := hL.2 k hk
    obtain ⟨e, f, h1, h2, h3, h4, h5, h6, h7⟩ := i1 k hk
    have e16 : mA Z 16 k = io f := (u1 16 k (by omega)).trans h3
    rw [fs, st, f15, f19, f18, sa_f (q := 16) (by decide)]
    refine ⟨lfN Z k, f, z1, z2, e16, h4, h5, by rw [u1 18 k (by omega)]; exact h6, fun g => ?_⟩
    obtain ⟨g1, g2, g3, g4, g5⟩ := h7 (one k g)
    refine ⟨by rw [u1 18 k (by omega)]; exact g1, ?_⟩
    by_cases eb : oB Z k = b
    · refine ⟨min f (lfN Z k), ?_, ?_, ?_⟩
      · rw [sa_cell, if_pos ⟨rfl, by
          show (decide (k < n) && rsB Z b k) = true
          unfold rsB; rw [decide_eq_true hk, decide_eq_true g, decide_eq_true eb]; rfl⟩, e16, z1, mnc_io (by omega) (by omega)]
      · have := z3 g; omega
      · omega
    · have e7 := u7 k (Or.inl (by rw [← hb0]; exact eb))
      refine ⟨g2, ?_, g4, ?_⟩
      · rw [sa_cell, if_neg (fun z => by
          have := z.2
          unfold rsB at this
          rw [decide_eq_false eb] at this
          simp at this), e7.1, g3]
      · have : lfN Z k = e := by unfold lfN; rw [e7.2, h1]; exact nn_io (by omega)
        omega
  · rw [fs, sa_I, u4, st]; exact i2
  · rw [fs, st]
    have : poN (saF Z (fun j => decide (j < n) && rsB Z b j)) n ≤ poN M0 n := by
      refine sumN_mono (fun k hk => ?_)
      rw [fl, f19]
      have h1 := u5 k hk
      have h2 : wtN (mA Z 19 k) ≤ wtN (mA M0 19 k) := by
        rcases u6 k with e | ⟨_, e⟩
        · rw [e]; exact Nat.le_refl _
        · rw [e]; exact Nat.zero_le _
      omega
    omega
  · rw [sa_f (by decide), u1 3 c (by omega)]; exact i4 c hc
  · rw [sa_f (by decide), u1 14 k (by omega)]; exact i5 k hk
  · exact Sd_eq hL.1 f18 f19
  · rw [sa_I, u3]; exact hR.1
  · have : oM (saF Z (fun j => decide (j < n) && rsB Z b j)) k = oM M0 k := by unfold oM; rw [sa_f (by decide), u1 12 k (by omega)]
    rw [this, sa_f (by decide), u1 12 k (by omega)]; exact hR.2.2.1 k hk
  · have : oB (saF Z (fun j => decide (j < n) && rsB Z b j)) k = oB M0 k := by unfold oB; rw [sa_f (by decide), u1 13 k (by omega)]
    rw [this, sa_f (by decide), u1 13 k (by omega)]; exact hR.2.2.2 k hk
  · rw [sa_B, u2 4 k (by decide) (by decide)] at h4
    rw [f19] at h0
    exact hQ k hk h4 (zero k h0)
  · rw [f19] at h0
    rw [fl]
    have h9 := zero k h0
    have e7 := u7 k (Or.inr (by rw [h9]; decide))
    have := hl k hk h9
    unfold lfN at this ⊢
    rw [e7.2]; exact this
theorem Kv_poL (hK : Kv M n) : ∀ k, k ≤ n → Kv (poL M n k) n
  | 0, _ => hK
  | k + 1, hk => by
    have h := Kv_poL hK k (by omega)
    show Kv (poS (poL M n k) n k) n
    generalize poL M n k = N at h
    exact Kv_c (Kv_c (Kv_c (Kv_cn h (by omega)) h) h) h
theorem Kv_po (hK : Kv M n) : Kv (poF M n) n := Kv_poL hK n (Nat.le_refl n)
theorem Kv_re (hK : Kv M n) : Kv (reF M n b p) n := by
  rw [reF_eq]
  exact Kv_cg (fun _ _ _ => rfl) (fun _ _ => rfl) rfl rfl rfl hK
theorem Kv_0 {v : Int32} (hK : Kv M n) : Kv (mAw M 0 x v) n := Kv_cg (fun q k hq => aw_q (by omega)) (fun _ _ => rfl) rfl rfl rfl hK
theorem Kv_2 {v : Int32} (hK : Kv M n) : Kv (mAw M 2 x v) n := Kv_cg (fun q k hq => aw_q (by omega)) (fun _ _ => rfl) rfl rfl rfl hK
theorem re_a0L {v : Int32} : ∀ k, reL (mAw M 0 x v) n b p k = mAw (reL M n b p k) 0 x v
  | 0 => rfl
  | k + 1 => by
    show reS (reL (mAw M 0 x v) n b p k) n b p k = mAw (reS (reL M n b p k) n b p k) 0 x v
    rw [re_a0L k]; rfl
theorem re_a0 {v : Int32} : reF (mAw M 0 x v) n b p = mAw (reF M n b p) 0 x v := re_a0L n
end S99u
