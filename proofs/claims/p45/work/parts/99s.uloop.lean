/-! uncross: all trades of the uncrossing, on both sides -/
section S99s
variable {t t' t0 : sT} {M M' M0 N Y Z R : sM} {n T A B b c m o k K w v e q j i d : Nat} {p a h u g p0 p1 x y : Int32} {s z : Bool} {L L' l : List Nat} {r r0 : Option Nat} {Q : sRs → sT → Prop}
noncomputable def uc (n b : Nat) (p : Int32) : Nat → sM → Nat → sM
  | 0, M, _ => M
  | f + 1, M, K => if K = 0 then M else uc n b p f (usM M b (tN M) p (ovD (bsF M n b true)) (ovD (bsF M n b false)) (mnc (mA M 15 (ovD (bsF M n b true))) (mA M 15 (ovD (bsF M n b false))))) (K - (mnc (mA M 15 (ovD (bsF M n b true))) (mA M 15 (ovD (bsF M n b false)))).toNatClampNeg)
theorem uc_0 : ∀ f, uc n b p f M 0 = M
  | 0 => rfl
  | f + 1 => if_pos rfl
theorem uc_s {f : Nat} (hK : 0 < K) (h1 : bsF M n b true = some i) (h2 : bsF M n b false = some j) (h3 : mnc (mA M 15 i) (mA M 15 j) = io v) (hv : v ≤ 100) (hT : tN M = T) : uc n b p (f + 1) M K = uc n b p f (usM M b T p i j (io v)) (K - v) := by
  have e : uc n b p (f + 1) M K = uc n b p f (usM M b (tN M) p (ovD (bsF M n b true)) (ovD (bsF M n b false)) (mnc (mA M 15 (ovD (bsF M n b true))) (mA M 15 (ovD (bsF M n b false))))) (K - (mnc (mA M 15 (ovD (bsF M n b true))) (mA M 15 (ovD (bsF M n b false)))).toNatClampNeg) := if_neg (by omega)
  have o1 : ∀ k : Nat, ovD (some k) = k := fun k => rfl
  rw [e, h1, h2, o1, o1, h3, hT, nn_io (by omega)]
theorem of_mI : mI (ofF M k a) = mI M := by
  unfold ofF
  cases decide (((mA M 15 k) - a) = 0)
  · rw [cond_false, mI_aw, mI_aw]
  · rw [cond_true, mI_aw, mI_aw, mI_aw, mI_aw]
theorem us_T : mI (usM M b T p i j a) 801 = io (dbT b T) := by
  unfold usM
  rw [of_mI, of_mI, dbF_T]
/-- the class -/
theorem w5_run (hb : b < 5) : ∀ (f : Nat) (M : sM) (t : sT) (T v K : Nat) (y0 y1 y2 : sV), Wc t M n T L A B → Uv M n b p K → K ≤ 20000 → rcN M n ≤ f → v + rcN M n < 400 → T + 2 * rcN M n < 4094 →
    (∀ t' T', Wc t' (uc n b p f M K) n T' L A B → T' + 2 * dnN M n ≤ T + 2 * dnN (uc n b p f M K) n → ep t' = ep t → Q (.inl none) t') →
    X 5 6 [.inr (.inr (0, (some 0))), .inr (.inr (1, (some b))), .inl p, .inl a, .inl (io K), .inl (io v), y0, y1, y2] [] t Q
  | f, M, t, T, v, 0, y0, y1, y2, hW, hU, _, _, hv, _, q => by
    have q1 : Q (.inl none) t := by
      refine q t T ?_ ?_ rfl
      · rw [uc_0]; exact hW
      · rw [uc_0]; exact Nat.le_refl _
    exact n5_k hW hb (by decide) (by omega) (fun _ => q1) (fun h => absurd h (Nat.lt_irrefl 0)) (fun h => absurd h (Nat.lt_irrefl 0)) (fun h => absurd h (Nat.lt_irrefl 0))
  | 0, M, t, T, v, K + 1, y0, y1, y2, hW, hU, _, hr, _, _, _ => by
    obtain ⟨i, j, w, _, _, _, _, _, _, _, _, _, _, _, _, h⟩ := us_all hU (show 0 < K + 1 from Nat.succ_pos K)
    have := (h 0).2.1
    omega
  | f + 1, M, t, T, v, K + 1, y0, y1, y2, hW, hU, hK, hr, hv, hT, q => by
    obtain ⟨i, j, w, e1, e2, hi, hj, si, sj, hij, hm1, hm2, hwK, hw1, hw, h⟩ := us_all hU (show 0 < K + 1 from Nat.succ_pos K)
    obtain ⟨u1, u2, u3, u4⟩ := h T
    have hrn := rcN_le (M := M) (n := n)
    rw [uc_s (show 0 < K + 1 from Nat.succ_pos K) e1 e2 hm2 hw (W_tN hW)] at q
    refine n5_k hW hb (by omega) (by omega) (fun g => absurd (show 0 < K + 1 from Nat.succ_pos K) g) (fun _ g => ?_) (fun _ j0 g0 j1 g1 => ?_) (fun _ j0 g0 g => ?_)
    · rw [e1] at g; cases g
    · rw [e1] at g0; cases g0
      rw [e2] at g1; cases g1
      rw [hm1, e1, e2]
      refine w47 hW hb (W_oM hW hi) (W_oM hW hj) (by omega) (fun t1 W1 ep1 _ => ?_)
      refine sK_v (pc' := 80) rfl ?_
      refine n5_2 W1 hb (by omega) (by omega) hi hj ?_
      have d19 : mA (dbF M T b (oM M i) (oM M j) p (io w)) 19 i = 1 := st_dbF.trans si
      refine w34 W1 hi d19 (fun t2 W2 ep2 _ => ?_)
      refine sK_v (pc' := 91) rfl ?_
      refine n5_3 W2 hb (by omega) (by omega) hi hj ?_
      refine w34 W2 hj u4 (fun t3 W3 ep3 _ => ?_)
      refine sK_v (pc' := 102) rfl ?_
      refine n5_4 W3 hb (by omega) (by omega) hi hj ?_
      rw [io_sub hwK]
      have W4 : Wc t3 (usM M b T p i j (io w)) n (dbT b T) L A B := W3
      clear W1 W2 W3 d19 u4
      have hd := dbT_le (b := b) (T := T)
      generalize usM M b T p i j (io w) = N at *
      refine w5_run hb f N t3 (dbT b T) (v + 1) (K + 1 - w) _ _ _ W4 u1 (by omega) (by omega) (by omega) (by omega) (fun t' T' g1 g2 g3 => q t' T' g1 (by omega) (g3.trans (ep3.trans (ep2.trans ep1))))
    · rw [e2] at g; cases g
theorem am_eq {v w : Nat} {x y : Int32} (h : mnc x y = io v) (hv : v ≤ w) (hw : w < 2 ^ 31) : (¬ x < y → ¬ y < io w → io w = io v) ∧ (¬ x < y → y = io v) ∧ (x < y → ¬ x < io w → io w = io v) ∧ (x < y → x = io v) := by
  have e1 : ¬ x < y → y = io v := fun g => by unfold mnc at h; rw [decide_eq_false g] at h; exact h
  have e2 : x < y → x = io v := fun g => by unfold mnc at h; rw [decide_eq_true g] at h; exact h
  have e3 : ¬ io v < io w → io w = io v := fun g => by rw [io_lt (by omega) hw] at g; rw [show w = v by omega]
  exact ⟨fun g g2 => e3 (e1 g ▸ g2), e1, fun g g2 => e3 (e2 g ▸ g2), e2⟩
end S99s
