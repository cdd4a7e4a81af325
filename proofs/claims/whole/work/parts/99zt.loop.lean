/-! the law's loop (printed by gen99zt.py) -/
def Qw : sRs → sT → Prop := fun r t => r = .inl (some (.inl 1)) ∧ sn t ≤ 601024 ∧ sw t ≤ 7293034
section S99zt
variable {t t' t0 t1 : sT} {M M' M0 N : sM} {n T A B w i e L : Nat} {v : Int32} {Ls : List Nat} {xs : Nat → Int32} {y0 y1 : sV} {Q : sRs → sT → Prop} {r : Rs4}
theorem and63 (x : Int32) : ∃ k, k < 64 ∧ x &&& 63 = io k := by
  refine ⟨x.toBitVec.toNat % 64, Nat.mod_lt _ (by decide), ?_⟩
  apply Int32.toBitVec_inj.mp
  apply BitVec.eq_of_toNat_eq
  have h : (x &&& 63).toBitVec = x.toBitVec &&& 63#32 := rfl
  rw [h, BitVec.toNat_and]
  have h2 : (63#32).toNat = 2 ^ 6 - 1 := rfl
  rw [h2, Nat.and_two_pow_sub_one_eq_mod]
  have h3 : (io (x.toBitVec.toNat % 64)).toBitVec.toNat = (x.toBitVec.toNat % 64) % 2 ^ 32 := rfl
  rw [h3]
  exact (Nat.mod_eq_of_lt (Nat.lt_of_lt_of_le (Nat.mod_lt _ (by decide)) (by decide))).symm
theorem sub_7 (hL : L ≤ 3584) : (io L - 7).toInt = (L : Int) - 7 := by
  have h1 : (io L).toInt = (L : Int) := io_int (by omega)
  have h2 : (7 : Int32).toInt = 7 := rfl
  rw [i_sub (x := io L) (y := 7) (by rw [h1, h2]; omega) (by rw [h1, h2]; omega), h1, h2]
theorem lc_end (hd : Hd t M n T Ls A B xs L) (hi : ¬ i + 7 ≤ L) (hi2 : i ≤ L) (hL : L ≤ 3584) (k : Q (.inl (some (.inl (bz true)))) t) : X 297 23 [.inr (.inr (29, (some 0))), .inr (.inr (11, (some 0))), .inr (.inr (12, (some 0))), .inr (.inr (23, (some 0))), .inl (io i), y0, y1] [] t Q := by
  have hc : (io L - 7) < io i := by
    rw [Int32.lt_iff_toInt_lt, sub_7 hL, io_int (p := i) (by omega)]
    omega
  refine x_iload (pc' := 25) rfl rfl rfl ?_
  refine x_aload_n (pc' := 26) rfl rfl rfl rfl rfl ?_
  refine x_alen (pc' := 27) (N := L) rfl rfl rfl hd.2.2.2.2 ?_
  refine x_bipush (pc' := 29) rfl rfl ?_
  refine x_isub (pc' := 30) (z := io L - 7) rfl rfl rfl ?_
  refine x_icmp (a' := 2944) (pc' := 33) (z := true) rfl rfl rfl (decide_eq_true hc) (fun _ => ?_) (fun h => by cases h)
  refine x_iconst (pc' := 2945) rfl rfl ?_
  refine x_retz (z := true) rfl rfl ?_
  exact k
theorem lc_df (hd : Hd t M n T Ls A B xs L) (hv : Hv M n e) (hi : i + 7 ≤ L) (hL : L ≤ 3584) (hs : ∀ d lo hi' : Int, ∀ offs : Array Int, lo = 0 → hi' = 41 → sSw 40 d lo hi' offs ((xs i) &&& 63) = sTg 40 d)
    (q : ∀ t' T' Ls' (y5 y6 : sV), Hd t' M n T' Ls' (A + 2) (B + 12) xs L → Hv M n (e + 1) → X 297 23 [.inr (.inr (29, (some 0))), .inr (.inr (11, (some 0))), .inr (.inr (12, (some 0))), .inr (.inr (23, (some 0))), .inl (io (i + 7)), y5, y6] [] t' Q) :
    X 297 23 [.inr (.inr (29, (some 0))), .inr (.inr (11, (some 0))), .inr (.inr (12, (some 0))), .inr (.inr (23, (some 0))), .inl (io i), y0, y1] [] t Q := by
  refine hd_40 hd hi hL ?_
  refine x_switch (pc' := 2938) rfl ((hs _ _ _ _ rfl rfl).trans (by decide)) ?_
  refine x_iinc (pc' := 2941) (y := io (i + 7)) (ls' := [_, _, _, _, _, _, _]) rfl rfl rfl (io_add i 7) rfl ?_
  refine x_goto (pc' := 23) rfl rfl ?_
  exact q t T Ls _ _ ⟨W_mono (by omega) (by omega) hd.1, hd.2⟩ (Hv_e hv)
theorem sw_df {k : Nat} (h1 : 42 ≤ k) (h2 : k < 64) (d lo hi : Int) (offs : Array Int) (hlo : lo = 0) (hhi : hi = 41) : sSw 40 d lo hi offs (io k) = sTg 40 d := by
  have e : (io k).toInt = (k : Int) := io_int (by omega)
  unfold sSw
  rw [e, hlo, hhi]
  exact if_pos (Or.inr (by omega))
theorem Qw_ok (hd : Hd t M n T Ls A B xs L) (hv : Hv M n e) (hA : A ≤ 2100) (hB : B ≤ 107000) : Qw (.inl (some (.inl (bz true)))) t := by
  have hT := Hv_T hv
  have hTN : tN M = T := W_tN hd.1
  rw [hTN] at hT
  obtain ⟨hT1, -, -⟩ := hT
  have hn : n ≤ 200 := hd.1.2.2.1.2.1
  obtain ⟨⟨d, w, h1, h2, h3, h4⟩, -⟩ := hd.1.2.2.2.2.1
  have w0 : w 0 ≤ 2 * T + 10 := (h1 0 (by decide)).2.2
  have w1 : w 1 ≤ 2 * n + 10 := (h1 1 (by decide)).2.2
  have w2 : w 2 ≤ 2 * 200 + 10 := (h1 2 (by decide)).2.2
  exact ⟨rfl, by omega, by omega⟩
set_option maxHeartbeats 4000000 in
theorem lc_all (hL : L ≤ 3584) : ∀ (d e i : Nat) (t : sT) (M : sM) (n T A B : Nat) (Ls : List Nat) (y0 y1 : sV), e + d = 513 → i = 7 * e → i ≤ L → A = 1000 + 2 * e → B = 100000 + 12 * e → Hd t M n T Ls A B xs L → Hv M n e → X 297 23 [.inr (.inr (29, (some 0))), .inr (.inr (11, (some 0))), .inr (.inr (12, (some 0))), .inr (.inr (23, (some 0))), .inl (io i), y0, y1] [] t Qw := by
  intro d
  induction d with
  | zero => intro e i t M n T A B Ls y0 y1 he hie hiL _ _ _ _; exact absurd hiL (by omega)
  | succ d ih =>
    intro e i t M n T A B Ls y0 y1 he hie hiL hA hB hd hv
    by_cases hi : i + 7 ≤ L
    · have g : ∀ t' M' n' T' Ls' (y5 y6 : sV), Hd t' M' n' T' Ls' (A + 2) (B + 12) xs L → Hv M' n' (e + 1) → X 297 23 [.inr (.inr (29, (some 0))), .inr (.inr (11, (some 0))), .inr (.inr (12, (some 0))), .inr (.inr (23, (some 0))), .inl (io (i + 7)), y5, y6] [] t' Qw :=
        fun t' M' n' T' Ls' y5 y6 h1 h2 => ih (e + 1) (i + 7) t' M' n' T' (A + 2) (B + 12) Ls' y5 y6 (by omega) (by omega) hi (by omega) (by omega) h1 h2
      clear ih
      have he5 : e ≤ 599 := by omega
      obtain ⟨k, hk, hx⟩ := and63 (xs i)
      by_cases h42 : 42 ≤ k
      · exact lc_df hd hv hi hL (by rw [hx]; exact sw_df h42 hk) (fun t' T' Ls' y5 y6 h1 h2 => g t' M n T' Ls' y5 y6 h1 h2)
      · have h41 : k < 42 := by omega
        clear hk h42
        match k, h41, hx with
        | 0, _, hx => exact lc_0 hd hv he5 hi hL hx (fun t' T' Ls' y5 y6 h1 h2 => g t' _ _ T' Ls' y5 y6 h1 h2)
        | 1, _, hx => exact lc_1 hd hv he5 hi hL hx (fun t' T' Ls' y5 y6 h1 h2 => g t' _ _ T' Ls' y5 y6 h1 h2)
        | 2, _, hx => exact lc_2 hd hv he5 hi hL hx (fun t' T' Ls' y5 y6 h1 h2 => g t' _ _ T' Ls' y5 y6 h1 h2)
        | 3, _, hx => exact lc_3 hd hv he5 hi hL hx (fun t' T' Ls' y5 y6 h1 h2 => g t' _ _ T' Ls' y5 y6 h1 h2)
        | 4, _, hx => exact lc_4 hd hv he5 hi hL hx (fun t' T' Ls' y5 y6 h1 h2 => g t' _ _ T' Ls' y5 y6 h1 h2)
        | 5, _, hx => exact lc_5 hd hv he5 hi hL hx (fun t' T' Ls' y5 y6 h1 h2 => g t' _ _ T' Ls' y5 y6 h1 h2)
        | 6, _, hx => exact lc_6 hd hv he5 hi hL hx (fun t' T' Ls' y5 y6 h1 h2 => g t' _ _ T' Ls' y5 y6 h1 h2)
        | 7, _, hx => exact lc_7 hd hv he5 hi hL hx (fun t' T' Ls' y5 y6 h1 h2 => g t' _ _ T' Ls' y5 y6 h1 h2)
        | 8, _, hx => exact lc_8 hd hv he5 hi hL hx (fun t' T' Ls' y5 y6 h1 h2 => g t' _ _ T' Ls' y5 y6 h1 h2)
        | 9, _, hx => exact lc_9 hd hv he5 hi hL hx (fun t' T' Ls' y5 y6 h1 h2 => g t' _ _ T' Ls' y5 y6 h1 h2)
        | 10, _, hx => exact lc_10 hd hv he5 hi hL hx (fun t' T' Ls' y5 y6 h1 h2 => g t' _ _ T' Ls' y5 y6 h1 h2)
        | 11, _, hx => exact lc_11 hd hv he5 hi hL hx (fun t' T' Ls' y5 y6 h1 h2 => g t' _ _ T' Ls' y5 y6 h1 h2)
        | 12, _, hx => exact lc_12 hd hv he5 hi hL hx (fun t' T' Ls' y5 y6 h1 h2 => g t' _ _ T' Ls' y5 y6 h1 h2)
        | 13, _, hx => exact lc_13 hd hv he5 hi hL hx (fun t' T' Ls' y5 y6 h1 h2 => g t' _ _ T' Ls' y5 y6 h1 h2)
        | 14, _, hx => exact lc_14 hd hv he5 hi hL hx (fun t' T' Ls' y5 y6 h1 h2 => g t' _ _ T' Ls' y5 y6 h1 h2)
        | 15, _, hx => exact lc_15 hd hv he5 hi hL hx (fun t' T' Ls' y5 y6 h1 h2 => g t' _ _ T' Ls' y5 y6 h1 h2)
        | 16, _, hx => exact lc_16 hd hv he5 hi hL hx (fun t' T' Ls' y5 y6 h1 h2 => g t' _ _ T' Ls' y5 y6 h1 h2)
        | 17, _, hx => exact lc_17 hd hv he5 hi hL hx (fun t' T' Ls' y5 y6 h1 h2 => g t' _ _ T' Ls' y5 y6 h1 h2)
        | 18, _, hx => exact lc_18 hd hv he5 hi hL hx (fun t' T' Ls' y5 y6 h1 h2 => g t' _ _ T' Ls' y5 y6 h1 h2)
        | 19, _, hx => exact lc_19 hd hv he5 hi hL hx (fun t' T' Ls' y5 y6 h1 h2 => g t' _ _ T' Ls' y5 y6 h1 h2)
        | 20, _, hx => exact lc_20 hd hv he5 hi hL hx (fun t' T' Ls' y5 y6 h1 h2 => g t' _ _ T' Ls' y5 y6 h1 h2)
        | 21, _, hx => exact lc_21 hd hv he5 hi hL hx (fun t' T' Ls' y5 y6 h1 h2 => g t' _ _ T' Ls' y5 y6 h1 h2)
        | 22, _, hx => exact lc_22 hd hv he5 hi hL hx (fun t' T' Ls' y5 y6 h1 h2 => g t' _ _ T' Ls' y5 y6 h1 h2)
        | 23, _, hx => exact lc_23 hd hv he5 hi hL hx (fun t' T' Ls' y5 y6 h1 h2 => g t' _ _ T' Ls' y5 y6 h1 h2)
        | 24, _, hx => exact lc_24 hd hv he5 hi hL hx (fun t' T' Ls' y5 y6 h1 h2 => g t' _ _ T' Ls' y5 y6 h1 h2)
        | 25, _, hx => exact lc_25 hd hv he5 hi hL hx (fun t' T' Ls' y5 y6 h1 h2 => g t' _ _ T' Ls' y5 y6 h1 h2)
        | 26, _, hx => exact lc_26 hd hv he5 hi hL hx (fun t' T' Ls' y5 y6 h1 h2 => g t' _ _ T' Ls' y5 y6 h1 h2)
        | 27, _, hx => exact lc_27 hd hv he5 hi hL hx (fun t' T' Ls' y5 y6 h1 h2 => g t' _ _ T' Ls' y5 y6 h1 h2)
        | 28, _, hx => exact lc_28 hd hv he5 hi hL hx (fun t' T' Ls' y5 y6 h1 h2 => g t' _ _ T' Ls' y5 y6 h1 h2)
        | 29, _, hx => exact lc_29 hd hv he5 hi hL hx (fun t' T' Ls' y5 y6 h1 h2 => g t' _ _ T' Ls' y5 y6 h1 h2)
        | 30, _, hx => exact lc_30 hd hv he5 hi hL hx (fun t' T' Ls' y5 y6 h1 h2 => g t' _ _ T' Ls' y5 y6 h1 h2)
        | 31, _, hx => exact lc_31 hd hv he5 hi hL hx (fun t' T' Ls' y5 y6 h1 h2 => g t' _ _ T' Ls' y5 y6 h1 h2)
        | 32, _, hx => exact lc_32 hd hv he5 hi hL hx (fun t' T' Ls' y5 y6 h1 h2 => g t' _ _ T' Ls' y5 y6 h1 h2)
        | 33, _, hx => exact lc_33 hd hv he5 hi hL hx (fun t' T' Ls' y5 y6 h1 h2 => g t' _ _ T' Ls' y5 y6 h1 h2)
        | 34, _, hx => exact lc_34 hd hv he5 hi hL hx (fun t' T' Ls' y5 y6 h1 h2 => g t' _ _ T' Ls' y5 y6 h1 h2)
        | 35, _, hx => exact lc_35 hd hv he5 hi hL hx (fun t' T' Ls' y5 y6 h1 h2 => g t' _ _ T' Ls' y5 y6 h1 h2)
        | 36, _, hx => exact lc_36 hd hv he5 hi hL hx (fun t' T' Ls' y5 y6 h1 h2 => g t' _ _ T' Ls' y5 y6 h1 h2)
        | 37, _, hx => exact lc_37 hd hv he5 hi hL hx (fun t' T' Ls' y5 y6 h1 h2 => g t' _ _ T' Ls' y5 y6 h1 h2)
        | 38, _, hx => exact lc_38 hd hv he5 hi hL hx (fun t' T' Ls' y5 y6 h1 h2 => g t' _ _ T' Ls' y5 y6 h1 h2)
        | 39, _, hx => exact lc_39 hd hv he5 hi hL hx (fun t' T' Ls' y5 y6 h1 h2 => g t' _ _ T' Ls' y5 y6 h1 h2)
        | 40, _, hx => exact lc_40 hd hv he5 hi hL hx (fun t' T' Ls' y5 y6 h1 h2 => g t' _ _ T' Ls' y5 y6 h1 h2)
        | 41, _, hx => exact lc_41 hd hv he5 hi hL hx (fun t' T' Ls' y5 y6 h1 h2 => g t' _ _ T' Ls' y5 y6 h1 h2)
        | k + 42, h, _ => exact absurd h (by omega)
    · exact lc_end hd hi hiL hL (Qw_ok hd hv (by omega) (by omega))
theorem lc_run (hL : L ≤ 3584) (e : t = T16 L xs) : X 297 23 [.inr (.inr (29, (some 0))), .inr (.inr (11, (some 0))), .inr (.inr (12, (some 0))), .inr (.inr (23, (some 0))), .inl 0, sJk, sJk] [] t Qw := by
  have e0 : io 0 = 0 := rfl
  have h := lc_all (xs := xs) hL 513 0 0 t (rp t) 0 0 1000 100000 [] sJk sJk rfl rfl (Nat.zero_le _) rfl rfl (st_Hd e) (st_Hv e)
  rw [e0] at h
  exact h
theorem w_run (hL : L ≤ 3584) : ∃ (f : Nat) (t' : sT), sRun f 297 0 (sEn [.inr (.inr (29, some 0))] 7) [] (sT0 L xs) = some (.inl (some (.inl 1)), t') ∧ sn t' ≤ 601024 ∧ sw t' ≤ 7293034 := by
  obtain ⟨f, r, t', h1, rfl, h2, h3⟩ := law_0 (lc_run (xs := xs) hL rfl)
  exact ⟨f, t', h1, h2, h3⟩
end S99zt
