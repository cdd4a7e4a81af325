/-! the reference's methods that change (printed by refgen.py) -/
def shF (M : sM) (k : Nat) (s : Bool) : sM := (bif s then (mAw (mIw (mAw M 17 k (mnc (mA M 16 k) (mA M 15 k))) 800 ((mI M 800) + 1)) 18 k ((mI M 800) + 1)) else (mAw M 17 k (mnc (mA M 16 k) (mA M 15 k))))
theorem Fr_shF {M M0 : sM} {k : Nat} {s : Bool} (fr : Fr M M0) : Fr (shF M k s) M0 := (Fr_cond (Fr_A rfl (Fr_I rfl (Fr_A rfl fr))) (Fr_A rfl fr))
set_option maxHeartbeats 4000000 in
set_option maxRecDepth 10000 in
theorem r155 {t : sT} {Q : sRs → sT → Prop} {M : sM} {n : Nat} {k : Nat} {s : Bool}
    (hM : rp t = M)
    (hc : Cn t)
    (hR : Ri M n)
    (hk : k < n)
    (q : ∀ t', rp t' = shF M k s → cp t' = cp t → sp t' = sp t → Q (.inl none) t') :
    X 155 0 [.inr (.inr (12, (some 0))), .inl (io k), .inl (bz s)] [] t Q := by
  refine x_aload_n (pc' := 1) rfl rfl rfl rfl rfl ?_
  refine x_gR (pc' := 4) (r := (some 17)) rfl rfl rfl (kR_793_0 hc) ?_
  refine x_iload_n (pc' := 5) rfl rfl rfl ?_
  refine x_aload_n (pc' := 6) rfl rfl rfl rfl rfl ?_
  refine x_gR (pc' := 9) (r := (some 16)) rfl rfl rfl (kR_792_0 hc) ?_
  refine x_iload_n (pc' := 10) rfl rfl rfl ?_
  refine x_iald (pc' := 11) (N := 200) (x := (mA M 16 k)) rfl rfl rfl (kN_21_16 hc) (io_in (p := k) (N := 200) (Nat.lt_of_lt_of_le hk (gn200 hR)) (by decide)) (Eq.trans (congrArg (sA t 21 16) (nn_io (p := k) (Nat.lt_trans (Nat.lt_of_lt_of_le hk (gn200 hR)) (by decide)))) (gA hM rfl)) ?_
  refine x_aload_n (pc' := 12) rfl rfl rfl rfl rfl ?_
  refine x_gR (pc' := 15) (r := (some 15)) rfl rfl rfl (kR_791_0 hc) ?_
  refine x_iload_n (pc' := 16) rfl rfl rfl ?_
  refine x_iald (pc' := 17) (N := 200) (x := (mA M 15 k)) rfl rfl rfl (kN_21_15 hc) (io_in (p := k) (N := 200) (Nat.lt_of_lt_of_le hk (gn200 hR)) (by decide)) (Eq.trans (congrArg (sA t 21 15) (nn_io (p := k) (Nat.lt_trans (Nat.lt_of_lt_of_le hk (gn200 hR)) (by decide)))) (gA hM rfl)) ?_
  have J1 : X 155 35 [.inr (.inr (12, (some 0))), .inl (io k), .inl (bz s)] [.inl (mnc (mA M 16 k) (mA M 15 k)), .inl (io k), .inr (.inr (21, (some 17)))] t Q := by
    refine x_iast (pc' := 36) (N := 200) (p := k) rfl rfl rfl (kN_21_17 hc) (io_in (p := k) (N := 200) (Nat.lt_of_lt_of_le hk (gn200 hR)) (by decide)) (nn_io (p := k) (Nat.lt_trans (Nat.lt_of_lt_of_le hk (gn200 hR)) (by decide))) ?_
    refine x_iload_n (pc' := 37) rfl rfl rfl ?_
    refine x_ifeq_z (a' := 60) (pc' := 40) (z := s) rfl rfl rfl (fun q3 => ?_) (fun q3 => ?_)
    · refine x_ret rfl ?_
      exact (q _ (((rp_A rfl).trans (congrArg (fun z => mAw z 17 k (mnc (mA M 16 k) (mA M 15 k))) hM)).trans (by simp only [shF, q3, cd_t, cd_f])) cp_A (sp_A rfl))
    · refine x_aload_n (pc' := 41) rfl rfl rfl rfl rfl ?_
      refine x_dup (pc' := 42) rfl rfl rfl ?_
      refine x_gI (pc' := 45) (x := (mI M 800)) rfl rfl rfl (Eq.trans (b := sI t 800 0) rfl (gI hM rfl)) ?_
      refine x_iconst (pc' := 46) rfl rfl ?_
      refine x_iadd (pc' := 47) (z := ((mI M 800) + 1)) rfl rfl rfl ?_
      refine x_pI (pc' := 50) rfl rfl rfl ?_
      refine x_aload_n (pc' := 51) rfl rfl rfl rfl rfl ?_
      refine x_gR (pc' := 54) (r := (some 18)) rfl rfl rfl (Eq.trans (b := sR t 794 0) rfl (kR_794_0 hc)) ?_
      refine x_iload_n (pc' := 55) rfl rfl rfl ?_
      refine x_aload_n (pc' := 56) rfl rfl rfl rfl rfl ?_
      refine x_gI (pc' := 59) (x := ((mI M 800) + 1)) rfl rfl rfl sI_s ?_
      refine x_iast (pc' := 60) (N := 200) (p := k) rfl rfl rfl (Eq.trans rdNI (Eq.trans rdNA (kN_21_18 hc))) (io_in (p := k) (N := 200) (Nat.lt_of_lt_of_le hk (gn200 hR)) (by decide)) (nn_io (p := k) (Nat.lt_trans (Nat.lt_of_lt_of_le hk (gn200 hR)) (by decide))) ?_
      refine x_ret rfl ?_
      exact (q _ (((rp_A rfl).trans (congrArg (fun z => mAw z 18 k ((mI M 800) + 1)) ((rp_I rfl).trans (congrArg (fun z => mIw z 800 ((mI M 800) + 1)) ((rp_A rfl).trans (congrArg (fun z => mAw z 17 k (mnc (mA M 16 k) (mA M 15 k))) hM)))))).trans (by simp only [shF, q3, cd_t, cd_f])) (cp_A.trans ((cp_I rfl).trans cp_A)) ((sp_A rfl).trans ((sp_I rfl).trans (sp_A rfl))))
  refine x_icmp_n (a' := 29) (pc' := 20) (z := decide ((mA M 16 k) < (mA M 15 k))) rfl rfl rfl (ik_ge _ _) (fun q1 => ?_) (fun q1 => ?_)
  · refine x_aload_n (pc' := 30) rfl rfl rfl rfl rfl ?_
    refine x_gR (pc' := 33) (r := (some 15)) rfl rfl rfl (kR_791_0 hc) ?_
    refine x_iload_n (pc' := 34) rfl rfl rfl ?_
    refine x_iald (pc' := 35) (N := 200) (x := (mA M 15 k)) rfl rfl rfl (kN_21_15 hc) (io_in (p := k) (N := 200) (Nat.lt_of_lt_of_le hk (gn200 hR)) (by decide)) (Eq.trans (congrArg (sA t 21 15) (nn_io (p := k) (Nat.lt_trans (Nat.lt_of_lt_of_le hk (gn200 hR)) (by decide)))) (gA hM rfl)) ?_
    ((try rw [mnc_f q1] at J1); (try simp only [cd_t, cd_f, nt_t, nt_f, an_t, an_f, or_t, or_f] at J1); (try simp only [cd_t, cd_f, nt_t, nt_f, an_t, an_f, or_t, or_f]); exact J1)
  · refine x_aload_n (pc' := 21) rfl rfl rfl rfl rfl ?_
    refine x_gR (pc' := 24) (r := (some 16)) rfl rfl rfl (kR_792_0 hc) ?_
    refine x_iload_n (pc' := 25) rfl rfl rfl ?_
    refine x_iald (pc' := 26) (N := 200) (x := (mA M 16 k)) rfl rfl rfl (kN_21_16 hc) (io_in (p := k) (N := 200) (Nat.lt_of_lt_of_le hk (gn200 hR)) (by decide)) (Eq.trans (congrArg (sA t 21 16) (nn_io (p := k) (Nat.lt_trans (Nat.lt_of_lt_of_le hk (gn200 hR)) (by decide)))) (gA hM rfl)) ?_
    refine x_goto (pc' := 35) rfl rfl ?_
    ((try rw [mnc_t q1] at J1); (try simp only [cd_t, cd_f, nt_t, nt_f, an_t, an_f, or_t, or_f] at J1); (try simp only [cd_t, cd_f, nt_t, nt_f, an_t, an_f, or_t, or_f]); exact J1)
def cnF (M : sM) (k : Nat) : sM := (mAw (mAw M 19 k 3) 17 k 0)
theorem Fr_cnF {M M0 : sM} {k : Nat} (fr : Fr M M0) : Fr (cnF M k) M0 := (Fr_A rfl (Fr_A rfl fr))
set_option maxHeartbeats 4000000 in
set_option maxRecDepth 10000 in
theorem r156 {t : sT} {Q : sRs → sT → Prop} {M : sM} {n : Nat} {k : Nat}
    (hM : rp t = M)
    (hc : Cn t)
    (hR : Ri M n)
    (hk : k < n)
    (q : ∀ t', rp t' = cnF M k → cp t' = cp t → sp t' = sp t → Q (.inl none) t') :
    X 156 0 [.inr (.inr (12, (some 0))), .inl (io k)] [] t Q := by
  refine x_aload_n (pc' := 1) rfl rfl rfl rfl rfl ?_
  refine x_gR (pc' := 4) (r := (some 19)) rfl rfl rfl (kR_795_0 hc) ?_
  refine x_iload_n (pc' := 5) rfl rfl rfl ?_
  refine x_iconst (pc' := 6) rfl rfl ?_
  refine x_iast (pc' := 7) (N := 200) (p := k) rfl rfl rfl (kN_21_19 hc) (io_in (p := k) (N := 200) (Nat.lt_of_lt_of_le hk (gn200 hR)) (by decide)) (nn_io (p := k) (Nat.lt_trans (Nat.lt_of_lt_of_le hk (gn200 hR)) (by decide))) ?_
  refine x_aload_n (pc' := 8) rfl rfl rfl rfl rfl ?_
  refine x_gR (pc' := 11) (r := (some 17)) rfl rfl rfl (Eq.trans (b := sR t 793 0) rfl (kR_793_0 hc)) ?_
  refine x_iload_n (pc' := 12) rfl rfl rfl ?_
  refine x_iconst (pc' := 13) rfl rfl ?_
  refine x_iast (pc' := 14) (N := 200) (p := k) rfl rfl rfl (Eq.trans rdNA (kN_21_17 hc)) (io_in (p := k) (N := 200) (Nat.lt_of_lt_of_le hk (gn200 hR)) (by decide)) (nn_io (p := k) (Nat.lt_trans (Nat.lt_of_lt_of_le hk (gn200 hR)) (by decide))) ?_
  refine x_ret rfl ?_
  exact (q _ ((rp_A rfl).trans (congrArg (fun z => mAw z 17 k 0) ((rp_A rfl).trans (congrArg (fun z => mAw z 19 k 3) hM)))) (cp_A.trans cp_A) ((sp_A rfl).trans (sp_A rfl)))
def rsF (M : sM) (k : Nat) : sM := (shF (mAw M 19 k 1) k true)
theorem Fr_rsF {M M0 : sM} {k : Nat} (fr : Fr M M0) : Fr (rsF M k) M0 := (Fr_shF (Fr_A rfl fr))
set_option maxHeartbeats 4000000 in
set_option maxRecDepth 10000 in
theorem r154 {t : sT} {Q : sRs → sT → Prop} {M : sM} {n : Nat} {k : Nat}
    (hM : rp t = M)
    (hc : Cn t)
    (hR : Ri M n)
    (hk : k < n)
    (q : ∀ t', rp t' = rsF M k → cp t' = cp t → sp t' = sp t → Q (.inl none) t') :
    X 154 0 [.inr (.inr (12, (some 0))), .inl (io k)] [] t Q := by
  refine x_aload_n (pc' := 1) rfl rfl rfl rfl rfl ?_
  refine x_gR (pc' := 4) (r := (some 19)) rfl rfl rfl (kR_795_0 hc) ?_
  refine x_iload_n (pc' := 5) rfl rfl rfl ?_
  refine x_iconst (pc' := 6) rfl rfl ?_
  refine x_iast (pc' := 7) (N := 200) (p := k) rfl rfl rfl (kN_21_19 hc) (io_in (p := k) (N := 200) (Nat.lt_of_lt_of_le hk (gn200 hR)) (by decide)) (nn_io (p := k) (Nat.lt_trans (Nat.lt_of_lt_of_le hk (gn200 hR)) (by decide))) ?_
  refine x_aload_n (pc' := 8) rfl rfl rfl rfl rfl ?_
  refine x_iload_n (pc' := 9) rfl rfl rfl ?_
  refine x_iconst (pc' := 10) rfl rfl ?_
  refine x_cv (ls0 := [_, _, _]) (rest := []) rfl rfl rfl rfl rfl ?_
  refine r155 (k := k) (s := true) ((rp_A rfl).trans (congrArg (fun z => mAw z 19 k 1) hM)) (Cn_cp cp_A hc) (Fr.ri (Fr_A rfl (Fr.refl _)) hR) hk (fun u1 h1 c1 s1 => ?_)
  refine sK_v (pc' := 13) rfl ?_
  refine x_ret rfl ?_
  exact (q _ h1 (c1.trans cp_A) (Eq.trans s1 (sp_A rfl)))
def ofF (M : sM) (k : Nat) (a : Int32) : sM := (bif (decide (((mA M 15 k) - a) = 0)) then (mAw (mAw (mAw (mAw M 15 k ((mA M 15 k) - a)) 26 (oM M k) ((mA M 26 (oM M k)) + (bif (mB M 4 k) then a else 0))) 19 k 2) 17 k 0) else (mAw (mAw M 15 k ((mA M 15 k) - a)) 26 (oM M k) ((mA M 26 (oM M k)) + (bif (mB M 4 k) then a else 0))))
theorem Fr_ofF {M M0 : sM} {k : Nat} {a : Int32} (fr : Fr M M0) : Fr (ofF M k a) M0 := (Fr_cond (Fr_A rfl (Fr_A rfl (Fr_A rfl (Fr_A rfl fr)))) (Fr_A rfl (Fr_A rfl fr)))
set_option maxHeartbeats 4000000 in
set_option maxRecDepth 10000 in
theorem r167 {t : sT} {Q : sRs → sT → Prop} {M : sM} {n : Nat} {k : Nat} {a : Int32}
    (hM : rp t = M)
    (hc : Cn t)
    (hR : Ri M n)
    (hk : k < n)
    (q : ∀ t', rp t' = ofF M k a → cp t' = cp t → sp t' = sp t → Q (.inl none) t') :
    X 167 0 [.inr (.inr (12, (some 0))), .inl (io k), .inl a] [] t Q := by
  refine x_aload_n (pc' := 1) rfl rfl rfl rfl rfl ?_
  refine x_gR (pc' := 4) (r := (some 15)) rfl rfl rfl (kR_791_0 hc) ?_
  refine x_iload_n (pc' := 5) rfl rfl rfl ?_
  refine x_dup2 (pc' := 6) rfl rfl rfl rfl ?_
  refine x_iald (pc' := 7) (N := 200) (x := (mA M 15 k)) rfl rfl rfl (kN_21_15 hc) (io_in (p := k) (N := 200) (Nat.lt_of_lt_of_le hk (gn200 hR)) (by decide)) (Eq.trans (congrArg (sA t 21 15) (nn_io (p := k) (Nat.lt_trans (Nat.lt_of_lt_of_le hk (gn200 hR)) (by decide)))) (gA hM rfl)) ?_
  refine x_iload_n (pc' := 8) rfl rfl rfl ?_
  refine x_isub (pc' := 9) (z := ((mA M 15 k) - a)) rfl rfl rfl ?_
  refine x_iast (pc' := 10) (N := 200) (p := k) rfl rfl rfl (kN_21_15 hc) (io_in (p := k) (N := 200) (Nat.lt_of_lt_of_le hk (gn200 hR)) (by decide)) (nn_io (p := k) (Nat.lt_trans (Nat.lt_of_lt_of_le hk (gn200 hR)) (by decide))) ?_
  refine x_aload_n (pc' := 11) rfl rfl rfl rfl rfl ?_
  refine x_gR (pc' := 14) (r := (some 26)) rfl rfl rfl (Eq.trans (b := sR t 808 0) rfl (kR_808_0 hc)) ?_
  refine x_aload_n (pc' := 15) rfl rfl rfl rfl rfl ?_
  refine x_gR (pc' := 18) (r := (some 12)) rfl rfl rfl (Eq.trans (b := sR t 787 0) rfl (kR_787_0 hc)) ?_
  refine x_iload_n (pc' := 19) rfl rfl rfl ?_
  refine x_iald (pc' := 20) (N := 200) (x := (io (oM M k))) rfl rfl rfl (Eq.trans rdNA (kN_21_12 hc)) (io_in (p := k) (N := 200) (Nat.lt_of_lt_of_le hk (gn200 hR)) (by decide)) (Eq.trans (congrArg (sA (sAw t 21 15 k ((mA M 15 k) - a)) 21 12) (nn_io (p := k) (Nat.lt_trans (Nat.lt_of_lt_of_le hk (gn200 hR)) (by decide)))) (Eq.trans (b := sA t 21 12 k) rfl (gF12 hM (Fr.refl _) hR hk))) ?_
  refine x_dup2 (pc' := 21) rfl rfl rfl rfl ?_
  refine x_iald (pc' := 22) (N := 6) (x := (mA M 26 (oM M k))) rfl rfl rfl (Eq.trans rdNA (kN_21_26 hc)) (io_in (p := (oM M k)) (N := 6) (gm6 hR hk) (by decide)) (Eq.trans (congrArg (sA (sAw t 21 15 k ((mA M 15 k) - a)) 21 26) (nn_io (p := (oM M k)) (Nat.lt_trans (gm6 hR hk) (by decide)))) (Eq.trans (b := sA t 21 26 (oM M k)) rfl (gA hM rfl))) ?_
  refine x_aload_n (pc' := 23) rfl rfl rfl rfl rfl ?_
  refine x_gR (pc' := 26) (r := (some 4)) rfl rfl rfl (Eq.trans (b := sR t 796 0) rfl (kR_796_0 hc)) ?_
  refine x_iload_n (pc' := 27) rfl rfl rfl ?_
  refine x_bald (pc' := 28) (N := 200) (z := (mB M 4 k)) rfl rfl (Eq.trans rdNA (kN_22_4 hc)) (io_in (p := k) (N := 200) (Nat.lt_of_lt_of_le hk (gn200 hR)) (by decide)) (Eq.trans (congrArg (sB (sAw t 21 15 k ((mA M 15 k) - a)) 22 4) (nn_io (p := k) (Nat.lt_trans (Nat.lt_of_lt_of_le hk (gn200 hR)) (by decide)))) (Eq.trans (b := sB t 22 4 k) rfl (gB hM))) ?_
  have J1 : X 167 36 [.inr (.inr (12, (some 0))), .inl (io k), .inl a] [.inl (bif (mB M 4 k) then a else 0), .inl (mA M 26 (oM M k)), .inl (io (oM M k)), .inr (.inr (21, (some 26)))] (sAw t 21 15 k ((mA M 15 k) - a)) Q := by
    refine x_iadd (pc' := 37) (z := ((mA M 26 (oM M k)) + (bif (mB M 4 k) then a else 0))) rfl rfl rfl ?_
    refine x_iast (pc' := 38) (N := 6) (p := (oM M k)) rfl rfl rfl (Eq.trans rdNA (kN_21_26 hc)) (io_in (p := (oM M k)) (N := 6) (gm6 hR hk) (by decide)) (nn_io (p := (oM M k)) (Nat.lt_trans (gm6 hR hk) (by decide))) ?_
    refine x_aload_n (pc' := 39) rfl rfl rfl rfl rfl ?_
    refine x_gR (pc' := 42) (r := (some 15)) rfl rfl rfl (Eq.trans (b := sR t 791 0) rfl (kR_791_0 hc)) ?_
    refine x_iload_n (pc' := 43) rfl rfl rfl ?_
    refine x_iald (pc' := 44) (N := 200) (x := ((mA M 15 k) - a)) rfl rfl rfl (Eq.trans rdNA (Eq.trans rdNA (kN_21_15 hc))) (io_in (p := k) (N := 200) (Nat.lt_of_lt_of_le hk (gn200 hR)) (by decide)) (Eq.trans (congrArg (sA (sAw (sAw t 21 15 k ((mA M 15 k) - a)) 21 26 (oM M k) ((mA M 26 (oM M k)) + (bif (mB M 4 k) then a else 0))) 21 15) (nn_io (p := k) (Nat.lt_trans (Nat.lt_of_lt_of_le hk (gn200 hR)) (by decide)))) (Eq.trans (rdA_o rfl) sA_s)) ?_
    refine x_if_n (a' := 61) (pc' := 47) (z := decide (((mA M 15 k) - a) = 0)) rfl rfl rfl (ik_ne _ _) (fun q3 => ?_) (fun q3 => ?_)
    · refine x_ret rfl ?_
      exact (q _ (((rp_A rfl).trans (congrArg (fun z => mAw z 26 (oM M k) ((mA M 26 (oM M k)) + (bif (mB M 4 k) then a else 0))) ((rp_A rfl).trans (congrArg (fun z => mAw z 15 k ((mA M 15 k) - a)) hM)))).trans (by simp only [ofF, q3, cd_t, cd_f])) (cp_A.trans cp_A) ((sp_A rfl).trans (sp_A rfl)))
    · refine x_aload_n (pc' := 48) rfl rfl rfl rfl rfl ?_
      refine x_gR (pc' := 51) (r := (some 19)) rfl rfl rfl (Eq.trans (b := sR t 795 0) rfl (kR_795_0 hc)) ?_
      refine x_iload_n (pc' := 52) rfl rfl rfl ?_
      refine x_iconst (pc' := 53) rfl rfl ?_
      refine x_iast (pc' := 54) (N := 200) (p := k) rfl rfl rfl (Eq.trans rdNA (Eq.trans rdNA (kN_21_19 hc))) (io_in (p := k) (N := 200) (Nat.lt_of_lt_of_le hk (gn200 hR)) (by decide)) (nn_io (p := k) (Nat.lt_trans (Nat.lt_of_lt_of_le hk (gn200 hR)) (by decide))) ?_
      refine x_aload_n (pc' := 55) rfl rfl rfl rfl rfl ?_
      refine x_gR (pc' := 58) (r := (some 17)) rfl rfl rfl (Eq.trans (b := sR t 793 0) rfl (kR_793_0 hc)) ?_
      refine x_iload_n (pc' := 59) rfl rfl rfl ?_
      refine x_iconst (pc' := 60) rfl rfl ?_
      refine x_iast (pc' := 61) (N := 200) (p := k) rfl rfl rfl (Eq.trans rdNA (Eq.trans rdNA (Eq.trans rdNA (kN_21_17 hc)))) (io_in (p := k) (N := 200) (Nat.lt_of_lt_of_le hk (gn200 hR)) (by decide)) (nn_io (p := k) (Nat.lt_trans (Nat.lt_of_lt_of_le hk (gn200 hR)) (by decide))) ?_
      refine x_ret rfl ?_
      exact (q _ (((rp_A rfl).trans (congrArg (fun z => mAw z 17 k 0) ((rp_A rfl).trans (congrArg (fun z => mAw z 19 k 2) ((rp_A rfl).trans (congrArg (fun z => mAw z 26 (oM M k) ((mA M 26 (oM M k)) + (bif (mB M 4 k) then a else 0))) ((rp_A rfl).trans (congrArg (fun z => mAw z 15 k ((mA M 15 k) - a)) hM)))))))).trans (by simp only [ofF, q3, cd_t, cd_f])) (cp_A.trans (cp_A.trans (cp_A.trans cp_A))) ((sp_A rfl).trans ((sp_A rfl).trans ((sp_A rfl).trans (sp_A rfl)))))
  refine x_ifeq_z (a' := 35) (pc' := 31) (z := (mB M 4 k)) rfl rfl rfl (fun q1 => ?_) (fun q1 => ?_)
  · refine x_iconst (pc' := 36) rfl rfl ?_
    ((try rw [q1] at J1); (try rw [q1]); (try simp only [cd_t, cd_f, nt_t, nt_f, an_t, an_f, or_t, or_f] at J1); (try simp only [cd_t, cd_f, nt_t, nt_f, an_t, an_f, or_t, or_f]); exact J1)
  · refine x_iload_n (pc' := 32) rfl rfl rfl ?_
    refine x_goto (pc' := 36) rfl rfl ?_
    ((try rw [q1] at J1); (try rw [q1]); (try simp only [cd_t, cd_f, nt_t, nt_f, an_t, an_f, or_t, or_f] at J1); (try simp only [cd_t, cd_f, nt_t, nt_f, an_t, an_f, or_t, or_f]); exact J1)
def flF (M : sM) (k : Nat) (a : Int32) : sM := (bif (decide (0 < (mA (ofF (mAw M 17 k ((mA M 17 k) - a)) k a) 15 k))) then (bif (decide ((mA (ofF (mAw M 17 k ((mA M 17 k) - a)) k a) 17 k) = 0)) then (shF (ofF (mAw M 17 k ((mA M 17 k) - a)) k a) k true) else (ofF (mAw M 17 k ((mA M 17 k) - a)) k a)) else (ofF (mAw M 17 k ((mA M 17 k) - a)) k a))
theorem Fr_flF {M M0 : sM} {k : Nat} {a : Int32} (fr : Fr M M0) : Fr (flF M k a) M0 := (Fr_cond (Fr_cond (Fr_shF (Fr_ofF (Fr_A rfl fr))) (Fr_ofF (Fr_A rfl fr))) (Fr_ofF (Fr_A rfl fr)))
set_option maxHeartbeats 4000000 in
set_option maxRecDepth 10000 in
theorem r168 {t : sT} {Q : sRs → sT → Prop} {M : sM} {n : Nat} {k : Nat} {a : Int32}
    (hM : rp t = M)
    (hc : Cn t)
    (hR : Ri M n)
    (hk : k < n)
    (q : ∀ t', rp t' = flF M k a → cp t' = cp t → sp t' = sp t → Q (.inl none) t') :
    X 168 0 [.inr (.inr (12, (some 0))), .inl (io k), .inl a] [] t Q := by
  refine x_aload_n (pc' := 1) rfl rfl rfl rfl rfl ?_
  refine x_gR (pc' := 4) (r := (some 17)) rfl rfl rfl (kR_793_0 hc) ?_
  refine x_iload_n (pc' := 5) rfl rfl rfl ?_
  refine x_dup2 (pc' := 6) rfl rfl rfl rfl ?_
  refine x_iald (pc' := 7) (N := 200) (x := (mA M 17 k)) rfl rfl rfl (kN_21_17 hc) (io_in (p := k) (N := 200) (Nat.lt_of_lt_of_le hk (gn200 hR)) (by decide)) (Eq.trans (congrArg (sA t 21 17) (nn_io (p := k) (Nat.lt_trans (Nat.lt_of_lt_of_le hk (gn200 hR)) (by decide)))) (gA hM rfl)) ?_
  refine x_iload_n (pc' := 8) rfl rfl rfl ?_
  refine x_isub (pc' := 9) (z := ((mA M 17 k) - a)) rfl rfl rfl ?_
  refine x_iast (pc' := 10) (N := 200) (p := k) rfl rfl rfl (kN_21_17 hc) (io_in (p := k) (N := 200) (Nat.lt_of_lt_of_le hk (gn200 hR)) (by decide)) (nn_io (p := k) (Nat.lt_trans (Nat.lt_of_lt_of_le hk (gn200 hR)) (by decide))) ?_
  refine x_aload_n (pc' := 11) rfl rfl rfl rfl rfl ?_
  refine x_iload_n (pc' := 12) rfl rfl rfl ?_
  refine x_iload_n (pc' := 13) rfl rfl rfl ?_
  refine x_cv (ls0 := [_, _, _]) (rest := []) rfl rfl rfl rfl rfl ?_
  refine r167 (k := k) (a := a) ((rp_A rfl).trans (congrArg (fun z => mAw z 17 k ((mA M 17 k) - a)) hM)) (Cn_cp cp_A hc) (Fr.ri (Fr_A rfl (Fr.refl _)) hR) hk (fun u1 h1 c1 s1 => ?_)
  refine sK_v (pc' := 16) rfl ?_
  refine x_aload_n (pc' := 17) rfl rfl rfl rfl rfl ?_
  refine x_gR (pc' := 20) (r := (some 15)) rfl rfl rfl (kR_791_0 (Cn_cp (c1.trans cp_A) hc)) ?_
  refine x_iload_n (pc' := 21) rfl rfl rfl ?_
  refine x_iald (pc' := 22) (N := 200) (x := (mA (ofF (mAw M 17 k ((mA M 17 k) - a)) k a) 15 k)) rfl rfl rfl (kN_21_15 (Cn_cp (c1.trans cp_A) hc)) (io_in (p := k) (N := 200) (Nat.lt_of_lt_of_le hk (gn200 hR)) (by decide)) (Eq.trans (congrArg (sA u1 21 15) (nn_io (p := k) (Nat.lt_trans (Nat.lt_of_lt_of_le hk (gn200 hR)) (by decide)))) (gA h1 rfl)) ?_
  refine x_if_n (a' := 40) (pc' := 25) (z := decide (0 < (mA (ofF (mAw M 17 k ((mA M 17 k) - a)) k a) 15 k))) rfl rfl rfl (ik_le _ _) (fun q1 => ?_) (fun q1 => ?_)
  · refine x_ret rfl ?_
    exact (q _ (h1.trans (by simp only [flF, q1, cd_t, cd_f])) (c1.trans cp_A) (Eq.trans s1 (sp_A rfl)))
  · refine x_aload_n (pc' := 26) rfl rfl rfl rfl rfl ?_
    refine x_gR (pc' := 29) (r := (some 17)) rfl rfl rfl (kR_793_0 (Cn_cp (c1.trans cp_A) hc)) ?_
    refine x_iload_n (pc' := 30) rfl rfl rfl ?_
    refine x_iald (pc' := 31) (N := 200) (x := (mA (ofF (mAw M 17 k ((mA M 17 k) - a)) k a) 17 k)) rfl rfl rfl (kN_21_17 (Cn_cp (c1.trans cp_A) hc)) (io_in (p := k) (N := 200) (Nat.lt_of_lt_of_le hk (gn200 hR)) (by decide)) (Eq.trans (congrArg (sA u1 21 17) (nn_io (p := k) (Nat.lt_trans (Nat.lt_of_lt_of_le hk (gn200 hR)) (by decide)))) (gA h1 rfl)) ?_
    refine x_if_n (a' := 40) (pc' := 34) (z := decide ((mA (ofF (mAw M 17 k ((mA M 17 k) - a)) k a) 17 k) = 0)) rfl rfl rfl (ik_ne _ _) (fun q2 => ?_) (fun q2 => ?_)
    · refine x_ret rfl ?_
      exact (q _ (h1.trans (by simp only [flF, q1, q2, cd_t, cd_f])) (c1.trans cp_A) (Eq.trans s1 (sp_A rfl)))
    · refine x_aload_n (pc' := 35) rfl rfl rfl rfl rfl ?_
      refine x_iload_n (pc' := 36) rfl rfl rfl ?_
      refine x_iconst (pc' := 37) rfl rfl ?_
      refine x_cv (ls0 := [_, _, _]) (rest := []) rfl rfl rfl rfl rfl ?_
      refine r155 (k := k) (s := true) h1 (Cn_cp (c1.trans cp_A) hc) (Fr.ri (Fr_ofF (Fr_A rfl (Fr.refl _))) hR) hk (fun u4 h4 c4 s4 => ?_)
      refine sK_v (pc' := 40) rfl ?_
      refine x_ret rfl ?_
      exact (q _ (h4.trans (by simp only [flF, q1, q2, cd_t, cd_f])) (c4.trans (c1.trans cp_A)) (Eq.trans s4 (Eq.trans s1 (sp_A rfl))))
def nqF (M : sM) : sM := (mAw (mAw (mAw (mAw (mAw (mAw M 26 0 0) 26 1 0) 26 2 0) 26 3 0) 26 4 0) 26 5 0)
theorem Fr_nqF {M M0 : sM} (fr : Fr M M0) : Fr (nqF M) M0 := (Fr_A rfl (Fr_A rfl (Fr_A rfl (Fr_A rfl (Fr_A rfl (Fr_A rfl fr))))))
set_option maxHeartbeats 4000000 in
set_option maxRecDepth 10000 in
theorem r179 {t : sT} {Q : sRs → sT → Prop} {M : sM} {n : Nat}
    (hM : rp t = M)
    (hc : Cn t)
    (hR : Ri M n)
    (q : ∀ t', rp t' = nqF M → cp t' = cp t → sp t' = sp t → Q (.inl none) t') :
    X 179 0 [.inr (.inr (12, (some 0))), sJk] [] t Q := by
  refine x_iconst (pc' := 1) rfl rfl ?_
  refine x_istore_n (pc' := 2) (ls' := [_, _]) rfl rfl rfl rfl ?_
  refine x_iload_n (pc' := 3) rfl rfl rfl ?_
  refine x_bipush (pc' := 5) rfl rfl ?_
  refine x_icmp (a' := 21) (pc' := 8) (z := false) rfl rfl rfl (by decide) (fun h => by cases h) (fun _ => ?_)
  refine x_aload_n (pc' := 9) rfl rfl rfl rfl rfl ?_
  refine x_gR (pc' := 12) (r := (some 26)) rfl rfl rfl (kR_808_0 hc) ?_
  refine x_iload_n (pc' := 13) rfl rfl rfl ?_
  refine x_iconst (pc' := 14) rfl rfl ?_
  refine x_iast (pc' := 15) (N := 6) (p := 0) rfl rfl rfl (kN_21_26 hc) (io_in (p := 0) (N := 6) (by decide) (by decide)) (nn_io (p := 0) (by decide)) ?_
  refine x_iinc (pc' := 18) (y := 1) (ls' := [_, _]) rfl rfl rfl rfl rfl ?_
  refine x_goto (pc' := 2) rfl rfl ?_
  refine x_iload_n (pc' := 3) rfl rfl rfl ?_
  refine x_bipush (pc' := 5) rfl rfl ?_
  refine x_icmp (a' := 21) (pc' := 8) (z := false) rfl rfl rfl (by decide) (fun h => by cases h) (fun _ => ?_)
  refine x_aload_n (pc' := 9) rfl rfl rfl rfl rfl ?_
  refine x_gR (pc' := 12) (r := (some 26)) rfl rfl rfl (Eq.trans (b := sR t 808 0) rfl (kR_808_0 hc)) ?_
  refine x_iload_n (pc' := 13) rfl rfl rfl ?_
  refine x_iconst (pc' := 14) rfl rfl ?_
  refine x_iast (pc' := 15) (N := 6) (p := 1) rfl rfl rfl (Eq.trans rdNA (kN_21_26 hc)) (io_in (p := 1) (N := 6) (by decide) (by decide)) (nn_io (p := 1) (by decide)) ?_
  refine x_iinc (pc' := 18) (y := 2) (ls' := [_, _]) rfl rfl rfl rfl rfl ?_
  refine x_goto (pc' := 2) rfl rfl ?_
  refine x_iload_n (pc' := 3) rfl rfl rfl ?_
  refine x_bipush (pc' := 5) rfl rfl ?_
  refine x_icmp (a' := 21) (pc' := 8) (z := false) rfl rfl rfl (by decide) (fun h => by cases h) (fun _ => ?_)
  refine x_aload_n (pc' := 9) rfl rfl rfl rfl rfl ?_
  refine x_gR (pc' := 12) (r := (some 26)) rfl rfl rfl (Eq.trans (b := sR t 808 0) rfl (kR_808_0 hc)) ?_
  refine x_iload_n (pc' := 13) rfl rfl rfl ?_
  refine x_iconst (pc' := 14) rfl rfl ?_
  refine x_iast (pc' := 15) (N := 6) (p := 2) rfl rfl rfl (Eq.trans rdNA (Eq.trans rdNA (kN_21_26 hc))) (io_in (p := 2) (N := 6) (by decide) (by decide)) (nn_io (p := 2) (by decide)) ?_
  refine x_iinc (pc' := 18) (y := 3) (ls' := [_, _]) rfl rfl rfl rfl rfl ?_
  refine x_goto (pc' := 2) rfl rfl ?_
  refine x_iload_n (pc' := 3) rfl rfl rfl ?_
  refine x_bipush (pc' := 5) rfl rfl ?_
  refine x_icmp (a' := 21) (pc' := 8) (z := false) rfl rfl rfl (by decide) (fun h => by cases h) (fun _ => ?_)
  refine x_aload_n (pc' := 9) rfl rfl rfl rfl rfl ?_
  refine x_gR (pc' := 12) (r := (some 26)) rfl rfl rfl (Eq.trans (b := sR t 808 0) rfl (kR_808_0 hc)) ?_
  refine x_iload_n (pc' := 13) rfl rfl rfl ?_
  refine x_iconst (pc' := 14) rfl rfl ?_
  refine x_iast (pc' := 15) (N := 6) (p := 3) rfl rfl rfl (Eq.trans rdNA (Eq.trans rdNA (Eq.trans rdNA (kN_21_26 hc)))) (io_in (p := 3) (N := 6) (by decide) (by decide)) (nn_io (p := 3) (by decide)) ?_
  refine x_iinc (pc' := 18) (y := 4) (ls' := [_, _]) rfl rfl rfl rfl rfl ?_
  refine x_goto (pc' := 2) rfl rfl ?_
  refine x_iload_n (pc' := 3) rfl rfl rfl ?_
  refine x_bipush (pc' := 5) rfl rfl ?_
  refine x_icmp (a' := 21) (pc' := 8) (z := false) rfl rfl rfl (by decide) (fun h => by cases h) (fun _ => ?_)
  refine x_aload_n (pc' := 9) rfl rfl rfl rfl rfl ?_
  refine x_gR (pc' := 12) (r := (some 26)) rfl rfl rfl (Eq.trans (b := sR t 808 0) rfl (kR_808_0 hc)) ?_
  refine x_iload_n (pc' := 13) rfl rfl rfl ?_
  refine x_iconst (pc' := 14) rfl rfl ?_
  refine x_iast (pc' := 15) (N := 6) (p := 4) rfl rfl rfl (Eq.trans rdNA (Eq.trans rdNA (Eq.trans rdNA (Eq.trans rdNA (kN_21_26 hc))))) (io_in (p := 4) (N := 6) (by decide) (by decide)) (nn_io (p := 4) (by decide)) ?_
  refine x_iinc (pc' := 18) (y := 5) (ls' := [_, _]) rfl rfl rfl rfl rfl ?_
  refine x_goto (pc' := 2) rfl rfl ?_
  refine x_iload_n (pc' := 3) rfl rfl rfl ?_
  refine x_bipush (pc' := 5) rfl rfl ?_
  refine x_icmp (a' := 21) (pc' := 8) (z := false) rfl rfl rfl (by decide) (fun h => by cases h) (fun _ => ?_)
  refine x_aload_n (pc' := 9) rfl rfl rfl rfl rfl ?_
  refine x_gR (pc' := 12) (r := (some 26)) rfl rfl rfl (Eq.trans (b := sR t 808 0) rfl (kR_808_0 hc)) ?_
  refine x_iload_n (pc' := 13) rfl rfl rfl ?_
  refine x_iconst (pc' := 14) rfl rfl ?_
  refine x_iast (pc' := 15) (N := 6) (p := 5) rfl rfl rfl (Eq.trans rdNA (Eq.trans rdNA (Eq.trans rdNA (Eq.trans rdNA (Eq.trans rdNA (kN_21_26 hc)))))) (io_in (p := 5) (N := 6) (by decide) (by decide)) (nn_io (p := 5) (by decide)) ?_
  refine x_iinc (pc' := 18) (y := 6) (ls' := [_, _]) rfl rfl rfl rfl rfl ?_
  refine x_goto (pc' := 2) rfl rfl ?_
  refine x_iload_n (pc' := 3) rfl rfl rfl ?_
  refine x_bipush (pc' := 5) rfl rfl ?_
  refine x_icmp (a' := 21) (pc' := 8) (z := true) rfl rfl rfl (by decide) (fun _ => ?_) (fun h => by cases h)
  refine x_ret rfl ?_
  exact (q _ ((rp_A rfl).trans (congrArg (fun z => mAw z 26 5 0) ((rp_A rfl).trans (congrArg (fun z => mAw z 26 4 0) ((rp_A rfl).trans (congrArg (fun z => mAw z 26 3 0) ((rp_A rfl).trans (congrArg (fun z => mAw z 26 2 0) ((rp_A rfl).trans (congrArg (fun z => mAw z 26 1 0) ((rp_A rfl).trans (congrArg (fun z => mAw z 26 0 0) hM)))))))))))) (cp_A.trans (cp_A.trans (cp_A.trans (cp_A.trans (cp_A.trans cp_A))))) ((sp_A rfl).trans ((sp_A rfl).trans ((sp_A rfl).trans ((sp_A rfl).trans ((sp_A rfl).trans (sp_A rfl)))))))
def reS (M : sM) (n : Nat) (b : Nat) (p : Int32) (k : Nat) : sM := (mBw M 6 k ((mB M 6 k) || ((decide ((mA M 19 k) = 0)) && ((decide ((oB M k) = b)) && (bif (mB M 3 k) then (!(decide (p < (mA M 20 k)))) else (!(decide ((mA M 20 k) < p))))))))
def reL (M : sM) (n : Nat) (b : Nat) (p : Int32) : Nat → sM
  | 0 => M
  | k + 1 => reS (reL M n b p k) n b p k
theorem Fr_reS {M M0 : sM} {n : Nat} {b : Nat} {p : Int32} {k : Nat} (fr : Fr M M0) : Fr (reS M n b p k) M0 := (Fr_B rfl fr)
theorem Fr_reL {M M0 : sM} {n : Nat} {b : Nat} {p : Int32} (fr : Fr M M0) : ∀ k, Fr (reL M n b p k) M0
  | 0 => fr
  | k + 1 => Fr_reS (Fr_reL fr k)
set_option maxHeartbeats 4000000 in
set_option maxRecDepth 10000 in
theorem r166_2_b {t : sT} {Q : sRs → sT → Prop} {M : sM} {n : Nat} {k : Nat} {b : Nat} {p : Int32} {d0 : sV}
    (hM : rp t = M)
    (hc : Cn t)
    (hR : Ri M n)
    (hk : k < n)
    (hb : b < 5)
    (q : ∀ (t' : sT) (e0 : sV), rp t' = (reS M n b p k) → cp t' = cp t → sp t' = sp t → X 166 2 [.inr (.inr (12, (some 0))), .inl (io b), .inl p, .inl (io (k + 1)), e0] [] t' Q) :
    X 166 2 [.inr (.inr (12, (some 0))), .inl (io b), .inl p, .inl (io k), d0] [] t Q := by
  refine x_iload_n (pc' := 3) rfl rfl rfl ?_
  refine x_aload_n (pc' := 4) rfl rfl rfl rfl rfl ?_
  refine x_gI (pc' := 7) (x := (io n)) rfl rfl rfl (gFn hM (Fr.refl _) hR) ?_
  refine x_icmp_n (a' := 99) (pc' := 10) (z := decide (k < n)) rfl rfl rfl (ic_gen (p := k) (q := n) (Nat.lt_trans hk (gn31 hR)) (gn31 hR)) (fun h => absurd hk (of_decide_eq_false h)) (fun _ => ?_)
  refine x_aload_n (pc' := 11) rfl rfl rfl rfl rfl ?_
  refine x_gR (pc' := 14) (r := (some 19)) rfl rfl rfl (kR_795_0 hc) ?_
  refine x_iload_n (pc' := 15) rfl rfl rfl ?_
  refine x_iald (pc' := 16) (N := 200) (x := (mA M 19 k)) rfl rfl rfl (kN_21_19 hc) (io_in (p := k) (N := 200) (Nat.lt_of_lt_of_le hk (gn200 hR)) (by decide)) (Eq.trans (congrArg (sA t 21 19) (nn_io (p := k) (Nat.lt_trans (Nat.lt_of_lt_of_le hk (gn200 hR)) (by decide)))) (gA hM rfl)) ?_
  have J6 : X 166 66 [.inr (.inr (12, (some 0))), .inl (io b), .inl p, .inl (io k), d0] [.inl (bz ((decide ((mA M 19 k) = 0)) && ((decide ((oB M k) = b)) && (bif (mB M 3 k) then (!(decide (p < (mA M 20 k)))) else (!(decide ((mA M 20 k) < p)))))))] t Q := by
    refine x_istore (pc' := 68) (ls' := [_, _, _, _, _]) rfl rfl rfl rfl ?_
    refine x_aload_n (pc' := 69) rfl rfl rfl rfl rfl ?_
    refine x_gR (pc' := 72) (r := (some 6)) rfl rfl rfl (kR_799_0 hc) ?_
    refine x_iload_n (pc' := 73) rfl rfl rfl ?_
    refine x_aload_n (pc' := 74) rfl rfl rfl rfl rfl ?_
    refine x_gR (pc' := 77) (r := (some 6)) rfl rfl rfl (kR_799_0 hc) ?_
    refine x_iload_n (pc' := 78) rfl rfl rfl ?_
    refine x_bald (pc' := 79) (N := 200) (z := (mB M 6 k)) rfl rfl (kN_22_6 hc) (io_in (p := k) (N := 200) (Nat.lt_of_lt_of_le hk (gn200 hR)) (by decide)) (Eq.trans (congrArg (sB t 22 6) (nn_io (p := k) (Nat.lt_trans (Nat.lt_of_lt_of_le hk (gn200 hR)) (by decide)))) (gB hM)) ?_
    have J9 : X 166 92 [.inr (.inr (12, (some 0))), .inl (io b), .inl p, .inl (io k), .inl (bz ((decide ((mA M 19 k) = 0)) && ((decide ((oB M k) = b)) && (bif (mB M 3 k) then (!(decide (p < (mA M 20 k)))) else (!(decide ((mA M 20 k) < p)))))))] [.inl (bz ((mB M 6 k) || ((decide ((mA M 19 k) = 0)) && ((decide ((oB M k) = b)) && (bif (mB M 3 k) then (!(decide (p < (mA M 20 k)))) else (!(decide ((mA M 20 k) < p)))))))), .inl (io k), .inr (.inr (22, (some 6)))] t Q := by
      refine x_bast (pc' := 93) (N := 200) (p := k) (z := ((mB M 6 k) || ((decide ((mA M 19 k) = 0)) && ((decide ((oB M k) = b)) && (bif (mB M 3 k) then (!(decide (p < (mA M 20 k)))) else (!(decide ((mA M 20 k) < p)))))))) rfl rfl (kN_22_6 hc) (io_in (p := k) (N := 200) (Nat.lt_of_lt_of_le hk (gn200 hR)) (by decide)) (nn_io (p := k) (Nat.lt_trans (Nat.lt_of_lt_of_le hk (gn200 hR)) (by decide))) rfl ?_
      refine x_iinc (pc' := 96) (y := (io (k + 1))) (ls' := [_, _, _, _, _]) rfl rfl rfl (io_add k 1) rfl ?_
      refine x_goto (pc' := 2) rfl rfl ?_
      exact q (sBw t 22 6 k ((mB M 6 k) || ((decide ((mA M 19 k) = 0)) && ((decide ((oB M k) = b)) && (bif (mB M 3 k) then (!(decide (p < (mA M 20 k)))) else (!(decide ((mA M 20 k) < p)))))))) (.inl (bz ((decide ((mA M 19 k) = 0)) && ((decide ((oB M k) = b)) && (bif (mB M 3 k) then (!(decide (p < (mA M 20 k)))) else (!(decide ((mA M 20 k) < p)))))))) (rp_B.trans (congrArg (fun z => mBw z 6 k ((mB M 6 k) || ((decide ((mA M 19 k) = 0)) && ((decide ((oB M k) = b)) && (bif (mB M 3 k) then (!(decide (p < (mA M 20 k)))) else (!(decide ((mA M 20 k) < p)))))))) hM)) cp_B sp_B
    refine x_ifne_z (a' := 87) (pc' := 82) (z := (mB M 6 k)) rfl rfl rfl (fun q8 => ?_) (fun q8 => ?_)
    · refine x_iconst (pc' := 88) rfl rfl ?_
      refine x_goto (pc' := 92) rfl rfl ?_
      ((try rw [q8] at J9); (try rw [q8]); (try simp only [cd_t, cd_f, nt_t, nt_f, an_t, an_f, or_t, or_f] at J9); (try simp only [cd_t, cd_f, nt_t, nt_f, an_t, an_f, or_t, or_f]); exact J9)
    · refine x_iload (pc' := 84) rfl rfl rfl ?_
      refine x_ifeq_z (a' := 91) (pc' := 87) (z := ((decide ((mA M 19 k) = 0)) && ((decide ((oB M k) = b)) && (bif (mB M 3 k) then (!(decide (p < (mA M 20 k)))) else (!(decide ((mA M 20 k) < p))))))) rfl rfl rfl (fun q9 => ?_) (fun q9 => ?_)
      · refine x_iconst (pc' := 92) rfl rfl ?_
        ((try rw [q9] at J9); (try rw [q9]); (try rw [q8] at J9); (try rw [q8]); (try simp only [cd_t, cd_f, nt_t, nt_f, an_t, an_f, or_t, or_f] at J9); (try simp only [cd_t, cd_f, nt_t, nt_f, an_t, an_f, or_t, or_f]); exact J9)
      · refine x_iconst (pc' := 88) rfl rfl ?_
        refine x_goto (pc' := 92) rfl rfl ?_
        ((try rw [q9] at J9); (try rw [q9]); (try rw [q8] at J9); (try rw [q8]); (try simp only [cd_t, cd_f, nt_t, nt_f, an_t, an_f, or_t, or_f] at J9); (try simp only [cd_t, cd_f, nt_t, nt_f, an_t, an_f, or_t, or_f]); exact J9)
  refine x_if_n (a' := 65) (pc' := 19) (z := decide ((mA M 19 k) = 0)) rfl rfl rfl (ik_ne _ _) (fun q2 => ?_) (fun q2 => ?_)
  · refine x_iconst (pc' := 66) rfl rfl ?_
    ((try rw [q2] at J6); (try rw [q2]); (try simp only [cd_t, cd_f, nt_t, nt_f, an_t, an_f, or_t, or_f] at J6); (try simp only [cd_t, cd_f, nt_t, nt_f, an_t, an_f, or_t, or_f]); exact J6)
  · refine x_aload_n (pc' := 20) rfl rfl rfl rfl rfl ?_
    refine x_gR (pc' := 23) (r := (some 13)) rfl rfl rfl (kR_788_0 hc) ?_
    refine x_iload_n (pc' := 24) rfl rfl rfl ?_
    refine x_iald (pc' := 25) (N := 200) (x := (io (oB M k))) rfl rfl rfl (kN_21_13 hc) (io_in (p := k) (N := 200) (Nat.lt_of_lt_of_le hk (gn200 hR)) (by decide)) (Eq.trans (congrArg (sA t 21 13) (nn_io (p := k) (Nat.lt_trans (Nat.lt_of_lt_of_le hk (gn200 hR)) (by decide)))) (gF13 hM (Fr.refl _) hR hk)) ?_
    refine x_iload_n (pc' := 26) rfl rfl rfl ?_
    refine x_icmp_n (a' := 65) (pc' := 29) (z := decide ((oB M k) = b)) rfl rfl rfl (ic_nen (p := (oB M k)) (q := b) (gb31 (gb5 hR hk)) (gb31 hb)) (fun q3 => ?_) (fun q3 => ?_)
    · refine x_iconst (pc' := 66) rfl rfl ?_
      ((try rw [q3] at J6); (try rw [q3]); (try rw [q2] at J6); (try rw [q2]); (try simp only [cd_t, cd_f, nt_t, nt_f, an_t, an_f, or_t, or_f] at J6); (try simp only [cd_t, cd_f, nt_t, nt_f, an_t, an_f, or_t, or_f]); exact J6)
    · refine x_aload_n (pc' := 30) rfl rfl rfl rfl rfl ?_
      refine x_gR (pc' := 33) (r := (some 3)) rfl rfl rfl (kR_789_0 hc) ?_
      refine x_iload_n (pc' := 34) rfl rfl rfl ?_
      refine x_bald (pc' := 35) (N := 200) (z := (mB M 3 k)) rfl rfl (kN_22_3 hc) (io_in (p := k) (N := 200) (Nat.lt_of_lt_of_le hk (gn200 hR)) (by decide)) (Eq.trans (congrArg (sB t 22 3) (nn_io (p := k) (Nat.lt_trans (Nat.lt_of_lt_of_le hk (gn200 hR)) (by decide)))) (gF3 hM (Fr.refl _))) ?_
      refine x_ifeq_z (a' := 51) (pc' := 38) (z := (mB M 3 k)) rfl rfl rfl (fun q4 => ?_) (fun q4 => ?_)
      · refine x_iload_n (pc' := 52) rfl rfl rfl ?_
        refine x_aload_n (pc' := 53) rfl rfl rfl rfl rfl ?_
        refine x_gR (pc' := 56) (r := (some 20)) rfl rfl rfl (kR_798_0 hc) ?_
        refine x_iload_n (pc' := 57) rfl rfl rfl ?_
        refine x_iald (pc' := 58) (N := 200) (x := (mA M 20 k)) rfl rfl rfl (kN_21_20 hc) (io_in (p := k) (N := 200) (Nat.lt_of_lt_of_le hk (gn200 hR)) (by decide)) (Eq.trans (congrArg (sA t 21 20) (nn_io (p := k) (Nat.lt_trans (Nat.lt_of_lt_of_le hk (gn200 hR)) (by decide)))) (gA hM rfl)) ?_
        refine x_icmp (a' := 65) (pc' := 61) (z := decide ((mA M 20 k) < p)) rfl rfl rfl rfl (fun q5 => ?_) (fun q5 => ?_)
        · refine x_iconst (pc' := 66) rfl rfl ?_
          ((try rw [q5] at J6); (try rw [q5]); (try rw [q4] at J6); (try rw [q4]); (try rw [q3] at J6); (try rw [q3]); (try rw [q2] at J6); (try rw [q2]); (try simp only [cd_t, cd_f, nt_t, nt_f, an_t, an_f, or_t, or_f] at J6); (try simp only [cd_t, cd_f, nt_t, nt_f, an_t, an_f, or_t, or_f]); exact J6)
        · refine x_iconst (pc' := 62) rfl rfl ?_
          refine x_goto (pc' := 66) rfl rfl ?_
          ((try rw [q5] at J6); (try rw [q5]); (try rw [q4] at J6); (try rw [q4]); (try rw [q3] at J6); (try rw [q3]); (try rw [q2] at J6); (try rw [q2]); (try simp only [cd_t, cd_f, nt_t, nt_f, an_t, an_f, or_t, or_f] at J6); (try simp only [cd_t, cd_f, nt_t, nt_f, an_t, an_f, or_t, or_f]); exact J6)
      · refine x_iload_n (pc' := 39) rfl rfl rfl ?_
        refine x_aload_n (pc' := 40) rfl rfl rfl rfl rfl ?_
        refine x_gR (pc' := 43) (r := (some 20)) rfl rfl rfl (kR_798_0 hc) ?_
        refine x_iload_n (pc' := 44) rfl rfl rfl ?_
        refine x_iald (pc' := 45) (N := 200) (x := (mA M 20 k)) rfl rfl rfl (kN_21_20 hc) (io_in (p := k) (N := 200) (Nat.lt_of_lt_of_le hk (gn200 hR)) (by decide)) (Eq.trans (congrArg (sA t 21 20) (nn_io (p := k) (Nat.lt_trans (Nat.lt_of_lt_of_le hk (gn200 hR)) (by decide)))) (gA hM rfl)) ?_
        refine x_icmp (a' := 65) (pc' := 48) (z := decide (p < (mA M 20 k))) rfl rfl rfl rfl (fun q6 => ?_) (fun q6 => ?_)
        · refine x_iconst (pc' := 66) rfl rfl ?_
          ((try rw [q6] at J6); (try rw [q6]); (try rw [q4] at J6); (try rw [q4]); (try rw [q3] at J6); (try rw [q3]); (try rw [q2] at J6); (try rw [q2]); (try simp only [cd_t, cd_f, nt_t, nt_f, an_t, an_f, or_t, or_f] at J6); (try simp only [cd_t, cd_f, nt_t, nt_f, an_t, an_f, or_t, or_f]); exact J6)
        · refine x_goto (pc' := 61) rfl rfl ?_
          refine x_iconst (pc' := 62) rfl rfl ?_
          refine x_goto (pc' := 66) rfl rfl ?_
          ((try rw [q6] at J6); (try rw [q6]); (try rw [q4] at J6); (try rw [q4]); (try rw [q3] at J6); (try rw [q3]); (try rw [q2] at J6); (try rw [q2]); (try simp only [cd_t, cd_f, nt_t, nt_f, an_t, an_f, or_t, or_f] at J6); (try simp only [cd_t, cd_f, nt_t, nt_f, an_t, an_f, or_t, or_f]); exact J6)
set_option maxHeartbeats 4000000 in
set_option maxRecDepth 10000 in
theorem r166_2 {t : sT} {Q : sRs → sT → Prop} {M : sM} {n : Nat} {b : Nat} {p : Int32} {d0 : sV}
    (hM : rp t = M)
    (hc : Cn t)
    (hR : Ri M n)
    (hb : b < 5)
    (q : ∀ (t' : sT) (e0 : sV), rp t' = (reL M n b p n) → cp t' = cp t → sp t' = sp t → X 166 2 [.inr (.inr (12, (some 0))), .inl (io b), .inl p, .inl (io n), e0] [] t' Q) :
    X 166 2 [.inr (.inr (12, (some 0))), .inl (io b), .inl p, .inl (io 0), d0] [] t Q := by
  refine lp0 (n := n) (fun k ls u => (∃ e0, ls = [.inr (.inr (12, (some 0))), .inl (io b), .inl p, .inl (io k), e0]) ∧ rp u = (reL M n b p k) ∧ cp u = cp t ∧ sp u = sp t) ⟨⟨_, rfl⟩, hM, rfl, rfl⟩ ?_ ?_
  · rintro k ls u hk ⟨⟨e0, rfl⟩, hm9, hp9, hq9⟩ ih
    refine r166_2_b hm9 (Cn_cp hp9 hc) (Fr.ri (Fr_reL (Fr.refl _) k) hR) hk hb ?_
    intro t' x0' h1 h2 h3
    exact ih _ _ ⟨⟨_, rfl⟩, h1, h2.trans hp9, h3.trans hq9⟩
  · rintro ls u ⟨⟨e0, rfl⟩, hm9, hp9, hq9⟩
    exact q u e0 hm9 hp9 hq9
def reF (M : sM) (n : Nat) (b : Nat) (p : Int32) : sM := (reL M n b p n)
theorem Fr_reF {M M0 : sM} {n : Nat} {b : Nat} {p : Int32} (fr : Fr M M0) : Fr (reF M n b p) M0 := (Fr_reL fr _)
set_option maxHeartbeats 4000000 in
set_option maxRecDepth 10000 in
theorem r166 {t : sT} {Q : sRs → sT → Prop} {M : sM} {n : Nat} {b : Nat} {p : Int32}
    (hM : rp t = M)
    (hc : Cn t)
    (hR : Ri M n)
    (hb : b < 5)
    (q : ∀ t', rp t' = reF M n b p → cp t' = cp t → sp t' = sp t → Q (.inl none) t') :
    X 166 0 [.inr (.inr (12, (some 0))), .inl (io b), .inl p, sJk, sJk] [] t Q := by
  refine x_iconst (pc' := 1) rfl rfl ?_
  refine x_istore_n (pc' := 2) (ls' := [_, _, _, _, _]) rfl rfl rfl rfl ?_
  refine r166_2 (b := b) (p := p) hM hc (Fr.ri (Fr.refl _) hR) hb (fun u1 y1_0 h1 c1 s1 => ?_)
  refine x_iload_n (pc' := 3) rfl rfl rfl ?_
  refine x_aload_n (pc' := 4) rfl rfl rfl rfl rfl ?_
  refine x_gI (pc' := 7) (x := (io n)) rfl rfl rfl (gFn h1 (Fr_reL (Fr.refl _) _) hR) ?_
  refine x_icmp_n (a' := 99) (pc' := 10) (z := decide (n < n)) rfl rfl rfl (ic_gen (p := n) (q := n) (gn31 hR) (gn31 hR)) (fun _ => ?_) (fun h => absurd (of_decide_eq_true h) (by first | decide | omega | simp))
  refine x_ret rfl ?_
  exact (q _ h1 c1 s1)
def poS (M : sM) (n : Nat) (k : Nat) : sM := (bif ((decide (0 < (mA M 8 (oM M k)))) && (decide ((mA M 8 (oM M k)) < (mA M 26 (oM M k))))) then (bif (mB M 4 k) then (bif (decide ((mA M 19 k) = 1)) then (mAw (mAw M 19 k 3) 17 k 0) else M) else M) else M)
def poL (M : sM) (n : Nat) : Nat → sM
  | 0 => M
  | k + 1 => poS (poL M n k) n k
theorem Fr_poS {M M0 : sM} {n : Nat} {k : Nat} (fr : Fr M M0) : Fr (poS M n k) M0 := (Fr_cond (Fr_cond (Fr_cond (Fr_A rfl (Fr_A rfl fr)) fr) fr) fr)
theorem Fr_poL {M M0 : sM} {n : Nat} (fr : Fr M M0) : ∀ k, Fr (poL M n k) M0
  | 0 => fr
  | k + 1 => Fr_poS (Fr_poL fr k)
set_option maxHeartbeats 4000000 in
set_option maxRecDepth 10000 in
theorem r177_2_b {t : sT} {Q : sRs → sT → Prop} {M : sM} {n : Nat} {k : Nat} {d0 : sV} {d1 : sV}
    (hM : rp t = M)
    (hc : Cn t)
    (hR : Ri M n)
    (hk : k < n)
    (q : ∀ (t' : sT) (e0 : sV) (e1 : sV), rp t' = (poS M n k) → cp t' = cp t → sp t' = sp t → X 177 2 [.inr (.inr (12, (some 0))), .inl (io (k + 1)), e0, e1] [] t' Q) :
    X 177 2 [.inr (.inr (12, (some 0))), .inl (io k), d0, d1] [] t Q := by
  refine x_iload_n (pc' := 3) rfl rfl rfl ?_
  refine x_aload_n (pc' := 4) rfl rfl rfl rfl rfl ?_
  refine x_gI (pc' := 7) (x := (io n)) rfl rfl rfl (gFn hM (Fr.refl _) hR) ?_
  refine x_icmp_n (a' := 81) (pc' := 10) (z := decide (k < n)) rfl rfl rfl (ic_gen (p := k) (q := n) (Nat.lt_trans hk (gn31 hR)) (gn31 hR)) (fun h => absurd hk (of_decide_eq_false h)) (fun _ => ?_)
  refine x_aload_n (pc' := 11) rfl rfl rfl rfl rfl ?_
  refine x_gR (pc' := 14) (r := (some 12)) rfl rfl rfl (kR_787_0 hc) ?_
  refine x_iload_n (pc' := 15) rfl rfl rfl ?_
  refine x_iald (pc' := 16) (N := 200) (x := (io (oM M k))) rfl rfl rfl (kN_21_12 hc) (io_in (p := k) (N := 200) (Nat.lt_of_lt_of_le hk (gn200 hR)) (by decide)) (Eq.trans (congrArg (sA t 21 12) (nn_io (p := k) (Nat.lt_trans (Nat.lt_of_lt_of_le hk (gn200 hR)) (by decide)))) (gF12 hM (Fr.refl _) hR hk)) ?_
  refine x_istore_n (pc' := 17) (ls' := [_, _, _, _]) rfl rfl rfl rfl ?_
  refine x_aload_n (pc' := 18) rfl rfl rfl rfl rfl ?_
  refine x_gR (pc' := 21) (r := (some 8)) rfl rfl rfl (kR_778_0 hc) ?_
  refine x_iload_n (pc' := 22) rfl rfl rfl ?_
  refine x_iald (pc' := 23) (N := 6) (x := (mA M 8 (oM M k))) rfl rfl rfl (kN_21_8 hc) (io_in (p := (oM M k)) (N := 6) (gm6 hR hk) (by decide)) (Eq.trans (congrArg (sA t 21 8) (nn_io (p := (oM M k)) (Nat.lt_trans (gm6 hR hk) (by decide)))) (gA hM rfl)) ?_
  have J3 : X 177 46 [.inr (.inr (12, (some 0))), .inl (io k), .inl (io (oM M k)), d1] [.inl (bz ((decide (0 < (mA M 8 (oM M k)))) && (decide ((mA M 8 (oM M k)) < (mA M 26 (oM M k))))))] t Q := by
    refine x_istore_n (pc' := 47) (ls' := [_, _, _, _]) rfl rfl rfl rfl ?_
    refine x_iload_n (pc' := 48) rfl rfl rfl ?_
    refine x_ifeq_z (a' := 75) (pc' := 51) (z := ((decide (0 < (mA M 8 (oM M k)))) && (decide ((mA M 8 (oM M k)) < (mA M 26 (oM M k)))))) rfl rfl rfl (fun q5 => ?_) (fun q5 => ?_)
    · refine x_iinc (pc' := 78) (y := (io (k + 1))) (ls' := [_, _, _, _]) rfl rfl rfl (io_add k 1) rfl ?_
      refine x_goto (pc' := 2) rfl rfl ?_
      exact q t (.inl (io (oM M k))) (.inl (bz ((decide (0 < (mA M 8 (oM M k)))) && (decide ((mA M 8 (oM M k)) < (mA M 26 (oM M k))))))) (hM.trans (by simp only [poS, q5, cd_t, cd_f])) rfl rfl
    · refine x_aload_n (pc' := 52) rfl rfl rfl rfl rfl ?_
      refine x_gR (pc' := 55) (r := (some 4)) rfl rfl rfl (kR_796_0 hc) ?_
      refine x_iload_n (pc' := 56) rfl rfl rfl ?_
      refine x_bald (pc' := 57) (N := 200) (z := (mB M 4 k)) rfl rfl (kN_22_4 hc) (io_in (p := k) (N := 200) (Nat.lt_of_lt_of_le hk (gn200 hR)) (by decide)) (Eq.trans (congrArg (sB t 22 4) (nn_io (p := k) (Nat.lt_trans (Nat.lt_of_lt_of_le hk (gn200 hR)) (by decide)))) (gB hM)) ?_
      refine x_ifeq_z (a' := 75) (pc' := 60) (z := (mB M 4 k)) rfl rfl rfl (fun q6 => ?_) (fun q6 => ?_)
      · refine x_iinc (pc' := 78) (y := (io (k + 1))) (ls' := [_, _, _, _]) rfl rfl rfl (io_add k 1) rfl ?_
        refine x_goto (pc' := 2) rfl rfl ?_
        exact q t (.inl (io (oM M k))) (.inl (bz ((decide (0 < (mA M 8 (oM M k)))) && (decide ((mA M 8 (oM M k)) < (mA M 26 (oM M k))))))) (hM.trans (by simp only [poS, q5, q6, cd_t, cd_f])) rfl rfl
      · refine x_aload_n (pc' := 61) rfl rfl rfl rfl rfl ?_
        refine x_gR (pc' := 64) (r := (some 19)) rfl rfl rfl (kR_795_0 hc) ?_
        refine x_iload_n (pc' := 65) rfl rfl rfl ?_
        refine x_iald (pc' := 66) (N := 200) (x := (mA M 19 k)) rfl rfl rfl (kN_21_19 hc) (io_in (p := k) (N := 200) (Nat.lt_of_lt_of_le hk (gn200 hR)) (by decide)) (Eq.trans (congrArg (sA t 21 19) (nn_io (p := k) (Nat.lt_trans (Nat.lt_of_lt_of_le hk (gn200 hR)) (by decide)))) (gA hM rfl)) ?_
        refine x_iconst (pc' := 67) rfl rfl ?_
        refine x_icmp_n (a' := 75) (pc' := 70) (z := decide ((mA M 19 k) = 1)) rfl rfl rfl (ik_ne _ _) (fun q7 => ?_) (fun q7 => ?_)
        · refine x_iinc (pc' := 78) (y := (io (k + 1))) (ls' := [_, _, _, _]) rfl rfl rfl (io_add k 1) rfl ?_
          refine x_goto (pc' := 2) rfl rfl ?_
          exact q t (.inl (io (oM M k))) (.inl (bz ((decide (0 < (mA M 8 (oM M k)))) && (decide ((mA M 8 (oM M k)) < (mA M 26 (oM M k))))))) (hM.trans (by simp only [poS, q5, q6, q7, cd_t, cd_f])) rfl rfl
        · refine x_aload_n (pc' := 71) rfl rfl rfl rfl rfl ?_
          refine x_iload_n (pc' := 72) rfl rfl rfl ?_
          refine x_cv (ls0 := [_, _]) (rest := []) rfl rfl rfl rfl rfl ?_
          refine x_aload_n (pc' := 1) rfl rfl rfl rfl rfl ?_
          refine x_gR (pc' := 4) (r := (some 19)) rfl rfl rfl (kR_795_0 hc) ?_
          refine x_iload_n (pc' := 5) rfl rfl rfl ?_
          refine x_iconst (pc' := 6) rfl rfl ?_
          refine x_iast (pc' := 7) (N := 200) (p := k) rfl rfl rfl (kN_21_19 hc) (io_in (p := k) (N := 200) (Nat.lt_of_lt_of_le hk (gn200 hR)) (by decide)) (nn_io (p := k) (Nat.lt_trans (Nat.lt_of_lt_of_le hk (gn200 hR)) (by decide))) ?_
          refine x_aload_n (pc' := 8) rfl rfl rfl rfl rfl ?_
          refine x_gR (pc' := 11) (r := (some 17)) rfl rfl rfl (Eq.trans (b := sR t 793 0) rfl (kR_793_0 hc)) ?_
          refine x_iload_n (pc' := 12) rfl rfl rfl ?_
          refine x_iconst (pc' := 13) rfl rfl ?_
          refine x_iast (pc' := 14) (N := 200) (p := k) rfl rfl rfl (Eq.trans rdNA (kN_21_17 hc)) (io_in (p := k) (N := 200) (Nat.lt_of_lt_of_le hk (gn200 hR)) (by decide)) (nn_io (p := k) (Nat.lt_trans (Nat.lt_of_lt_of_le hk (gn200 hR)) (by decide))) ?_
          refine x_ret rfl ?_
          refine sK_v (pc' := 75) rfl ?_
          refine x_iinc (pc' := 78) (y := (io (k + 1))) (ls' := [_, _, _, _]) rfl rfl rfl (io_add k 1) rfl ?_
          refine x_goto (pc' := 2) rfl rfl ?_
          exact q (sAw (sAw t 21 19 k 3) 21 17 k 0) (.inl (io (oM M k))) (.inl (bz ((decide (0 < (mA M 8 (oM M k)))) && (decide ((mA M 8 (oM M k)) < (mA M 26 (oM M k))))))) (((rp_A rfl).trans (congrArg (fun z => mAw z 17 k 0) ((rp_A rfl).trans (congrArg (fun z => mAw z 19 k 3) hM)))).trans (by simp only [poS, q5, q6, q7, cd_t, cd_f])) (cp_A.trans cp_A) ((sp_A rfl).trans (sp_A rfl))
  refine x_if_n (a' := 45) (pc' := 26) (z := decide (0 < (mA M 8 (oM M k)))) rfl rfl rfl (ik_le _ _) (fun q2 => ?_) (fun q2 => ?_)
  · refine x_iconst (pc' := 46) rfl rfl ?_
    ((try rw [q2] at J3); (try rw [q2]); (try simp only [cd_t, cd_f, nt_t, nt_f, an_t, an_f, or_t, or_f] at J3); (try simp only [cd_t, cd_f, nt_t, nt_f, an_t, an_f, or_t, or_f]); exact J3)
  · refine x_aload_n (pc' := 27) rfl rfl rfl rfl rfl ?_
    refine x_gR (pc' := 30) (r := (some 26)) rfl rfl rfl (kR_808_0 hc) ?_
    refine x_iload_n (pc' := 31) rfl rfl rfl ?_
    refine x_iald (pc' := 32) (N := 6) (x := (mA M 26 (oM M k))) rfl rfl rfl (kN_21_26 hc) (io_in (p := (oM M k)) (N := 6) (gm6 hR hk) (by decide)) (Eq.trans (congrArg (sA t 21 26) (nn_io (p := (oM M k)) (Nat.lt_trans (gm6 hR hk) (by decide)))) (gA hM rfl)) ?_
    refine x_aload_n (pc' := 33) rfl rfl rfl rfl rfl ?_
    refine x_gR (pc' := 36) (r := (some 8)) rfl rfl rfl (kR_778_0 hc) ?_
    refine x_iload_n (pc' := 37) rfl rfl rfl ?_
    refine x_iald (pc' := 38) (N := 6) (x := (mA M 8 (oM M k))) rfl rfl rfl (kN_21_8 hc) (io_in (p := (oM M k)) (N := 6) (gm6 hR hk) (by decide)) (Eq.trans (congrArg (sA t 21 8) (nn_io (p := (oM M k)) (Nat.lt_trans (gm6 hR hk) (by decide)))) (gA hM rfl)) ?_
    refine x_icmp_n (a' := 45) (pc' := 41) (z := decide ((mA M 8 (oM M k)) < (mA M 26 (oM M k)))) rfl rfl rfl (ik_le _ _) (fun q3 => ?_) (fun q3 => ?_)
    · refine x_iconst (pc' := 46) rfl rfl ?_
      ((try rw [q3] at J3); (try rw [q3]); (try rw [q2] at J3); (try rw [q2]); (try simp only [cd_t, cd_f, nt_t, nt_f, an_t, an_f, or_t, or_f] at J3); (try simp only [cd_t, cd_f, nt_t, nt_f, an_t, an_f, or_t, or_f]); exact J3)
    · refine x_iconst (pc' := 42) rfl rfl ?_
      refine x_goto (pc' := 46) rfl rfl ?_
      ((try rw [q3] at J3); (try rw [q3]); (try rw [q2] at J3); (try rw [q2]); (try simp only [cd_t, cd_f, nt_t, nt_f, an_t, an_f, or_t, or_f] at J3); (try simp only [cd_t, cd_f, nt_t, nt_f, an_t, an_f, or_t, or_f]); exact J3)
set_option maxHeartbeats 4000000 in
set_option maxRecDepth 10000 in
theorem r177_2 {t : sT} {Q : sRs → sT → Prop} {M : sM} {n : Nat} {d0 : sV} {d1 : sV}
    (hM : rp t = M)
    (hc : Cn t)
    (hR : Ri M n)
    (q : ∀ (t' : sT) (e0 : sV) (e1 : sV), rp t' = (poL M n n) → cp t' = cp t → sp t' = sp t → X 177 2 [.inr (.inr (12, (some 0))), .inl (io n), e0, e1] [] t' Q) :
    X 177 2 [.inr (.inr (12, (some 0))), .inl (io 0), d0, d1] [] t Q := by
  refine lp0 (n := n) (fun k ls u => (∃ e0 e1, ls = [.inr (.inr (12, (some 0))), .inl (io k), e0, e1]) ∧ rp u = (poL M n k) ∧ cp u = cp t ∧ sp u = sp t) ⟨⟨_, _, rfl⟩, hM, rfl, rfl⟩ ?_ ?_
  · rintro k ls u hk ⟨⟨e0, e1, rfl⟩, hm9, hp9, hq9⟩ ih
    refine r177_2_b hm9 (Cn_cp hp9 hc) (Fr.ri (Fr_poL (Fr.refl _) k) hR) hk ?_
    intro t' x0' x1' h1 h2 h3
    exact ih _ _ ⟨⟨_, _, rfl⟩, h1, h2.trans hp9, h3.trans hq9⟩
  · rintro ls u ⟨⟨e0, e1, rfl⟩, hm9, hp9, hq9⟩
    exact q u e0 e1 hm9 hp9 hq9
def poF (M : sM) (n : Nat) : sM := (poL M n n)
theorem Fr_poF {M M0 : sM} {n : Nat} (fr : Fr M M0) : Fr (poF M n) M0 := (Fr_poL fr _)
set_option maxHeartbeats 4000000 in
set_option maxRecDepth 10000 in
theorem r177 {t : sT} {Q : sRs → sT → Prop} {M : sM} {n : Nat}
    (hM : rp t = M)
    (hc : Cn t)
    (hR : Ri M n)
    (q : ∀ t', rp t' = poF M n → cp t' = cp t → sp t' = sp t → Q (.inl none) t') :
    X 177 0 [.inr (.inr (12, (some 0))), sJk, sJk, sJk] [] t Q := by
  refine x_iconst (pc' := 1) rfl rfl ?_
  refine x_istore_n (pc' := 2) (ls' := [_, _, _, _]) rfl rfl rfl rfl ?_
  refine r177_2 hM hc (Fr.ri (Fr.refl _) hR) (fun u1 y1_0 y1_1 h1 c1 s1 => ?_)
  refine x_iload_n (pc' := 3) rfl rfl rfl ?_
  refine x_aload_n (pc' := 4) rfl rfl rfl rfl rfl ?_
  refine x_gI (pc' := 7) (x := (io n)) rfl rfl rfl (gFn h1 (Fr_poL (Fr.refl _) _) hR) ?_
  refine x_icmp_n (a' := 81) (pc' := 10) (z := decide (n < n)) rfl rfl rfl (ic_gen (p := n) (q := n) (gn31 hR) (gn31 hR)) (fun _ => ?_) (fun h => absurd (of_decide_eq_true h) (by first | decide | omega | simp))
  refine x_ret rfl ?_
  exact (q _ h1 c1 s1)
