/-! the class's methods (printed by clsgen.py) -/
set_option maxHeartbeats 4000000 in
set_option maxRecDepth 10000 in
theorem c30x {t : sT} {M : sM} {n T o : Nat} {Q : sRs → sT → Prop} (hM : Rl t M n T) (hc : Sf t M n T) (hR : Ri M n) (hC : rlC t M n) (ho : o < n) (q : ∀ t', Rl t' (cnF M o) n T → np t' = np t → rlC t' (cnF M o) n → Q (.inl none) t') : X 30 0 [.inr (.inr (4, (some 0))), .inr (.inr (8, (some o)))] [] t Q := c30 hM hc hR ho hC q
def wa_S (M : sM) (n : Nat) (m : Nat) (k : Nat) : sM := (bif (decide (oM M k = m)) then (bif ((decide ((mA M 19 k) = 0)) || (decide ((mA M 19 k) = 1))) then (cnF M k) else M) else M)
def wa_L (M : sM) (n : Nat) (m : Nat) : Nat → sM
  | 0 => M
  | k + 1 => wa_S (wa_L M n m k) n m k
theorem Fc_wa_S {M M0 : sM} {n : Nat} {m : Nat} {k : Nat} (fr : Fc M M0) : Fc (wa_S M n m k) M0 := (Fc_cond (Fc_cond (Fc_cnF fr) fr) fr)
theorem Fc_wa_L {M M0 : sM} {n : Nat} {m : Nat} (fr : Fc M M0) : ∀ k, Fc (wa_L M n m k) M0
  | 0 => fr
  | k + 1 => Fc_wa_S (Fc_wa_L fr k)
set_option maxHeartbeats 4000000 in
set_option maxRecDepth 10000 in
theorem c31_2_b {t : sT} {Q : sRs → sT → Prop} {M : sM} {n : Nat} {T : Nat} {k : Nat} {m : Nat} {d0 : sV}
    (hM : Rl t M n T)
    (hc : Sf t M n T)
    (hR : Ri M n)
    (hC : rlC t M n)
    (hk : k < n)
    (hm : m < 6)
    (q : ∀ (t' : sT) (e0 : sV), Rl t' (wa_S M n m k) n T → np t' = np t → rlC t' (wa_S M n m k) n → X 31 2 [.inr (.inr (4, (some 0))), .inr (.inr (7, (some m))), .inl (io (k + 1)), e0] [] t' Q) :
    X 31 2 [.inr (.inr (4, (some 0))), .inr (.inr (7, (some m))), .inl (io k), d0] [] t Q := by
  refine x_iload_n (pc' := 3) rfl rfl rfl ?_
  refine x_aload_n (pc' := 4) rfl rfl rfl rfl rfl ?_
  refine x_gR (pc' := 7) (r := (some 1)) rfl rfl rfl (kR_257_0 hc.1) ?_
  refine x_cv (ls0 := [_]) (rest := [_]) rfl rfl rfl rfl rfl ?_
  refine x_aload_n (pc' := 1) rfl rfl rfl rfl rfl ?_
  refine x_gI (pc' := 4) (x := (io n)) rfl rfl rfl (Sf_n hc) ?_
  refine x_reti rfl rfl ?_
  refine sK_i (pc' := 10) rfl ?_
  refine x_icmp_n (a' := 51) (pc' := 13) (z := decide (k < n)) rfl rfl rfl (ic_gen (p := k) (q := n) (Nat.lt_trans hk (gn31 hR)) (gn31 hR)) (fun h => absurd hk (of_decide_eq_false h)) (fun _ => ?_)
  refine x_aload_n (pc' := 14) rfl rfl rfl rfl rfl ?_
  refine x_gR (pc' := 17) (r := (some 1)) rfl rfl rfl (kR_257_0 hc.1) ?_
  refine x_iload_n (pc' := 18) rfl rfl rfl ?_
  refine x_cv (ls0 := [_, _]) (rest := []) rfl rfl rfl rfl rfl ?_
  refine Sf_gO hc hR hk ?_
  refine sK_i (pc' := 21) rfl ?_
  refine x_cast (pc' := 24) rfl rfl rfl ?_
  refine x_astore_n (pc' := 25) (ls' := [_, _, _, _]) rfl rfl rfl rfl rfl ?_
  refine x_aload_n (pc' := 26) rfl rfl rfl rfl rfl ?_
  refine x_gR (pc' := 29) (r := (some (oM M k))) rfl rfl rfl (Sf_513 hc hk) ?_
  refine x_aload_n (pc' := 30) rfl rfl rfl rfl rfl ?_
  refine x_acmp_nen (a' := 45) (pc' := 33) (z := decide (oM M k = m)) rfl rfl rfl rfl dec_some (fun q2 => ?_) (fun q2 => ?_)
  · refine x_iinc (pc' := 48) (y := (io (k + 1))) (ls' := [_, _, _, _]) rfl rfl rfl (io_add k 1) rfl ?_
    refine x_goto (pc' := 2) rfl rfl ?_
    exact q t (.inr (.inr (8, (some k)))) (Rl_eq (by simp only [wa_S, q2, cd_t, cd_f]) hM) rfl (rlC_eq (by simp only [wa_S, q2, cd_t, cd_f]) hC)
  · refine x_aload_n (pc' := 34) rfl rfl rfl rfl rfl ?_
    refine x_cv (ls0 := [_]) (rest := []) rfl rfl rfl rfl rfl ?_
    refine x_aload_n (pc' := 1) rfl rfl rfl rfl rfl ?_
    refine x_gI (pc' := 4) (x := (mA M 19 k)) rfl rfl rfl (kA hM rfl hk) ?_
    have J4 : X 71 20 [.inr (.inr (8, (some k)))] [.inl (bz ((decide ((mA M 19 k) = 0)) || (decide ((mA M 19 k) = 1))))] t (sK 71 31 34 [.inr (.inr (4, (some 0))), .inr (.inr (7, (some m))), .inl (io k), .inr (.inr (8, (some k)))] [] Q) := by
      refine x_retz (z := ((decide ((mA M 19 k) = 0)) || (decide ((mA M 19 k) = 1)))) rfl rfl ?_
      refine sK_i (pc' := 37) rfl ?_
      refine x_ifeq_z (a' := 45) (pc' := 40) (z := ((decide ((mA M 19 k) = 0)) || (decide ((mA M 19 k) = 1)))) rfl rfl rfl (fun q6 => ?_) (fun q6 => ?_)
      · refine x_iinc (pc' := 48) (y := (io (k + 1))) (ls' := [_, _, _, _]) rfl rfl rfl (io_add k 1) rfl ?_
        refine x_goto (pc' := 2) rfl rfl ?_
        exact q t (.inr (.inr (8, (some k)))) (Rl_eq (by simp only [wa_S, q2, q6, cd_t, cd_f]) hM) rfl (rlC_eq (by simp only [wa_S, q2, q6, cd_t, cd_f]) hC)
      · refine x_aload_n (pc' := 41) rfl rfl rfl rfl rfl ?_
        refine x_aload_n (pc' := 42) rfl rfl rfl rfl rfl ?_
        refine x_cv (ls0 := [_, _]) (rest := []) rfl rfl rfl rfl rfl ?_
        refine c30x hM hc (Fc.ri (Fc.refl _) hR) hC hk (fun u3 h3 c3 s3 => ?_)
        refine sK_v (pc' := 45) rfl ?_
        refine x_iinc (pc' := 48) (y := (io (k + 1))) (ls' := [_, _, _, _]) rfl rfl rfl (io_add k 1) rfl ?_
        refine x_goto (pc' := 2) rfl rfl ?_
        exact q u3 (.inr (.inr (8, (some k)))) (Rl_eq (by simp only [wa_S, q2, q6, cd_t, cd_f]) h3) c3 (rlC_eq (by simp only [wa_S, q2, q6, cd_t, cd_f]) s3)
    refine x_if (a' := 15) (pc' := 7) (z := decide ((mA M 19 k) = 0)) rfl rfl rfl rfl (fun q3 => ?_) (fun q3 => ?_)
    · refine x_iconst (pc' := 16) rfl rfl ?_
      refine x_goto (pc' := 20) rfl rfl ?_
      ((try rw [q3] at J4); (try rw [q3]); (try simp only [cd_t, cd_f, nt_t, nt_f, an_t, an_f, or_t, or_f] at J4); (try simp only [cd_t, cd_f, nt_t, nt_f, an_t, an_f, or_t, or_f]); exact J4)
    · refine x_aload_n (pc' := 8) rfl rfl rfl rfl rfl ?_
      refine x_gI (pc' := 11) (x := (mA M 19 k)) rfl rfl rfl (kA hM rfl hk) ?_
      refine x_iconst (pc' := 12) rfl rfl ?_
      refine x_icmp_n (a' := 19) (pc' := 15) (z := decide ((mA M 19 k) = 1)) rfl rfl rfl (ik_ne _ _) (fun q4 => ?_) (fun q4 => ?_)
      · refine x_iconst (pc' := 20) rfl rfl ?_
        ((try rw [q4] at J4); (try rw [q4]); (try rw [q3] at J4); (try rw [q3]); (try simp only [cd_t, cd_f, nt_t, nt_f, an_t, an_f, or_t, or_f] at J4); (try simp only [cd_t, cd_f, nt_t, nt_f, an_t, an_f, or_t, or_f]); exact J4)
      · refine x_iconst (pc' := 16) rfl rfl ?_
        refine x_goto (pc' := 20) rfl rfl ?_
        ((try rw [q4] at J4); (try rw [q4]); (try rw [q3] at J4); (try rw [q3]); (try simp only [cd_t, cd_f, nt_t, nt_f, an_t, an_f, or_t, or_f] at J4); (try simp only [cd_t, cd_f, nt_t, nt_f, an_t, an_f, or_t, or_f]); exact J4)
set_option maxHeartbeats 4000000 in
set_option maxRecDepth 10000 in
theorem c31_2 {t : sT} {Q : sRs → sT → Prop} {M : sM} {n : Nat} {T : Nat} {m : Nat} {d0 : sV}
    (hM : Rl t M n T)
    (hc : Sf t M n T)
    (hR : Ri M n)
    (hC : rlC t M n)
    (hm : m < 6)
    (q : ∀ (t' : sT) (e0 : sV), Rl t' (wa_L M n m n) n T → np t' = np t → rlC t' (wa_L M n m n) n → X 31 2 [.inr (.inr (4, (some 0))), .inr (.inr (7, (some m))), .inl (io n), e0] [] t' Q) :
    X 31 2 [.inr (.inr (4, (some 0))), .inr (.inr (7, (some m))), .inl (io 0), d0] [] t Q := by
  refine lp0 (n := n) (fun k ls u => (∃ e0, ls = [.inr (.inr (4, (some 0))), .inr (.inr (7, (some m))), .inl (io k), e0]) ∧ Rl u (wa_L M n m k) n T ∧ np u = np t ∧ rlC u (wa_L M n m k) n) ⟨⟨_, rfl⟩, hM, rfl, hC⟩ ?_ ?_
  · rintro k ls u hk ⟨⟨e0, rfl⟩, hm9, hp9, hq9⟩ ih
    refine c31_2_b hm9 (Sf_fc (Fc_wa_L (Fc.refl _) k) (Sf_np hp9 hc)) (Fc.ri (Fc_wa_L (Fc.refl _) k) hR) hq9 hk hm ?_
    intro t' x0' h1 h2 h3
    exact ih _ _ ⟨⟨_, rfl⟩, h1, h2.trans hp9, h3⟩
  · rintro ls u ⟨⟨e0, rfl⟩, hm9, hp9, hq9⟩
    exact q u e0 hm9 hp9 hq9
def waF_ (M : sM) (n : Nat) (m : Nat) : sM := (wa_L M n m n)
theorem Fc_waF_ {M M0 : sM} {n : Nat} {m : Nat} (fr : Fc M M0) : Fc (waF_ M n m) M0 := (Fc_wa_L fr _)
set_option maxHeartbeats 4000000 in
set_option maxRecDepth 10000 in
theorem c31 {t : sT} {Q : sRs → sT → Prop} {M : sM} {n : Nat} {T : Nat} {m : Nat}
    (hM : Rl t M n T)
    (hc : Sf t M n T)
    (hR : Ri M n)
    (hC : rlC t M n)
    (hm : m < 6)
    (q : ∀ t', Rl t' (waF_ M n m) n T → np t' = np t → rlC t' (waF_ M n m) n → Q (.inl none) t') :
    X 31 0 [.inr (.inr (4, (some 0))), .inr (.inr (7, (some m))), sJk, sJk] [] t Q := by
  refine x_iconst (pc' := 1) rfl rfl ?_
  refine x_istore_n (pc' := 2) (ls' := [_, _, _, _]) rfl rfl rfl rfl ?_
  refine c31_2 (m := m) hM hc (Fc.ri (Fc.refl _) hR) hC hm (fun u1 y1_0 h1 c1 s1 => ?_)
  refine x_iload_n (pc' := 3) rfl rfl rfl ?_
  refine x_aload_n (pc' := 4) rfl rfl rfl rfl rfl ?_
  refine x_gR (pc' := 7) (r := (some 1)) rfl rfl rfl (kR_257_0 (Sf_np c1 hc).1) ?_
  refine x_cv (ls0 := [_]) (rest := [_]) rfl rfl rfl rfl rfl ?_
  refine x_aload_n (pc' := 1) rfl rfl rfl rfl rfl ?_
  refine x_gI (pc' := 4) (x := (io n)) rfl rfl rfl (Sf_n (Sf_np c1 hc)) ?_
  refine x_reti rfl rfl ?_
  refine sK_i (pc' := 10) rfl ?_
  refine x_icmp_n (a' := 51) (pc' := 13) (z := decide (n < n)) rfl rfl rfl (ic_gen (p := n) (q := n) (gn31 hR) (gn31 hR)) (fun _ => ?_) (fun h => absurd (of_decide_eq_true h) (by first | decide | omega | simp))
  refine x_ret rfl ?_
  exact (q _ h1 c1 s1)
def wqn_S (M : sM) (n : Nat) (m : Nat) (k : Nat) : sM := (bif (mB M 4 k) then (bif (decide (oM M k = m)) then (bif ((decide ((mA M 19 k) = 0)) || (decide ((mA M 19 k) = 1))) then (cnF M k) else M) else M) else M)
def wqn_L (M : sM) (n : Nat) (m : Nat) : Nat → sM
  | 0 => M
  | k + 1 => wqn_S (wqn_L M n m k) n m k
theorem Fc_wqn_S {M M0 : sM} {n : Nat} {m : Nat} {k : Nat} (fr : Fc M M0) : Fc (wqn_S M n m k) M0 := (Fc_cond (Fc_cond (Fc_cond (Fc_cnF fr) fr) fr) fr)
theorem Fc_wqn_L {M M0 : sM} {n : Nat} {m : Nat} (fr : Fc M M0) : ∀ k, Fc (wqn_L M n m k) M0
  | 0 => fr
  | k + 1 => Fc_wqn_S (Fc_wqn_L fr k)
set_option maxHeartbeats 4000000 in
set_option maxRecDepth 10000 in
theorem c32n_2_b {t : sT} {Q : sRs → sT → Prop} {M : sM} {n : Nat} {T : Nat} {k : Nat} {m : Nat} {d0 : sV} {d1 : sV}
    (hM : Rl t M n T)
    (hc : Sf t M n T)
    (hR : Ri M n)
    (hC : rlC t M n)
    (hk : k < n)
    (hm : m < 6)
    (q : ∀ (t' : sT) (e0 : sV) (e1 : sV), Rl t' (wqn_S M n m k) n T → np t' = np t → rlC t' (wqn_S M n m k) n → X 32 2 [.inr (.inr (4, (some 0))), .inr (.inr (7, (some m))), .inr (.inr (1, none)), .inl (io (k + 1)), e0, e1] [] t' Q) :
    X 32 2 [.inr (.inr (4, (some 0))), .inr (.inr (7, (some m))), .inr (.inr (1, none)), .inl (io k), d0, d1] [] t Q := by
  refine x_iload_n (pc' := 3) rfl rfl rfl ?_
  refine x_aload_n (pc' := 4) rfl rfl rfl rfl rfl ?_
  refine x_gR (pc' := 7) (r := (some 1)) rfl rfl rfl (kR_257_0 hc.1) ?_
  refine x_cv (ls0 := [_]) (rest := [_]) rfl rfl rfl rfl rfl ?_
  refine x_aload_n (pc' := 1) rfl rfl rfl rfl rfl ?_
  refine x_gI (pc' := 4) (x := (io n)) rfl rfl rfl (Sf_n hc) ?_
  refine x_reti rfl rfl ?_
  refine sK_i (pc' := 10) rfl ?_
  refine x_icmp_n (a' := 88) (pc' := 13) (z := decide (k < n)) rfl rfl rfl (ic_gen (p := k) (q := n) (Nat.lt_trans hk (gn31 hR)) (gn31 hR)) (fun h => absurd hk (of_decide_eq_false h)) (fun _ => ?_)
  refine x_aload_n (pc' := 14) rfl rfl rfl rfl rfl ?_
  refine x_gR (pc' := 17) (r := (some 1)) rfl rfl rfl (kR_257_0 hc.1) ?_
  refine x_iload_n (pc' := 18) rfl rfl rfl ?_
  refine x_cv (ls0 := [_, _]) (rest := []) rfl rfl rfl rfl rfl ?_
  refine Sf_gO hc hR hk ?_
  refine sK_i (pc' := 21) rfl ?_
  refine x_cast (pc' := 24) rfl rfl rfl ?_
  refine x_astore (pc' := 26) (ls' := [_, _, _, _, _, _]) rfl rfl rfl rfl rfl ?_
  refine x_aload_n (pc' := 27) rfl rfl rfl rfl rfl ?_
  refine x_ifnull (a' := 39) (pc' := 30) rfl rfl rfl rfl (fun _ => ?_) (fun i h => by cases h)
  refine x_iconst (pc' := 40) rfl rfl ?_
  refine x_goto (pc' := 44) rfl rfl ?_
  refine x_istore (pc' := 46) (ls' := [_, _, _, _, _, _]) rfl rfl rfl rfl ?_
  refine x_iload (pc' := 48) rfl rfl rfl ?_
  refine x_if (a' := 82) (pc' := 51) (z := false) rfl rfl rfl (by decide) (fun h => by cases h) (fun _ => ?_)
  refine x_aload (pc' := 53) rfl rfl rfl rfl rfl ?_
  refine x_gZ (pc' := 56) (z := (mB M 4 k)) rfl rfl rfl (kZ hM rfl hk) ?_
  refine x_ifeq_z (a' := 82) (pc' := 59) (z := (mB M 4 k)) rfl rfl rfl (fun q4 => ?_) (fun q4 => ?_)
  · refine x_iinc (pc' := 85) (y := (io (k + 1))) (ls' := [_, _, _, _, _, _]) rfl rfl rfl (io_add k 1) rfl ?_
    refine x_goto (pc' := 2) rfl rfl ?_
    exact q t (.inr (.inr (8, (some k)))) (.inl 1) (Rl_eq (by simp only [wqn_S, q4, cd_t, cd_f]) hM) rfl (rlC_eq (by simp only [wqn_S, q4, cd_t, cd_f]) hC)
  · refine x_aload (pc' := 61) rfl rfl rfl rfl rfl ?_
    refine x_gR (pc' := 64) (r := (some (oM M k))) rfl rfl rfl (Sf_513 hc hk) ?_
    refine x_aload_n (pc' := 65) rfl rfl rfl rfl rfl ?_
    refine x_acmp_nen (a' := 82) (pc' := 68) (z := decide (oM M k = m)) rfl rfl rfl rfl dec_some (fun q5 => ?_) (fun q5 => ?_)
    · refine x_iinc (pc' := 85) (y := (io (k + 1))) (ls' := [_, _, _, _, _, _]) rfl rfl rfl (io_add k 1) rfl ?_
      refine x_goto (pc' := 2) rfl rfl ?_
      exact q t (.inr (.inr (8, (some k)))) (.inl 1) (Rl_eq (by simp only [wqn_S, q4, q5, cd_t, cd_f]) hM) rfl (rlC_eq (by simp only [wqn_S, q4, q5, cd_t, cd_f]) hC)
    · refine x_aload (pc' := 70) rfl rfl rfl rfl rfl ?_
      refine x_cv (ls0 := [_]) (rest := []) rfl rfl rfl rfl rfl ?_
      refine x_aload_n (pc' := 1) rfl rfl rfl rfl rfl ?_
      refine x_gI (pc' := 4) (x := (mA M 19 k)) rfl rfl rfl (kA hM rfl hk) ?_
      have J7 : X 71 20 [.inr (.inr (8, (some k)))] [.inl (bz ((decide ((mA M 19 k) = 0)) || (decide ((mA M 19 k) = 1))))] t (sK 71 32 70 [.inr (.inr (4, (some 0))), .inr (.inr (7, (some m))), .inr (.inr (1, none)), .inl (io k), .inr (.inr (8, (some k))), .inl 1] [] Q) := by
        refine x_retz (z := ((decide ((mA M 19 k) = 0)) || (decide ((mA M 19 k) = 1)))) rfl rfl ?_
        refine sK_i (pc' := 73) rfl ?_
        refine x_ifeq_z (a' := 82) (pc' := 76) (z := ((decide ((mA M 19 k) = 0)) || (decide ((mA M 19 k) = 1)))) rfl rfl rfl (fun q9 => ?_) (fun q9 => ?_)
        · refine x_iinc (pc' := 85) (y := (io (k + 1))) (ls' := [_, _, _, _, _, _]) rfl rfl rfl (io_add k 1) rfl ?_
          refine x_goto (pc' := 2) rfl rfl ?_
          exact q t (.inr (.inr (8, (some k)))) (.inl 1) (Rl_eq (by simp only [wqn_S, q4, q5, q9, cd_t, cd_f]) hM) rfl (rlC_eq (by simp only [wqn_S, q4, q5, q9, cd_t, cd_f]) hC)
        · refine x_aload_n (pc' := 77) rfl rfl rfl rfl rfl ?_
          refine x_aload (pc' := 79) rfl rfl rfl rfl rfl ?_
          refine x_cv (ls0 := [_, _]) (rest := []) rfl rfl rfl rfl rfl ?_
          refine c30x hM hc (Fc.ri (Fc.refl _) hR) hC hk (fun u4 h4 c4 s4 => ?_)
          refine sK_v (pc' := 82) rfl ?_
          refine x_iinc (pc' := 85) (y := (io (k + 1))) (ls' := [_, _, _, _, _, _]) rfl rfl rfl (io_add k 1) rfl ?_
          refine x_goto (pc' := 2) rfl rfl ?_
          exact q u4 (.inr (.inr (8, (some k)))) (.inl 1) (Rl_eq (by simp only [wqn_S, q4, q5, q9, cd_t, cd_f]) h4) c4 (rlC_eq (by simp only [wqn_S, q4, q5, q9, cd_t, cd_f]) s4)
      refine x_if (a' := 15) (pc' := 7) (z := decide ((mA M 19 k) = 0)) rfl rfl rfl rfl (fun q6 => ?_) (fun q6 => ?_)
      · refine x_iconst (pc' := 16) rfl rfl ?_
        refine x_goto (pc' := 20) rfl rfl ?_
        ((try rw [q6] at J7); (try rw [q6]); (try simp only [cd_t, cd_f, nt_t, nt_f, an_t, an_f, or_t, or_f] at J7); (try simp only [cd_t, cd_f, nt_t, nt_f, an_t, an_f, or_t, or_f]); exact J7)
      · refine x_aload_n (pc' := 8) rfl rfl rfl rfl rfl ?_
        refine x_gI (pc' := 11) (x := (mA M 19 k)) rfl rfl rfl (kA hM rfl hk) ?_
        refine x_iconst (pc' := 12) rfl rfl ?_
        refine x_icmp_n (a' := 19) (pc' := 15) (z := decide ((mA M 19 k) = 1)) rfl rfl rfl (ik_ne _ _) (fun q7 => ?_) (fun q7 => ?_)
        · refine x_iconst (pc' := 20) rfl rfl ?_
          ((try rw [q7] at J7); (try rw [q7]); (try rw [q6] at J7); (try rw [q6]); (try simp only [cd_t, cd_f, nt_t, nt_f, an_t, an_f, or_t, or_f] at J7); (try simp only [cd_t, cd_f, nt_t, nt_f, an_t, an_f, or_t, or_f]); exact J7)
        · refine x_iconst (pc' := 16) rfl rfl ?_
          refine x_goto (pc' := 20) rfl rfl ?_
          ((try rw [q7] at J7); (try rw [q7]); (try rw [q6] at J7); (try rw [q6]); (try simp only [cd_t, cd_f, nt_t, nt_f, an_t, an_f, or_t, or_f] at J7); (try simp only [cd_t, cd_f, nt_t, nt_f, an_t, an_f, or_t, or_f]); exact J7)
set_option maxHeartbeats 4000000 in
set_option maxRecDepth 10000 in
theorem c32n_2 {t : sT} {Q : sRs → sT → Prop} {M : sM} {n : Nat} {T : Nat} {m : Nat} {d0 : sV} {d1 : sV}
    (hM : Rl t M n T)
    (hc : Sf t M n T)
    (hR : Ri M n)
    (hC : rlC t M n)
    (hm : m < 6)
    (q : ∀ (t' : sT) (e0 : sV) (e1 : sV), Rl t' (wqn_L M n m n) n T → np t' = np t → rlC t' (wqn_L M n m n) n → X 32 2 [.inr (.inr (4, (some 0))), .inr (.inr (7, (some m))), .inr (.inr (1, none)), .inl (io n), e0, e1] [] t' Q) :
    X 32 2 [.inr (.inr (4, (some 0))), .inr (.inr (7, (some m))), .inr (.inr (1, none)), .inl (io 0), d0, d1] [] t Q := by
  refine lp0 (n := n) (fun k ls u => (∃ e0 e1, ls = [.inr (.inr (4, (some 0))), .inr (.inr (7, (some m))), .inr (.inr (1, none)), .inl (io k), e0, e1]) ∧ Rl u (wqn_L M n m k) n T ∧ np u = np t ∧ rlC u (wqn_L M n m k) n) ⟨⟨_, _, rfl⟩, hM, rfl, hC⟩ ?_ ?_
  · rintro k ls u hk ⟨⟨e0, e1, rfl⟩, hm9, hp9, hq9⟩ ih
    refine c32n_2_b hm9 (Sf_fc (Fc_wqn_L (Fc.refl _) k) (Sf_np hp9 hc)) (Fc.ri (Fc_wqn_L (Fc.refl _) k) hR) hq9 hk hm ?_
    intro t' x0' x1' h1 h2 h3
    exact ih _ _ ⟨⟨_, _, rfl⟩, h1, h2.trans hp9, h3⟩
  · rintro ls u ⟨⟨e0, e1, rfl⟩, hm9, hp9, hq9⟩
    exact q u e0 e1 hm9 hp9 hq9
def wqnF (M : sM) (n : Nat) (m : Nat) : sM := (wqn_L M n m n)
theorem Fc_wqnF {M M0 : sM} {n : Nat} {m : Nat} (fr : Fc M M0) : Fc (wqnF M n m) M0 := (Fc_wqn_L fr _)
set_option maxHeartbeats 4000000 in
set_option maxRecDepth 10000 in
theorem c32n {t : sT} {Q : sRs → sT → Prop} {M : sM} {n : Nat} {T : Nat} {m : Nat}
    (hM : Rl t M n T)
    (hc : Sf t M n T)
    (hR : Ri M n)
    (hC : rlC t M n)
    (hm : m < 6)
    (q : ∀ t', Rl t' (wqnF M n m) n T → np t' = np t → rlC t' (wqnF M n m) n → Q (.inl none) t') :
    X 32 0 [.inr (.inr (4, (some 0))), .inr (.inr (7, (some m))), .inr (.inr (1, none)), sJk, sJk, sJk] [] t Q := by
  refine x_iconst (pc' := 1) rfl rfl ?_
  refine x_istore_n (pc' := 2) (ls' := [_, _, _, _, _, _]) rfl rfl rfl rfl ?_
  refine c32n_2 (m := m) hM hc (Fc.ri (Fc.refl _) hR) hC hm (fun u1 y1_0 y1_1 h1 c1 s1 => ?_)
  refine x_iload_n (pc' := 3) rfl rfl rfl ?_
  refine x_aload_n (pc' := 4) rfl rfl rfl rfl rfl ?_
  refine x_gR (pc' := 7) (r := (some 1)) rfl rfl rfl (kR_257_0 (Sf_np c1 hc).1) ?_
  refine x_cv (ls0 := [_]) (rest := [_]) rfl rfl rfl rfl rfl ?_
  refine x_aload_n (pc' := 1) rfl rfl rfl rfl rfl ?_
  refine x_gI (pc' := 4) (x := (io n)) rfl rfl rfl (Sf_n (Sf_np c1 hc)) ?_
  refine x_reti rfl rfl ?_
  refine sK_i (pc' := 10) rfl ?_
  refine x_icmp_n (a' := 88) (pc' := 13) (z := decide (n < n)) rfl rfl rfl (ic_gen (p := n) (q := n) (gn31 hR) (gn31 hR)) (fun _ => ?_) (fun h => absurd (of_decide_eq_true h) (by first | decide | omega | simp))
  refine x_ret rfl ?_
  exact (q _ h1 c1 s1)
def wqs_S (M : sM) (n : Nat) (m : Nat) (b : Nat) (k : Nat) : sM := (bif (decide (oB M k = b)) then (bif (mB M 4 k) then (bif (decide (oM M k = m)) then (bif ((decide ((mA M 19 k) = 0)) || (decide ((mA M 19 k) = 1))) then (cnF M k) else M) else M) else M) else M)
def wqs_L (M : sM) (n : Nat) (m : Nat) (b : Nat) : Nat → sM
  | 0 => M
  | k + 1 => wqs_S (wqs_L M n m b k) n m b k
theorem Fc_wqs_S {M M0 : sM} {n : Nat} {m : Nat} {b : Nat} {k : Nat} (fr : Fc M M0) : Fc (wqs_S M n m b k) M0 := (Fc_cond (Fc_cond (Fc_cond (Fc_cond (Fc_cnF fr) fr) fr) fr) fr)
theorem Fc_wqs_L {M M0 : sM} {n : Nat} {m : Nat} {b : Nat} (fr : Fc M M0) : ∀ k, Fc (wqs_L M n m b k) M0
  | 0 => fr
  | k + 1 => Fc_wqs_S (Fc_wqs_L fr k)
set_option maxHeartbeats 4000000 in
set_option maxRecDepth 10000 in
theorem c32s_2_b {t : sT} {Q : sRs → sT → Prop} {M : sM} {n : Nat} {T : Nat} {k : Nat} {m : Nat} {b : Nat} {d0 : sV} {d1 : sV}
    (hM : Rl t M n T)
    (hc : Sf t M n T)
    (hR : Ri M n)
    (hC : rlC t M n)
    (hk : k < n)
    (hm : m < 6)
    (hb : b < 5)
    (q : ∀ (t' : sT) (e0 : sV) (e1 : sV), Rl t' (wqs_S M n m b k) n T → np t' = np t → rlC t' (wqs_S M n m b k) n → X 32 2 [.inr (.inr (4, (some 0))), .inr (.inr (7, (some m))), .inr (.inr (1, (some b))), .inl (io (k + 1)), e0, e1] [] t' Q) :
    X 32 2 [.inr (.inr (4, (some 0))), .inr (.inr (7, (some m))), .inr (.inr (1, (some b))), .inl (io k), d0, d1] [] t Q := by
  refine x_iload_n (pc' := 3) rfl rfl rfl ?_
  refine x_aload_n (pc' := 4) rfl rfl rfl rfl rfl ?_
  refine x_gR (pc' := 7) (r := (some 1)) rfl rfl rfl (kR_257_0 hc.1) ?_
  refine x_cv (ls0 := [_]) (rest := [_]) rfl rfl rfl rfl rfl ?_
  refine x_aload_n (pc' := 1) rfl rfl rfl rfl rfl ?_
  refine x_gI (pc' := 4) (x := (io n)) rfl rfl rfl (Sf_n hc) ?_
  refine x_reti rfl rfl ?_
  refine sK_i (pc' := 10) rfl ?_
  refine x_icmp_n (a' := 88) (pc' := 13) (z := decide (k < n)) rfl rfl rfl (ic_gen (p := k) (q := n) (Nat.lt_trans hk (gn31 hR)) (gn31 hR)) (fun h => absurd hk (of_decide_eq_false h)) (fun _ => ?_)
  refine x_aload_n (pc' := 14) rfl rfl rfl rfl rfl ?_
  refine x_gR (pc' := 17) (r := (some 1)) rfl rfl rfl (kR_257_0 hc.1) ?_
  refine x_iload_n (pc' := 18) rfl rfl rfl ?_
  refine x_cv (ls0 := [_, _]) (rest := []) rfl rfl rfl rfl rfl ?_
  refine Sf_gO hc hR hk ?_
  refine sK_i (pc' := 21) rfl ?_
  refine x_cast (pc' := 24) rfl rfl rfl ?_
  refine x_astore (pc' := 26) (ls' := [_, _, _, _, _, _]) rfl rfl rfl rfl rfl ?_
  refine x_aload_n (pc' := 27) rfl rfl rfl rfl rfl ?_
  refine x_ifnull (a' := 39) (pc' := 30) rfl rfl rfl rfl (fun h => by cases h) (fun _ _ => ?_)
  refine x_aload (pc' := 32) rfl rfl rfl rfl rfl ?_
  refine x_gR (pc' := 35) (r := (some (oB M k))) rfl rfl rfl (Sf_514 hc hk) ?_
  refine x_aload_n (pc' := 36) rfl rfl rfl rfl rfl ?_
  have J3 : X 32 44 [.inr (.inr (4, (some 0))), .inr (.inr (7, (some m))), .inr (.inr (1, (some b))), .inl (io k), .inr (.inr (8, (some k))), d1] [.inl (bz (decide (oB M k = b)))] t Q := by
    refine x_istore (pc' := 46) (ls' := [_, _, _, _, _, _]) rfl rfl rfl rfl ?_
    refine x_iload (pc' := 48) rfl rfl rfl ?_
    refine x_ifeq_z (a' := 82) (pc' := 51) (z := (decide (oB M k = b))) rfl rfl rfl (fun q5 => ?_) (fun q5 => ?_)
    · refine x_iinc (pc' := 85) (y := (io (k + 1))) (ls' := [_, _, _, _, _, _]) rfl rfl rfl (io_add k 1) rfl ?_
      refine x_goto (pc' := 2) rfl rfl ?_
      exact q t (.inr (.inr (8, (some k)))) (.inl (bz (decide (oB M k = b)))) (Rl_eq (by simp only [wqs_S, q5, cd_t, cd_f]) hM) rfl (rlC_eq (by simp only [wqs_S, q5, cd_t, cd_f]) hC)
    · refine x_aload (pc' := 53) rfl rfl rfl rfl rfl ?_
      refine x_gZ (pc' := 56) (z := (mB M 4 k)) rfl rfl rfl (kZ hM rfl hk) ?_
      refine x_ifeq_z (a' := 82) (pc' := 59) (z := (mB M 4 k)) rfl rfl rfl (fun q6 => ?_) (fun q6 => ?_)
      · refine x_iinc (pc' := 85) (y := (io (k + 1))) (ls' := [_, _, _, _, _, _]) rfl rfl rfl (io_add k 1) rfl ?_
        refine x_goto (pc' := 2) rfl rfl ?_
        exact q t (.inr (.inr (8, (some k)))) (.inl (bz (decide (oB M k = b)))) (Rl_eq (by simp only [wqs_S, q5, q6, cd_t, cd_f]) hM) rfl (rlC_eq (by simp only [wqs_S, q5, q6, cd_t, cd_f]) hC)
      · refine x_aload (pc' := 61) rfl rfl rfl rfl rfl ?_
        refine x_gR (pc' := 64) (r := (some (oM M k))) rfl rfl rfl (Sf_513 hc hk) ?_
        refine x_aload_n (pc' := 65) rfl rfl rfl rfl rfl ?_
        refine x_acmp_nen (a' := 82) (pc' := 68) (z := decide (oM M k = m)) rfl rfl rfl rfl dec_some (fun q7 => ?_) (fun q7 => ?_)
        · refine x_iinc (pc' := 85) (y := (io (k + 1))) (ls' := [_, _, _, _, _, _]) rfl rfl rfl (io_add k 1) rfl ?_
          refine x_goto (pc' := 2) rfl rfl ?_
          exact q t (.inr (.inr (8, (some k)))) (.inl (bz (decide (oB M k = b)))) (Rl_eq (by simp only [wqs_S, q5, q6, q7, cd_t, cd_f]) hM) rfl (rlC_eq (by simp only [wqs_S, q5, q6, q7, cd_t, cd_f]) hC)
        · refine x_aload (pc' := 70) rfl rfl rfl rfl rfl ?_
          refine x_cv (ls0 := [_]) (rest := []) rfl rfl rfl rfl rfl ?_
          refine x_aload_n (pc' := 1) rfl rfl rfl rfl rfl ?_
          refine x_gI (pc' := 4) (x := (mA M 19 k)) rfl rfl rfl (kA hM rfl hk) ?_
          have J9 : X 71 20 [.inr (.inr (8, (some k)))] [.inl (bz ((decide ((mA M 19 k) = 0)) || (decide ((mA M 19 k) = 1))))] t (sK 71 32 70 [.inr (.inr (4, (some 0))), .inr (.inr (7, (some m))), .inr (.inr (1, (some b))), .inl (io k), .inr (.inr (8, (some k))), .inl (bz (decide (oB M k = b)))] [] Q) := by
            refine x_retz (z := ((decide ((mA M 19 k) = 0)) || (decide ((mA M 19 k) = 1)))) rfl rfl ?_
            refine sK_i (pc' := 73) rfl ?_
            refine x_ifeq_z (a' := 82) (pc' := 76) (z := ((decide ((mA M 19 k) = 0)) || (decide ((mA M 19 k) = 1)))) rfl rfl rfl (fun q11 => ?_) (fun q11 => ?_)
            · refine x_iinc (pc' := 85) (y := (io (k + 1))) (ls' := [_, _, _, _, _, _]) rfl rfl rfl (io_add k 1) rfl ?_
              refine x_goto (pc' := 2) rfl rfl ?_
              exact q t (.inr (.inr (8, (some k)))) (.inl (bz (decide (oB M k = b)))) (Rl_eq (by simp only [wqs_S, q5, q6, q7, q11, cd_t, cd_f]) hM) rfl (rlC_eq (by simp only [wqs_S, q5, q6, q7, q11, cd_t, cd_f]) hC)
            · refine x_aload_n (pc' := 77) rfl rfl rfl rfl rfl ?_
              refine x_aload (pc' := 79) rfl rfl rfl rfl rfl ?_
              refine x_cv (ls0 := [_, _]) (rest := []) rfl rfl rfl rfl rfl ?_
              refine c30x hM hc (Fc.ri (Fc.refl _) hR) hC hk (fun u5 h5 c5 s5 => ?_)
              refine sK_v (pc' := 82) rfl ?_
              refine x_iinc (pc' := 85) (y := (io (k + 1))) (ls' := [_, _, _, _, _, _]) rfl rfl rfl (io_add k 1) rfl ?_
              refine x_goto (pc' := 2) rfl rfl ?_
              exact q u5 (.inr (.inr (8, (some k)))) (.inl (bz (decide (oB M k = b)))) (Rl_eq (by simp only [wqs_S, q5, q6, q7, q11, cd_t, cd_f]) h5) c5 (rlC_eq (by simp only [wqs_S, q5, q6, q7, q11, cd_t, cd_f]) s5)
          refine x_if (a' := 15) (pc' := 7) (z := decide ((mA M 19 k) = 0)) rfl rfl rfl rfl (fun q8 => ?_) (fun q8 => ?_)
          · refine x_iconst (pc' := 16) rfl rfl ?_
            refine x_goto (pc' := 20) rfl rfl ?_
            ((try rw [q8] at J9); (try rw [q8]); (try simp only [cd_t, cd_f, nt_t, nt_f, an_t, an_f, or_t, or_f] at J9); (try simp only [cd_t, cd_f, nt_t, nt_f, an_t, an_f, or_t, or_f]); exact J9)
          · refine x_aload_n (pc' := 8) rfl rfl rfl rfl rfl ?_
            refine x_gI (pc' := 11) (x := (mA M 19 k)) rfl rfl rfl (kA hM rfl hk) ?_
            refine x_iconst (pc' := 12) rfl rfl ?_
            refine x_icmp_n (a' := 19) (pc' := 15) (z := decide ((mA M 19 k) = 1)) rfl rfl rfl (ik_ne _ _) (fun q9 => ?_) (fun q9 => ?_)
            · refine x_iconst (pc' := 20) rfl rfl ?_
              ((try rw [q9] at J9); (try rw [q9]); (try rw [q8] at J9); (try rw [q8]); (try simp only [cd_t, cd_f, nt_t, nt_f, an_t, an_f, or_t, or_f] at J9); (try simp only [cd_t, cd_f, nt_t, nt_f, an_t, an_f, or_t, or_f]); exact J9)
            · refine x_iconst (pc' := 16) rfl rfl ?_
              refine x_goto (pc' := 20) rfl rfl ?_
              ((try rw [q9] at J9); (try rw [q9]); (try rw [q8] at J9); (try rw [q8]); (try simp only [cd_t, cd_f, nt_t, nt_f, an_t, an_f, or_t, or_f] at J9); (try simp only [cd_t, cd_f, nt_t, nt_f, an_t, an_f, or_t, or_f]); exact J9)
  refine x_acmp_nen (a' := 43) (pc' := 39) (z := decide (oB M k = b)) rfl rfl rfl rfl dec_some (fun q3 => ?_) (fun q3 => ?_)
  · refine x_iconst (pc' := 44) rfl rfl ?_
    ((try rw [q3] at J3); (try rw [q3]); (try simp only [cd_t, cd_f, nt_t, nt_f, an_t, an_f, or_t, or_f] at J3); (try simp only [cd_t, cd_f, nt_t, nt_f, an_t, an_f, or_t, or_f]); exact J3)
  · refine x_iconst (pc' := 40) rfl rfl ?_
    refine x_goto (pc' := 44) rfl rfl ?_
    ((try rw [q3] at J3); (try rw [q3]); (try simp only [cd_t, cd_f, nt_t, nt_f, an_t, an_f, or_t, or_f] at J3); (try simp only [cd_t, cd_f, nt_t, nt_f, an_t, an_f, or_t, or_f]); exact J3)
set_option maxHeartbeats 4000000 in
set_option maxRecDepth 10000 in
theorem c32s_2 {t : sT} {Q : sRs → sT → Prop} {M : sM} {n : Nat} {T : Nat} {m : Nat} {b : Nat} {d0 : sV} {d1 : sV}
    (hM : Rl t M n T)
    (hc : Sf t M n T)
    (hR : Ri M n)
    (hC : rlC t M n)
    (hm : m < 6)
    (hb : b < 5)
    (q : ∀ (t' : sT) (e0 : sV) (e1 : sV), Rl t' (wqs_L M n m b n) n T → np t' = np t → rlC t' (wqs_L M n m b n) n → X 32 2 [.inr (.inr (4, (some 0))), .inr (.inr (7, (some m))), .inr (.inr (1, (some b))), .inl (io n), e0, e1] [] t' Q) :
    X 32 2 [.inr (.inr (4, (some 0))), .inr (.inr (7, (some m))), .inr (.inr (1, (some b))), .inl (io 0), d0, d1] [] t Q := by
  refine lp0 (n := n) (fun k ls u => (∃ e0 e1, ls = [.inr (.inr (4, (some 0))), .inr (.inr (7, (some m))), .inr (.inr (1, (some b))), .inl (io k), e0, e1]) ∧ Rl u (wqs_L M n m b k) n T ∧ np u = np t ∧ rlC u (wqs_L M n m b k) n) ⟨⟨_, _, rfl⟩, hM, rfl, hC⟩ ?_ ?_
  · rintro k ls u hk ⟨⟨e0, e1, rfl⟩, hm9, hp9, hq9⟩ ih
    refine c32s_2_b hm9 (Sf_fc (Fc_wqs_L (Fc.refl _) k) (Sf_np hp9 hc)) (Fc.ri (Fc_wqs_L (Fc.refl _) k) hR) hq9 hk hm hb ?_
    intro t' x0' x1' h1 h2 h3
    exact ih _ _ ⟨⟨_, _, rfl⟩, h1, h2.trans hp9, h3⟩
  · rintro ls u ⟨⟨e0, e1, rfl⟩, hm9, hp9, hq9⟩
    exact q u e0 e1 hm9 hp9 hq9
def wqsF (M : sM) (n : Nat) (m : Nat) (b : Nat) : sM := (wqs_L M n m b n)
theorem Fc_wqsF {M M0 : sM} {n : Nat} {m : Nat} {b : Nat} (fr : Fc M M0) : Fc (wqsF M n m b) M0 := (Fc_wqs_L fr _)
set_option maxHeartbeats 4000000 in
set_option maxRecDepth 10000 in
theorem c32s {t : sT} {Q : sRs → sT → Prop} {M : sM} {n : Nat} {T : Nat} {m : Nat} {b : Nat}
    (hM : Rl t M n T)
    (hc : Sf t M n T)
    (hR : Ri M n)
    (hC : rlC t M n)
    (hm : m < 6)
    (hb : b < 5)
    (q : ∀ t', Rl t' (wqsF M n m b) n T → np t' = np t → rlC t' (wqsF M n m b) n → Q (.inl none) t') :
    X 32 0 [.inr (.inr (4, (some 0))), .inr (.inr (7, (some m))), .inr (.inr (1, (some b))), sJk, sJk, sJk] [] t Q := by
  refine x_iconst (pc' := 1) rfl rfl ?_
  refine x_istore_n (pc' := 2) (ls' := [_, _, _, _, _, _]) rfl rfl rfl rfl ?_
  refine c32s_2 (m := m) (b := b) hM hc (Fc.ri (Fc.refl _) hR) hC hm hb (fun u1 y1_0 y1_1 h1 c1 s1 => ?_)
  refine x_iload_n (pc' := 3) rfl rfl rfl ?_
  refine x_aload_n (pc' := 4) rfl rfl rfl rfl rfl ?_
  refine x_gR (pc' := 7) (r := (some 1)) rfl rfl rfl (kR_257_0 (Sf_np c1 hc).1) ?_
  refine x_cv (ls0 := [_]) (rest := [_]) rfl rfl rfl rfl rfl ?_
  refine x_aload_n (pc' := 1) rfl rfl rfl rfl rfl ?_
  refine x_gI (pc' := 4) (x := (io n)) rfl rfl rfl (Sf_n (Sf_np c1 hc)) ?_
  refine x_reti rfl rfl ?_
  refine sK_i (pc' := 10) rfl ?_
  refine x_icmp_n (a' := 88) (pc' := 13) (z := decide (n < n)) rfl rfl rfl (ic_gen (p := n) (q := n) (gn31 hR) (gn31 hR)) (fun _ => ?_) (fun h => absurd (of_decide_eq_true h) (by first | decide | omega | simp))
  refine x_ret rfl ?_
  exact (q _ h1 c1 s1)
