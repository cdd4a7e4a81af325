/-! the class's methods (printed by clsgen.py) -/
def ctkF (M : sM) (k : Nat) (a : Int32) : sM := (bif (mB M 4 k) then (mAw (mAw M 15 k ((mA M 15 k) - a)) 26 (oM M k) ((mA M 26 (oM M k)) + a)) else (mAw M 15 k ((mA M 15 k) - a)))
theorem Fc_ctkF {M M0 : sM} {k : Nat} {a : Int32} (fr : Fc M M0) : Fc (ctkF M k a) M0 := (Fc_cond (Fc_A rfl (Fc_A rfl fr)) (Fc_A rfl fr))
set_option maxHeartbeats 4000000 in
set_option maxRecDepth 10000 in
theorem c33 {t : sT} {Q : sRs → sT → Prop} {M : sM} {n : Nat} {T : Nat} {k : Nat} {a : Int32}
    (hM : Rl t M n T)
    (hc : Sf t M n T)
    (hR : Ri M n)
    (hk : k < n)
    (q : ∀ t', Rl t' (ctkF M k a) n T → np t' = np t → qp t' = qp t → Q (.inl none) t') :
    X 33 0 [.inr (.inr (4, (some 0))), .inr (.inr (8, (some k))), .inl a] [] t Q := by
  refine x_aload_n (pc' := 1) rfl rfl rfl rfl rfl ?_
  refine x_dup (pc' := 2) rfl rfl rfl ?_
  refine x_gI (pc' := 5) (x := (mA M 15 k)) rfl rfl rfl (kA hM rfl hk) ?_
  refine x_iload_n (pc' := 6) rfl rfl rfl ?_
  refine x_isub (pc' := 7) (z := ((mA M 15 k) - a)) rfl rfl rfl ?_
  refine x_pI (pc' := 10) rfl rfl rfl ?_
  refine x_aload_n (pc' := 11) rfl rfl rfl rfl rfl ?_
  refine x_gZ (pc' := 14) (z := (mB M 4 k)) rfl rfl rfl (Eq.trans (b := sZ t 520 k) rfl (kZ hM rfl hk)) ?_
  refine x_ifeq_z (a' := 30) (pc' := 17) (z := (mB M 4 k)) rfl rfl rfl (fun q1 => ?_) (fun q1 => ?_)
  · refine x_ret rfl ?_
    exact (q _ (Rl_eq (by simp only [ctkF, q1, cd_t, cd_f]) (Rl_I rfl hM)) (np_I rfl) rfl)
  · refine x_aload_n (pc' := 18) rfl rfl rfl rfl rfl ?_
    refine x_gR (pc' := 21) (r := (some (oM M k))) rfl rfl rfl (Eq.trans (b := sR t 513 k) rfl (Sf_513 hc hk)) ?_
    refine x_dup (pc' := 22) rfl rfl rfl ?_
    refine x_gI (pc' := 25) (x := (mA M 26 (oM M k))) rfl rfl rfl (Eq.trans (b := sI t 454 (oM M k)) rfl (kA hM rfl (gm6 hR hk))) ?_
    refine x_iload_n (pc' := 26) rfl rfl rfl ?_
    refine x_iadd (pc' := 27) (z := ((mA M 26 (oM M k)) + a)) rfl rfl rfl ?_
    refine x_pI (pc' := 30) rfl rfl rfl ?_
    refine x_ret rfl ?_
    exact (q _ (Rl_eq (by simp only [ctkF, q1, cd_t, cd_f]) (Rl_I rfl (Rl_I rfl hM))) ((np_I rfl).trans (np_I rfl)) rfl)
def crS (M : sM) (n : Nat) (b : Nat) (p : Int32) (k : Nat) : sM := (bif (decide ((mA M 19 k) = 0)) then (bif (decide (oB M k = b)) then (bif (bif (mB M 3 k) then (!(decide (p < (mA M 20 k)))) else (!(decide ((mA M 20 k) < p)))) then (mBw M 6 k true) else M) else M) else M)
def crL (M : sM) (n : Nat) (b : Nat) (p : Int32) : Nat → sM
  | 0 => M
  | k + 1 => crS (crL M n b p k) n b p k
theorem Fc_crS {M M0 : sM} {n : Nat} {b : Nat} {p : Int32} {k : Nat} (fr : Fc M M0) : Fc (crS M n b p k) M0 := (Fc_cond (Fc_cond (Fc_cond (Fc_B rfl fr) fr) fr) fr)
theorem Fc_crL {M M0 : sM} {n : Nat} {b : Nat} {p : Int32} (fr : Fc M M0) : ∀ k, Fc (crL M n b p k) M0
  | 0 => fr
  | k + 1 => Fc_crS (Fc_crL fr k)
set_option maxHeartbeats 4000000 in
set_option maxRecDepth 10000 in
theorem c36_2_b {t : sT} {Q : sRs → sT → Prop} {M : sM} {n : Nat} {T : Nat} {k : Nat} {b : Nat} {p : Int32} {d0 : sV}
    (hM : Rl t M n T)
    (hc : Sf t M n T)
    (hR : Ri M n)
    (hk : k < n)
    (hb : b < 5)
    (q : ∀ (t' : sT) (e0 : sV), Rl t' (crS M n b p k) n T → np t' = np t → qp t' = qp t → X 36 2 [.inr (.inr (4, (some 0))), .inr (.inr (1, (some b))), .inl p, .inl (io (k + 1)), e0] [] t' Q) :
    X 36 2 [.inr (.inr (4, (some 0))), .inr (.inr (1, (some b))), .inl p, .inl (io k), d0] [] t Q := by
  refine x_iload_n (pc' := 3) rfl rfl rfl ?_
  refine x_aload_n (pc' := 4) rfl rfl rfl rfl rfl ?_
  refine x_gR (pc' := 7) (r := (some 1)) rfl rfl rfl (kR_257_0 hc.1) ?_
  refine x_cv (ls0 := [_]) (rest := [_]) rfl rfl rfl rfl rfl ?_
  refine x_aload_n (pc' := 1) rfl rfl rfl rfl rfl ?_
  refine x_gI (pc' := 4) (x := (io n)) rfl rfl rfl (Sf_n hc) ?_
  refine x_reti rfl rfl ?_
  refine sK_i (pc' := 10) rfl ?_
  refine x_icmp_n (a' := 64) (pc' := 13) (z := decide (k < n)) rfl rfl rfl (ic_gen (p := k) (q := n) (Nat.lt_trans hk (gn31 hR)) (gn31 hR)) (fun h => absurd hk (of_decide_eq_false h)) (fun _ => ?_)
  refine x_aload_n (pc' := 14) rfl rfl rfl rfl rfl ?_
  refine x_gR (pc' := 17) (r := (some 1)) rfl rfl rfl (kR_257_0 hc.1) ?_
  refine x_iload_n (pc' := 18) rfl rfl rfl ?_
  refine x_cv (ls0 := [_, _]) (rest := []) rfl rfl rfl rfl rfl ?_
  refine Sf_gO hc hR hk ?_
  refine sK_i (pc' := 21) rfl ?_
  refine x_cast (pc' := 24) rfl rfl rfl ?_
  refine x_astore (pc' := 26) (ls' := [_, _, _, _, _]) rfl rfl rfl rfl rfl ?_
  refine x_aload (pc' := 28) rfl rfl rfl rfl rfl ?_
  refine x_gI (pc' := 31) (x := (mA M 19 k)) rfl rfl rfl (kA hM rfl hk) ?_
  refine x_if_n (a' := 58) (pc' := 34) (z := decide ((mA M 19 k) = 0)) rfl rfl rfl (ik_ne _ _) (fun q2 => ?_) (fun q2 => ?_)
  · refine x_iinc (pc' := 61) (y := (io (k + 1))) (ls' := [_, _, _, _, _]) rfl rfl rfl (io_add k 1) rfl ?_
    refine x_goto (pc' := 2) rfl rfl ?_
    exact q t (.inr (.inr (8, (some k)))) (Rl_eq (by simp only [crS, q2, cd_t, cd_f]) hM) rfl rfl
  · refine x_aload (pc' := 36) rfl rfl rfl rfl rfl ?_
    refine x_gR (pc' := 39) (r := (some (oB M k))) rfl rfl rfl (Sf_514 hc hk) ?_
    refine x_aload_n (pc' := 40) rfl rfl rfl rfl rfl ?_
    refine x_acmp_nen (a' := 58) (pc' := 43) (z := decide (oB M k = b)) rfl rfl rfl rfl dec_some (fun q3 => ?_) (fun q3 => ?_)
    · refine x_iinc (pc' := 61) (y := (io (k + 1))) (ls' := [_, _, _, _, _]) rfl rfl rfl (io_add k 1) rfl ?_
      refine x_goto (pc' := 2) rfl rfl ?_
      exact q t (.inr (.inr (8, (some k)))) (Rl_eq (by simp only [crS, q2, q3, cd_t, cd_f]) hM) rfl rfl
    · refine x_aload (pc' := 45) rfl rfl rfl rfl rfl ?_
      refine x_iload_n (pc' := 46) rfl rfl rfl ?_
      refine x_cv (ls0 := [_, _]) (rest := []) rfl rfl rfl rfl rfl ?_
      refine x_aload_n (pc' := 1) rfl rfl rfl rfl rfl ?_
      refine x_gZ (pc' := 4) (z := (mB M 3 k)) rfl rfl rfl ((kZ hM rfl hk).trans (congrFun (Fc.f3 (Fc.refl _)) _)) ?_
      have J6 : X 73 36 [.inr (.inr (8, (some k))), .inl p] [.inl (bz (bif (mB M 3 k) then (!(decide (p < (mA M 20 k)))) else (!(decide ((mA M 20 k) < p)))))] t (sK 73 36 46 [.inr (.inr (4, (some 0))), .inr (.inr (1, (some b))), .inl p, .inl (io k), .inr (.inr (8, (some k)))] [] Q) := by
        refine x_retz (z := (bif (mB M 3 k) then (!(decide (p < (mA M 20 k)))) else (!(decide ((mA M 20 k) < p))))) rfl rfl ?_
        refine sK_i (pc' := 49) rfl ?_
        refine x_ifeq_z (a' := 58) (pc' := 52) (z := (bif (mB M 3 k) then (!(decide (p < (mA M 20 k)))) else (!(decide ((mA M 20 k) < p))))) rfl rfl rfl (fun q8 => ?_) (fun q8 => ?_)
        · refine x_iinc (pc' := 61) (y := (io (k + 1))) (ls' := [_, _, _, _, _]) rfl rfl rfl (io_add k 1) rfl ?_
          refine x_goto (pc' := 2) rfl rfl ?_
          exact q t (.inr (.inr (8, (some k)))) (Rl_eq (by simp only [crS, q2, q3, q8, cd_t, cd_f]) hM) rfl rfl
        · refine x_aload (pc' := 54) rfl rfl rfl rfl rfl ?_
          refine x_iconst (pc' := 55) rfl rfl ?_
          refine x_pZ (pc' := 58) (z := true) rfl rfl rfl rfl ?_
          refine x_iinc (pc' := 61) (y := (io (k + 1))) (ls' := [_, _, _, _, _]) rfl rfl rfl (io_add k 1) rfl ?_
          refine x_goto (pc' := 2) rfl rfl ?_
          exact q (sZw t 521 k true) (.inr (.inr (8, (some k)))) (Rl_eq (by simp only [crS, q2, q3, q8, cd_t, cd_f]) (Rl_Z rfl hM)) (np_Z1 (Sf_lt hc hk)) rfl
      refine x_ifeq_z (a' := 23) (pc' := 7) (z := (mB M 3 k)) rfl rfl rfl (fun q4 => ?_) (fun q4 => ?_)
      · refine x_iload_n (pc' := 24) rfl rfl rfl ?_
        refine x_aload_n (pc' := 25) rfl rfl rfl rfl rfl ?_
        refine x_gI (pc' := 28) (x := (mA M 20 k)) rfl rfl rfl (kA hM rfl hk) ?_
        refine x_icmp (a' := 35) (pc' := 31) (z := decide ((mA M 20 k) < p)) rfl rfl rfl rfl (fun q5 => ?_) (fun q5 => ?_)
        · refine x_iconst (pc' := 36) rfl rfl ?_
          ((try rw [q5] at J6); (try rw [q5]); (try rw [q4] at J6); (try rw [q4]); (try simp only [cd_t, cd_f, nt_t, nt_f, an_t, an_f, or_t, or_f] at J6); (try simp only [cd_t, cd_f, nt_t, nt_f, an_t, an_f, or_t, or_f]); exact J6)
        · refine x_iconst (pc' := 32) rfl rfl ?_
          refine x_goto (pc' := 36) rfl rfl ?_
          ((try rw [q5] at J6); (try rw [q5]); (try rw [q4] at J6); (try rw [q4]); (try simp only [cd_t, cd_f, nt_t, nt_f, an_t, an_f, or_t, or_f] at J6); (try simp only [cd_t, cd_f, nt_t, nt_f, an_t, an_f, or_t, or_f]); exact J6)
      · refine x_iload_n (pc' := 8) rfl rfl rfl ?_
        refine x_aload_n (pc' := 9) rfl rfl rfl rfl rfl ?_
        refine x_gI (pc' := 12) (x := (mA M 20 k)) rfl rfl rfl (kA hM rfl hk) ?_
        refine x_icmp (a' := 19) (pc' := 15) (z := decide (p < (mA M 20 k))) rfl rfl rfl rfl (fun q6 => ?_) (fun q6 => ?_)
        · refine x_iconst (pc' := 20) rfl rfl ?_
          refine x_goto (pc' := 36) rfl rfl ?_
          ((try rw [q6] at J6); (try rw [q6]); (try rw [q4] at J6); (try rw [q4]); (try simp only [cd_t, cd_f, nt_t, nt_f, an_t, an_f, or_t, or_f] at J6); (try simp only [cd_t, cd_f, nt_t, nt_f, an_t, an_f, or_t, or_f]); exact J6)
        · refine x_iconst (pc' := 16) rfl rfl ?_
          refine x_goto (pc' := 36) rfl rfl ?_
          ((try rw [q6] at J6); (try rw [q6]); (try rw [q4] at J6); (try rw [q4]); (try simp only [cd_t, cd_f, nt_t, nt_f, an_t, an_f, or_t, or_f] at J6); (try simp only [cd_t, cd_f, nt_t, nt_f, an_t, an_f, or_t, or_f]); exact J6)
set_option maxHeartbeats 4000000 in
set_option maxRecDepth 10000 in
theorem c36_2 {t : sT} {Q : sRs → sT → Prop} {M : sM} {n : Nat} {T : Nat} {b : Nat} {p : Int32} {d0 : sV}
    (hM : Rl t M n T)
    (hc : Sf t M n T)
    (hR : Ri M n)
    (hb : b < 5)
    (q : ∀ (t' : sT) (e0 : sV), Rl t' (crL M n b p n) n T → np t' = np t → qp t' = qp t → X 36 2 [.inr (.inr (4, (some 0))), .inr (.inr (1, (some b))), .inl p, .inl (io n), e0] [] t' Q) :
    X 36 2 [.inr (.inr (4, (some 0))), .inr (.inr (1, (some b))), .inl p, .inl (io 0), d0] [] t Q := by
  refine lp0 (n := n) (fun k ls u => (∃ e0, ls = [.inr (.inr (4, (some 0))), .inr (.inr (1, (some b))), .inl p, .inl (io k), e0]) ∧ Rl u (crL M n b p k) n T ∧ np u = np t ∧ qp u = qp t) ⟨⟨_, rfl⟩, hM, rfl, rfl⟩ ?_ ?_
  · rintro k ls u hk ⟨⟨e0, rfl⟩, hm9, hp9, hq9⟩ ih
    refine c36_2_b hm9 (Sf_fc (Fc_crL (Fc.refl _) k) (Sf_np hp9 hc)) (Fc.ri (Fc_crL (Fc.refl _) k) hR) hk hb ?_
    intro t' x0' h1 h2 h3
    exact ih _ _ ⟨⟨_, rfl⟩, h1, h2.trans hp9, h3.trans hq9⟩
  · rintro ls u ⟨⟨e0, rfl⟩, hm9, hp9, hq9⟩
    exact q u e0 hm9 hp9 hq9
def crF (M : sM) (n : Nat) (b : Nat) (p : Int32) : sM := (crL M n b p n)
theorem Fc_crF {M M0 : sM} {n : Nat} {b : Nat} {p : Int32} (fr : Fc M M0) : Fc (crF M n b p) M0 := (Fc_crL fr _)
set_option maxHeartbeats 4000000 in
set_option maxRecDepth 10000 in
theorem c36 {t : sT} {Q : sRs → sT → Prop} {M : sM} {n : Nat} {T : Nat} {b : Nat} {p : Int32}
    (hM : Rl t M n T)
    (hc : Sf t M n T)
    (hR : Ri M n)
    (hb : b < 5)
    (q : ∀ t', Rl t' (crF M n b p) n T → np t' = np t → qp t' = qp t → Q (.inl none) t') :
    X 36 0 [.inr (.inr (4, (some 0))), .inr (.inr (1, (some b))), .inl p, sJk, sJk] [] t Q := by
  refine x_iconst (pc' := 1) rfl rfl ?_
  refine x_istore_n (pc' := 2) (ls' := [_, _, _, _, _]) rfl rfl rfl rfl ?_
  refine c36_2 (b := b) (p := p) hM hc (Fc.ri (Fc.refl _) hR) hb (fun u1 y1_0 h1 c1 s1 => ?_)
  refine x_iload_n (pc' := 3) rfl rfl rfl ?_
  refine x_aload_n (pc' := 4) rfl rfl rfl rfl rfl ?_
  refine x_gR (pc' := 7) (r := (some 1)) rfl rfl rfl (kR_257_0 (Sf_np c1 hc).1) ?_
  refine x_cv (ls0 := [_]) (rest := [_]) rfl rfl rfl rfl rfl ?_
  refine x_aload_n (pc' := 1) rfl rfl rfl rfl rfl ?_
  refine x_gI (pc' := 4) (x := (io n)) rfl rfl rfl (Sf_n (Sf_np c1 hc)) ?_
  refine x_reti rfl rfl ?_
  refine sK_i (pc' := 10) rfl ?_
  refine x_icmp_n (a' := 64) (pc' := 13) (z := decide (n < n)) rfl rfl rfl (ic_gen (p := n) (q := n) (gn31 hR) (gn31 hR)) (fun _ => ?_) (fun h => absurd (of_decide_eq_true h) (by first | decide | omega | simp))
  refine x_ret rfl ?_
  exact (q _ h1 c1 s1)
def cnqF (M : sM) : sM := (mAw (mAw (mAw (mAw (mAw (mAw M 26 0 0) 26 1 0) 26 2 0) 26 3 0) 26 4 0) 26 5 0)
theorem Fc_cnqF {M M0 : sM} (fr : Fc M M0) : Fc (cnqF M) M0 := (Fc_A rfl (Fc_A rfl (Fc_A rfl (Fc_A rfl (Fc_A rfl (Fc_A rfl fr))))))
set_option maxHeartbeats 4000000 in
set_option maxRecDepth 10000 in
theorem c52 {t : sT} {Q : sRs → sT → Prop} {M : sM} {n : Nat} {T : Nat}
    (hM : Rl t M n T)
    (hc : Sf t M n T)
    (hR : Ri M n)
    (q : ∀ t', Rl t' (cnqF M) n T → np t' = np t → qp t' = qp t → Q (.inl none) t') :
    X 52 0 [.inr (.inr (5, (some 0))), sJk, sJk, sJk, sJk] [] t Q := by
  refine x_aload_n (pc' := 1) rfl rfl rfl rfl rfl ?_
  refine x_gR (pc' := 4) (r := (some 0)) rfl rfl rfl (kR_321_0 hc.1) ?_
  refine x_astore_n (pc' := 5) (ls' := [_, _, _, _, _]) rfl rfl rfl rfl rfl ?_
  refine x_aload_n (pc' := 6) rfl rfl rfl rfl rfl ?_
  refine x_alen (pc' := 7) (N := 6) rfl rfl rfl (kN_26_0 hc.1) (?_ : X _ _ _ (.inl 6 :: _) _ _)
  refine x_istore_n (pc' := 8) (ls' := [_, _, _, _, _]) rfl rfl rfl rfl ?_
  refine x_iconst (pc' := 9) rfl rfl ?_
  refine x_istore_n (pc' := 10) (ls' := [_, _, _, _, _]) rfl rfl rfl rfl ?_
  refine x_iload_n (pc' := 11) rfl rfl rfl ?_
  refine x_iload_n (pc' := 12) rfl rfl rfl ?_
  refine x_icmp (a' := 32) (pc' := 15) (z := false) rfl rfl rfl (by decide) (fun h => by cases h) (fun _ => ?_)
  refine x_aload_n (pc' := 16) rfl rfl rfl rfl rfl ?_
  refine x_iload_n (pc' := 17) rfl rfl rfl ?_
  refine x_aald (pc' := 18) (N := 6) (k' := 7) (r := (some 0)) rfl rfl rfl (kN_26_0 hc.1) (io_in (p := 0) (N := 6) (by decide) (by decide)) (Eq.trans (congrArg (sE t 26 0) (nn_io (p := 0) (by decide))) (kM hc.1 (by decide))) ?_
  refine x_astore (pc' := 20) (ls' := [_, _, _, _, _]) rfl rfl rfl rfl rfl ?_
  refine x_aload (pc' := 22) rfl rfl rfl rfl rfl ?_
  refine x_iconst (pc' := 23) rfl rfl ?_
  refine x_pI (pc' := 26) rfl rfl rfl ?_
  refine x_iinc (pc' := 29) (y := 1) (ls' := [_, _, _, _, _]) rfl rfl rfl rfl rfl ?_
  refine x_goto (pc' := 10) rfl rfl ?_
  refine x_iload_n (pc' := 11) rfl rfl rfl ?_
  refine x_iload_n (pc' := 12) rfl rfl rfl ?_
  refine x_icmp (a' := 32) (pc' := 15) (z := false) rfl rfl rfl (by decide) (fun h => by cases h) (fun _ => ?_)
  refine x_aload_n (pc' := 16) rfl rfl rfl rfl rfl ?_
  refine x_iload_n (pc' := 17) rfl rfl rfl ?_
  refine x_aald (pc' := 18) (N := 6) (k' := 7) (r := (some 1)) rfl rfl rfl (Eq.trans rdNI (kN_26_0 hc.1)) (io_in (p := 1) (N := 6) (by decide) (by decide)) (Eq.trans (congrArg (sE (sIw t 454 0 0) 26 0) (nn_io (p := 1) (by decide))) (Eq.trans (b := sE t 26 0 1) rfl (kM hc.1 (by decide)))) ?_
  refine x_astore (pc' := 20) (ls' := [_, _, _, _, _]) rfl rfl rfl rfl rfl ?_
  refine x_aload (pc' := 22) rfl rfl rfl rfl rfl ?_
  refine x_iconst (pc' := 23) rfl rfl ?_
  refine x_pI (pc' := 26) rfl rfl rfl ?_
  refine x_iinc (pc' := 29) (y := 2) (ls' := [_, _, _, _, _]) rfl rfl rfl rfl rfl ?_
  refine x_goto (pc' := 10) rfl rfl ?_
  refine x_iload_n (pc' := 11) rfl rfl rfl ?_
  refine x_iload_n (pc' := 12) rfl rfl rfl ?_
  refine x_icmp (a' := 32) (pc' := 15) (z := false) rfl rfl rfl (by decide) (fun h => by cases h) (fun _ => ?_)
  refine x_aload_n (pc' := 16) rfl rfl rfl rfl rfl ?_
  refine x_iload_n (pc' := 17) rfl rfl rfl ?_
  refine x_aald (pc' := 18) (N := 6) (k' := 7) (r := (some 2)) rfl rfl rfl (Eq.trans rdNI (Eq.trans rdNI (kN_26_0 hc.1))) (io_in (p := 2) (N := 6) (by decide) (by decide)) (Eq.trans (congrArg (sE (sIw (sIw t 454 0 0) 454 1 0) 26 0) (nn_io (p := 2) (by decide))) (Eq.trans (b := sE t 26 0 2) rfl (kM hc.1 (by decide)))) ?_
  refine x_astore (pc' := 20) (ls' := [_, _, _, _, _]) rfl rfl rfl rfl rfl ?_
  refine x_aload (pc' := 22) rfl rfl rfl rfl rfl ?_
  refine x_iconst (pc' := 23) rfl rfl ?_
  refine x_pI (pc' := 26) rfl rfl rfl ?_
  refine x_iinc (pc' := 29) (y := 3) (ls' := [_, _, _, _, _]) rfl rfl rfl rfl rfl ?_
  refine x_goto (pc' := 10) rfl rfl ?_
  refine x_iload_n (pc' := 11) rfl rfl rfl ?_
  refine x_iload_n (pc' := 12) rfl rfl rfl ?_
  refine x_icmp (a' := 32) (pc' := 15) (z := false) rfl rfl rfl (by decide) (fun h => by cases h) (fun _ => ?_)
  refine x_aload_n (pc' := 16) rfl rfl rfl rfl rfl ?_
  refine x_iload_n (pc' := 17) rfl rfl rfl ?_
  refine x_aald (pc' := 18) (N := 6) (k' := 7) (r := (some 3)) rfl rfl rfl (Eq.trans rdNI (Eq.trans rdNI (Eq.trans rdNI (kN_26_0 hc.1)))) (io_in (p := 3) (N := 6) (by decide) (by decide)) (Eq.trans (congrArg (sE (sIw (sIw (sIw t 454 0 0) 454 1 0) 454 2 0) 26 0) (nn_io (p := 3) (by decide))) (Eq.trans (b := sE t 26 0 3) rfl (kM hc.1 (by decide)))) ?_
  refine x_astore (pc' := 20) (ls' := [_, _, _, _, _]) rfl rfl rfl rfl rfl ?_
  refine x_aload (pc' := 22) rfl rfl rfl rfl rfl ?_
  refine x_iconst (pc' := 23) rfl rfl ?_
  refine x_pI (pc' := 26) rfl rfl rfl ?_
  refine x_iinc (pc' := 29) (y := 4) (ls' := [_, _, _, _, _]) rfl rfl rfl rfl rfl ?_
  refine x_goto (pc' := 10) rfl rfl ?_
  refine x_iload_n (pc' := 11) rfl rfl rfl ?_
  refine x_iload_n (pc' := 12) rfl rfl rfl ?_
  refine x_icmp (a' := 32) (pc' := 15) (z := false) rfl rfl rfl (by decide) (fun h => by cases h) (fun _ => ?_)
  refine x_aload_n (pc' := 16) rfl rfl rfl rfl rfl ?_
  refine x_iload_n (pc' := 17) rfl rfl rfl ?_
  refine x_aald (pc' := 18) (N := 6) (k' := 7) (r := (some 4)) rfl rfl rfl (Eq.trans rdNI (Eq.trans rdNI (Eq.trans rdNI (Eq.trans rdNI (kN_26_0 hc.1))))) (io_in (p := 4) (N := 6) (by decide) (by decide)) (Eq.trans (congrArg (sE (sIw (sIw (sIw (sIw t 454 0 0) 454 1 0) 454 2 0) 454 3 0) 26 0) (nn_io (p := 4) (by decide))) (Eq.trans (b := sE t 26 0 4) rfl (kM hc.1 (by decide)))) ?_
  refine x_astore (pc' := 20) (ls' := [_, _, _, _, _]) rfl rfl rfl rfl rfl ?_
  refine x_aload (pc' := 22) rfl rfl rfl rfl rfl ?_
  refine x_iconst (pc' := 23) rfl rfl ?_
  refine x_pI (pc' := 26) rfl rfl rfl ?_
  refine x_iinc (pc' := 29) (y := 5) (ls' := [_, _, _, _, _]) rfl rfl rfl rfl rfl ?_
  refine x_goto (pc' := 10) rfl rfl ?_
  refine x_iload_n (pc' := 11) rfl rfl rfl ?_
  refine x_iload_n (pc' := 12) rfl rfl rfl ?_
  refine x_icmp (a' := 32) (pc' := 15) (z := false) rfl rfl rfl (by decide) (fun h => by cases h) (fun _ => ?_)
  refine x_aload_n (pc' := 16) rfl rfl rfl rfl rfl ?_
  refine x_iload_n (pc' := 17) rfl rfl rfl ?_
  refine x_aald (pc' := 18) (N := 6) (k' := 7) (r := (some 5)) rfl rfl rfl (Eq.trans rdNI (Eq.trans rdNI (Eq.trans rdNI (Eq.trans rdNI (Eq.trans rdNI (kN_26_0 hc.1)))))) (io_in (p := 5) (N := 6) (by decide) (by decide)) (Eq.trans (congrArg (sE (sIw (sIw (sIw (sIw (sIw t 454 0 0) 454 1 0) 454 2 0) 454 3 0) 454 4 0) 26 0) (nn_io (p := 5) (by decide))) (Eq.trans (b := sE t 26 0 5) rfl (kM hc.1 (by decide)))) ?_
  refine x_astore (pc' := 20) (ls' := [_, _, _, _, _]) rfl rfl rfl rfl rfl ?_
  refine x_aload (pc' := 22) rfl rfl rfl rfl rfl ?_
  refine x_iconst (pc' := 23) rfl rfl ?_
  refine x_pI (pc' := 26) rfl rfl rfl ?_
  refine x_iinc (pc' := 29) (y := 6) (ls' := [_, _, _, _, _]) rfl rfl rfl rfl rfl ?_
  refine x_goto (pc' := 10) rfl rfl ?_
  refine x_iload_n (pc' := 11) rfl rfl rfl ?_
  refine x_iload_n (pc' := 12) rfl rfl rfl ?_
  refine x_icmp (a' := 32) (pc' := 15) (z := true) rfl rfl rfl (by decide) (fun _ => ?_) (fun h => by cases h)
  refine x_ret rfl ?_
  exact (q _ (Rl_I rfl (Rl_I rfl (Rl_I rfl (Rl_I rfl (Rl_I rfl (Rl_I rfl hM)))))) ((np_I rfl).trans ((np_I rfl).trans ((np_I rfl).trans ((np_I rfl).trans ((np_I rfl).trans (np_I rfl)))))) rfl)
def cnbF (M : sM) : sM := (mBw (mBw (mBw (mBw (mBw (mBw M 1 0 false) 1 1 false) 1 2 false) 1 3 false) 1 4 false) 1 5 false)
theorem Fc_cnbF {M M0 : sM} (fr : Fc M M0) : Fc (cnbF M) M0 := (Fc_B rfl (Fc_B rfl (Fc_B rfl (Fc_B rfl (Fc_B rfl (Fc_B rfl fr))))))
set_option maxHeartbeats 4000000 in
set_option maxRecDepth 10000 in
theorem c54 {t : sT} {Q : sRs → sT → Prop} {M : sM} {n : Nat} {T : Nat}
    (hM : Rl t M n T)
    (hc : Sf t M n T)
    (hR : Ri M n)
    (q : ∀ t', Rl t' (cnbF M) n T → np t' = np t → qp t' = qp t → Q (.inl none) t') :
    X 54 0 [.inr (.inr (5, (some 0))), sJk, sJk, sJk, sJk] [] t Q := by
  refine x_aload_n (pc' := 1) rfl rfl rfl rfl rfl ?_
  refine x_gR (pc' := 4) (r := (some 0)) rfl rfl rfl (kR_321_0 hc.1) ?_
  refine x_astore_n (pc' := 5) (ls' := [_, _, _, _, _]) rfl rfl rfl rfl rfl ?_
  refine x_aload_n (pc' := 6) rfl rfl rfl rfl rfl ?_
  refine x_alen (pc' := 7) (N := 6) rfl rfl rfl (kN_26_0 hc.1) (?_ : X _ _ _ (.inl 6 :: _) _ _)
  refine x_istore_n (pc' := 8) (ls' := [_, _, _, _, _]) rfl rfl rfl rfl ?_
  refine x_iconst (pc' := 9) rfl rfl ?_
  refine x_istore_n (pc' := 10) (ls' := [_, _, _, _, _]) rfl rfl rfl rfl ?_
  refine x_iload_n (pc' := 11) rfl rfl rfl ?_
  refine x_iload_n (pc' := 12) rfl rfl rfl ?_
  refine x_icmp (a' := 32) (pc' := 15) (z := false) rfl rfl rfl (by decide) (fun h => by cases h) (fun _ => ?_)
  refine x_aload_n (pc' := 16) rfl rfl rfl rfl rfl ?_
  refine x_iload_n (pc' := 17) rfl rfl rfl ?_
  refine x_aald (pc' := 18) (N := 6) (k' := 7) (r := (some 0)) rfl rfl rfl (kN_26_0 hc.1) (io_in (p := 0) (N := 6) (by decide) (by decide)) (Eq.trans (congrArg (sE t 26 0) (nn_io (p := 0) (by decide))) (kM hc.1 (by decide))) ?_
  refine x_astore (pc' := 20) (ls' := [_, _, _, _, _]) rfl rfl rfl rfl rfl ?_
  refine x_aload (pc' := 22) rfl rfl rfl rfl rfl ?_
  refine x_iconst (pc' := 23) rfl rfl ?_
  refine x_pZ (pc' := 26) (z := false) rfl rfl rfl rfl ?_
  refine x_iinc (pc' := 29) (y := 1) (ls' := [_, _, _, _, _]) rfl rfl rfl rfl rfl ?_
  refine x_goto (pc' := 10) rfl rfl ?_
  refine x_iload_n (pc' := 11) rfl rfl rfl ?_
  refine x_iload_n (pc' := 12) rfl rfl rfl ?_
  refine x_icmp (a' := 32) (pc' := 15) (z := false) rfl rfl rfl (by decide) (fun h => by cases h) (fun _ => ?_)
  refine x_aload_n (pc' := 16) rfl rfl rfl rfl rfl ?_
  refine x_iload_n (pc' := 17) rfl rfl rfl ?_
  refine x_aald (pc' := 18) (N := 6) (k' := 7) (r := (some 1)) rfl rfl rfl (Eq.trans rdNZ (kN_26_0 hc.1)) (io_in (p := 1) (N := 6) (by decide) (by decide)) (Eq.trans (congrArg (sE (sZw t 457 0 false) 26 0) (nn_io (p := 1) (by decide))) (Eq.trans (b := sE t 26 0 1) rfl (kM hc.1 (by decide)))) ?_
  refine x_astore (pc' := 20) (ls' := [_, _, _, _, _]) rfl rfl rfl rfl rfl ?_
  refine x_aload (pc' := 22) rfl rfl rfl rfl rfl ?_
  refine x_iconst (pc' := 23) rfl rfl ?_
  refine x_pZ (pc' := 26) (z := false) rfl rfl rfl rfl ?_
  refine x_iinc (pc' := 29) (y := 2) (ls' := [_, _, _, _, _]) rfl rfl rfl rfl rfl ?_
  refine x_goto (pc' := 10) rfl rfl ?_
  refine x_iload_n (pc' := 11) rfl rfl rfl ?_
  refine x_iload_n (pc' := 12) rfl rfl rfl ?_
  refine x_icmp (a' := 32) (pc' := 15) (z := false) rfl rfl rfl (by decide) (fun h => by cases h) (fun _ => ?_)
  refine x_aload_n (pc' := 16) rfl rfl rfl rfl rfl ?_
  refine x_iload_n (pc' := 17) rfl rfl rfl ?_
  refine x_aald (pc' := 18) (N := 6) (k' := 7) (r := (some 2)) rfl rfl rfl (Eq.trans rdNZ (Eq.trans rdNZ (kN_26_0 hc.1))) (io_in (p := 2) (N := 6) (by decide) (by decide)) (Eq.trans (congrArg (sE (sZw (sZw t 457 0 false) 457 1 false) 26 0) (nn_io (p := 2) (by decide))) (Eq.trans (b := sE t 26 0 2) rfl (kM hc.1 (by decide)))) ?_
  refine x_astore (pc' := 20) (ls' := [_, _, _, _, _]) rfl rfl rfl rfl rfl ?_
  refine x_aload (pc' := 22) rfl rfl rfl rfl rfl ?_
  refine x_iconst (pc' := 23) rfl rfl ?_
  refine x_pZ (pc' := 26) (z := false) rfl rfl rfl rfl ?_
  refine x_iinc (pc' := 29) (y := 3) (ls' := [_, _, _, _, _]) rfl rfl rfl rfl rfl ?_
  refine x_goto (pc' := 10) rfl rfl ?_
  refine x_iload_n (pc' := 11) rfl rfl rfl ?_
  refine x_iload_n (pc' := 12) rfl rfl rfl ?_
  refine x_icmp (a' := 32) (pc' := 15) (z := false) rfl rfl rfl (by decide) (fun h => by cases h) (fun _ => ?_)
  refine x_aload_n (pc' := 16) rfl rfl rfl rfl rfl ?_
  refine x_iload_n (pc' := 17) rfl rfl rfl ?_
  refine x_aald (pc' := 18) (N := 6) (k' := 7) (r := (some 3)) rfl rfl rfl (Eq.trans rdNZ (Eq.trans rdNZ (Eq.trans rdNZ (kN_26_0 hc.1)))) (io_in (p := 3) (N := 6) (by decide) (by decide)) (Eq.trans (congrArg (sE (sZw (sZw (sZw t 457 0 false) 457 1 false) 457 2 false) 26 0) (nn_io (p := 3) (by decide))) (Eq.trans (b := sE t 26 0 3) rfl (kM hc.1 (by decide)))) ?_
  refine x_astore (pc' := 20) (ls' := [_, _, _, _, _]) rfl rfl rfl rfl rfl ?_
  refine x_aload (pc' := 22) rfl rfl rfl rfl rfl ?_
  refine x_iconst (pc' := 23) rfl rfl ?_
  refine x_pZ (pc' := 26) (z := false) rfl rfl rfl rfl ?_
  refine x_iinc (pc' := 29) (y := 4) (ls' := [_, _, _, _, _]) rfl rfl rfl rfl rfl ?_
  refine x_goto (pc' := 10) rfl rfl ?_
  refine x_iload_n (pc' := 11) rfl rfl rfl ?_
  refine x_iload_n (pc' := 12) rfl rfl rfl ?_
  refine x_icmp (a' := 32) (pc' := 15) (z := false) rfl rfl rfl (by decide) (fun h => by cases h) (fun _ => ?_)
  refine x_aload_n (pc' := 16) rfl rfl rfl rfl rfl ?_
  refine x_iload_n (pc' := 17) rfl rfl rfl ?_
  refine x_aald (pc' := 18) (N := 6) (k' := 7) (r := (some 4)) rfl rfl rfl (Eq.trans rdNZ (Eq.trans rdNZ (Eq.trans rdNZ (Eq.trans rdNZ (kN_26_0 hc.1))))) (io_in (p := 4) (N := 6) (by decide) (by decide)) (Eq.trans (congrArg (sE (sZw (sZw (sZw (sZw t 457 0 false) 457 1 false) 457 2 false) 457 3 false) 26 0) (nn_io (p := 4) (by decide))) (Eq.trans (b := sE t 26 0 4) rfl (kM hc.1 (by decide)))) ?_
  refine x_astore (pc' := 20) (ls' := [_, _, _, _, _]) rfl rfl rfl rfl rfl ?_
  refine x_aload (pc' := 22) rfl rfl rfl rfl rfl ?_
  refine x_iconst (pc' := 23) rfl rfl ?_
  refine x_pZ (pc' := 26) (z := false) rfl rfl rfl rfl ?_
  refine x_iinc (pc' := 29) (y := 5) (ls' := [_, _, _, _, _]) rfl rfl rfl rfl rfl ?_
  refine x_goto (pc' := 10) rfl rfl ?_
  refine x_iload_n (pc' := 11) rfl rfl rfl ?_
  refine x_iload_n (pc' := 12) rfl rfl rfl ?_
  refine x_icmp (a' := 32) (pc' := 15) (z := false) rfl rfl rfl (by decide) (fun h => by cases h) (fun _ => ?_)
  refine x_aload_n (pc' := 16) rfl rfl rfl rfl rfl ?_
  refine x_iload_n (pc' := 17) rfl rfl rfl ?_
  refine x_aald (pc' := 18) (N := 6) (k' := 7) (r := (some 5)) rfl rfl rfl (Eq.trans rdNZ (Eq.trans rdNZ (Eq.trans rdNZ (Eq.trans rdNZ (Eq.trans rdNZ (kN_26_0 hc.1)))))) (io_in (p := 5) (N := 6) (by decide) (by decide)) (Eq.trans (congrArg (sE (sZw (sZw (sZw (sZw (sZw t 457 0 false) 457 1 false) 457 2 false) 457 3 false) 457 4 false) 26 0) (nn_io (p := 5) (by decide))) (Eq.trans (b := sE t 26 0 5) rfl (kM hc.1 (by decide)))) ?_
  refine x_astore (pc' := 20) (ls' := [_, _, _, _, _]) rfl rfl rfl rfl rfl ?_
  refine x_aload (pc' := 22) rfl rfl rfl rfl rfl ?_
  refine x_iconst (pc' := 23) rfl rfl ?_
  refine x_pZ (pc' := 26) (z := false) rfl rfl rfl rfl ?_
  refine x_iinc (pc' := 29) (y := 6) (ls' := [_, _, _, _, _]) rfl rfl rfl rfl rfl ?_
  refine x_goto (pc' := 10) rfl rfl ?_
  refine x_iload_n (pc' := 11) rfl rfl rfl ?_
  refine x_iload_n (pc' := 12) rfl rfl rfl ?_
  refine x_icmp (a' := 32) (pc' := 15) (z := true) rfl rfl rfl (by decide) (fun _ => ?_) (fun h => by cases h)
  refine x_ret rfl ?_
  exact (q _ (Rl_Z rfl (Rl_Z rfl (Rl_Z rfl (Rl_Z rfl (Rl_Z rfl (Rl_Z rfl hM)))))) ((np_Z rfl).trans ((np_Z rfl).trans ((np_Z rfl).trans ((np_Z rfl).trans ((np_Z rfl).trans (np_Z rfl)))))) rfl)
def cstF (M : sM) (k : Nat) (a : Int32) : sM := (bif (decide (tK M k < 3)) then (mAw (mAw (mAw (mAw M 6 ((3 * (tB M k)) + tK M k) ((mA M 6 ((3 * (tB M k)) + tK M k)) + a)) 6 ((3 * (tS M k)) + tK M k) ((mA (mAw M 6 ((3 * (tB M k)) + tK M k) ((mA M 6 ((3 * (tB M k)) + tK M k)) + a)) 6 ((3 * (tS M k)) + tK M k)) - a)) 5 (tB M k) ((mA M 5 (tB M k)) - ((mA M 24 k) * a))) 5 (tS M k) ((mA (mAw (mAw (mAw M 6 ((3 * (tB M k)) + tK M k) ((mA M 6 ((3 * (tB M k)) + tK M k)) + a)) 6 ((3 * (tS M k)) + tK M k) ((mA (mAw M 6 ((3 * (tB M k)) + tK M k) ((mA M 6 ((3 * (tB M k)) + tK M k)) + a)) 6 ((3 * (tS M k)) + tK M k)) - a)) 5 (tB M k) ((mA M 5 (tB M k)) - ((mA M 24 k) * a))) 5 (tS M k)) + ((mA M 24 k) * a))) else (mAw (mAw M 5 (tB M k) ((mA M 5 (tB M k)) - ((mA M 24 k) * a))) 5 (tS M k) ((mA (mAw M 5 (tB M k) ((mA M 5 (tB M k)) - ((mA M 24 k) * a))) 5 (tS M k)) + ((mA M 24 k) * a))))
theorem Fc_cstF {M M0 : sM} {k : Nat} {a : Int32} (fr : Fc M M0) : Fc (cstF M k a) M0 := (Fc_cond (Fc_A rfl (Fc_A rfl (Fc_A rfl (Fc_A rfl fr)))) (Fc_A rfl (Fc_A rfl fr)))
set_option maxHeartbeats 4000000 in
set_option maxRecDepth 10000 in
theorem c77 {t : sT} {Q : sRs → sT → Prop} {M : sM} {n : Nat} {T : Nat} {k : Nat} {a : Int32}
    (hM : Rl t M n T)
    (hc : Sf t M n T)
    (hR : Ri M n)
    (hk : k < T)
    (q : ∀ t', Rl t' (cstF M k a) n T → np t' = np t → qp t' = qp t → Q (.inl none) t') :
    X 77 0 [.inr (.inr (9, (some k))), .inl a, sJk] [] t Q := by
  refine x_aload_n (pc' := 1) rfl rfl rfl rfl rfl ?_
  refine x_gR (pc' := 4) (r := (some (tK M k))) rfl rfl rfl (Sf_576 hc hk) ?_
  refine x_gI (pc' := 7) (x := (io (tK M k))) rfl rfl rfl (kKn hc.1 (tKl hc hk)) ?_
  refine x_istore_n (pc' := 8) (ls' := [_, _, _]) rfl rfl rfl rfl ?_
  refine x_iload_n (pc' := 9) rfl rfl rfl ?_
  refine x_if (a' := 62) (pc' := 12) (z := decide (tK M k < 0)) rfl rfl rfl (ic_lt (p := tK M k) (q := 0) (gc31 (tKl hc hk)) (by decide)) (fun h => absurd (of_decide_eq_true h) (by first | decide | omega | simp)) (fun _ => ?_)
  refine x_iload_n (pc' := 13) rfl rfl rfl ?_
  refine x_aload_n (pc' := 14) rfl rfl rfl rfl rfl ?_
  refine x_gR (pc' := 17) (r := (some (tB M k))) rfl rfl rfl (Sf_577 hc hk) ?_
  refine x_gR (pc' := 20) (r := (some ((tB M k) + 1))) rfl rfl rfl (kMp hc.1 (tBl hc hk)).1 ?_
  refine x_alen (pc' := 21) (N := 3) rfl rfl rfl (kMp hc.1 (tBl hc hk)).2.1 (?_ : X _ _ _ (.inl 3 :: _) _ _)
  refine x_icmp_n (a' := 62) (pc' := 24) (z := decide (tK M k < 3)) rfl rfl rfl (ic_gen (p := tK M k) (q := 3) (gc31 (tKl hc hk)) (by decide)) (fun q2 => ?_) (fun q2 => ?_)
  · refine x_aload_n (pc' := 63) rfl rfl rfl rfl rfl ?_
    refine x_gR (pc' := 66) (r := (some (tB M k))) rfl rfl rfl (Sf_577 hc hk) ?_
    refine x_dup (pc' := 67) rfl rfl rfl ?_
    refine x_gI (pc' := 70) (x := (mA M 5 (tB M k))) rfl rfl rfl (kA hM rfl (tBl hc hk)) ?_
    refine x_aload_n (pc' := 71) rfl rfl rfl rfl rfl ?_
    refine x_gI (pc' := 74) (x := (mA M 24 k)) rfl rfl rfl (kA hM rfl hk) ?_
    refine x_iload_n (pc' := 75) rfl rfl rfl ?_
    refine x_imul (pc' := 76) (z := ((mA M 24 k) * a)) rfl rfl rfl ?_
    refine x_isub (pc' := 77) (z := ((mA M 5 (tB M k)) - ((mA M 24 k) * a))) rfl rfl rfl ?_
    refine x_pI (pc' := 80) rfl rfl rfl ?_
    refine x_aload_n (pc' := 81) rfl rfl rfl rfl rfl ?_
    refine x_gR (pc' := 84) (r := (some (tS M k))) rfl rfl rfl (Eq.trans (b := sR t 578 k) rfl (Sf_578 hc hk)) ?_
    refine x_dup (pc' := 85) rfl rfl rfl ?_
    refine x_gI (pc' := 88) (x := (mA (mAw M 5 (tB M k) ((mA M 5 (tB M k)) - ((mA M 24 k) * a))) 5 (tS M k))) rfl rfl rfl (kA (Rl_I rfl hM) rfl (tSl hc hk)) ?_
    refine x_aload_n (pc' := 89) rfl rfl rfl rfl rfl ?_
    refine x_gI (pc' := 92) (x := (mA M 24 k)) rfl rfl rfl (Eq.trans (b := sI t 579 k) rfl (kA hM rfl hk)) ?_
    refine x_iload_n (pc' := 93) rfl rfl rfl ?_
    refine x_imul (pc' := 94) (z := ((mA M 24 k) * a)) rfl rfl rfl ?_
    refine x_iadd (pc' := 95) (z := ((mA (mAw M 5 (tB M k) ((mA M 5 (tB M k)) - ((mA M 24 k) * a))) 5 (tS M k)) + ((mA M 24 k) * a))) rfl rfl rfl ?_
    refine x_pI (pc' := 98) rfl rfl rfl ?_
    refine x_ret rfl ?_
    exact (q _ (Rl_eq (by simp only [cstF, q2, cd_t, cd_f]) (Rl_I rfl (Rl_I rfl hM))) ((np_I rfl).trans (np_I rfl)) rfl)
  · refine x_iload_n (pc' := 25) rfl rfl rfl ?_
    refine x_aload_n (pc' := 26) rfl rfl rfl rfl rfl ?_
    refine x_gR (pc' := 29) (r := (some (tS M k))) rfl rfl rfl (Sf_578 hc hk) ?_
    refine x_gR (pc' := 32) (r := (some ((tS M k) + 1))) rfl rfl rfl (kMp hc.1 (tSl hc hk)).1 ?_
    refine x_alen (pc' := 33) (N := 3) rfl rfl rfl (kMp hc.1 (tSl hc hk)).2.1 (?_ : X _ _ _ (.inl 3 :: _) _ _)
    refine x_icmp_n (a' := 62) (pc' := 36) (z := decide (tK M k < 3)) rfl rfl rfl (ic_gen (p := tK M k) (q := 3) (gc31 (tKl hc hk)) (by decide)) (fun h => absurd (of_decide_eq_true q2) (of_decide_eq_false h)) (fun _ => ?_)
    refine x_aload_n (pc' := 37) rfl rfl rfl rfl rfl ?_
    refine x_gR (pc' := 40) (r := (some (tB M k))) rfl rfl rfl (Sf_577 hc hk) ?_
    refine x_gR (pc' := 43) (r := (some ((tB M k) + 1))) rfl rfl rfl (kMp hc.1 (tBl hc hk)).1 ?_
    refine x_iload_n (pc' := 44) rfl rfl rfl ?_
    refine x_dup2 (pc' := 45) rfl rfl rfl rfl ?_
    refine x_iald (pc' := 46) (N := 3) (x := (mA M 6 ((3 * (tB M k)) + tK M k))) rfl rfl rfl (kMp hc.1 (tBl hc hk)).2.1 (io_in (p := tK M k) (N := 3) (of_decide_eq_true q2) (by decide)) (Eq.trans (congrArg (sA t 20 ((tB M k) + 1)) (nn_io (p := tK M k) (Nat.lt_trans (of_decide_eq_true q2) (by decide)))) (kP (m := (tB M k)) (c := tK M k) hM (tBl hc hk) (of_decide_eq_true q2))) ?_
    refine x_iload_n (pc' := 47) rfl rfl rfl ?_
    refine x_iadd (pc' := 48) (z := ((mA M 6 ((3 * (tB M k)) + tK M k)) + a)) rfl rfl rfl ?_
    refine x_iast (pc' := 49) (N := 3) (p := tK M k) rfl rfl rfl (kMp hc.1 (tBl hc hk)).2.1 (io_in (p := tK M k) (N := 3) (of_decide_eq_true q2) (by decide)) (nn_io (p := tK M k) (Nat.lt_trans (of_decide_eq_true q2) (by decide))) ?_
    refine x_aload_n (pc' := 50) rfl rfl rfl rfl rfl ?_
    refine x_gR (pc' := 53) (r := (some (tS M k))) rfl rfl rfl (Eq.trans (b := sR t 578 k) rfl (Sf_578 hc hk)) ?_
    refine x_gR (pc' := 56) (r := (some ((tS M k) + 1))) rfl rfl rfl (Eq.trans (b := sR t 449 (tS M k)) rfl (kMp hc.1 (tSl hc hk)).1) ?_
    refine x_iload_n (pc' := 57) rfl rfl rfl ?_
    refine x_dup2 (pc' := 58) rfl rfl rfl rfl ?_
    refine x_iald (pc' := 59) (N := 3) (x := (mA (mAw M 6 ((3 * (tB M k)) + tK M k) ((mA M 6 ((3 * (tB M k)) + tK M k)) + a)) 6 ((3 * (tS M k)) + tK M k))) rfl rfl rfl (kMp hc.1 (tSl hc hk)).2.1 (io_in (p := tK M k) (N := 3) (of_decide_eq_true q2) (by decide)) (Eq.trans (congrArg (sA (sAw t 20 ((tB M k) + 1) (tK M k) ((mA M 6 ((3 * (tB M k)) + tK M k)) + a)) 20 ((tS M k) + 1)) (nn_io (p := tK M k) (Nat.lt_trans (of_decide_eq_true q2) (by decide)))) (kP (m := (tS M k)) (c := tK M k) (Rl_P (m := (tB M k)) (c := tK M k) (tBl hc hk) (of_decide_eq_true q2) hM) (tSl hc hk) (of_decide_eq_true q2))) ?_
    refine x_iload_n (pc' := 60) rfl rfl rfl ?_
    refine x_isub (pc' := 61) (z := ((mA (mAw M 6 ((3 * (tB M k)) + tK M k) ((mA M 6 ((3 * (tB M k)) + tK M k)) + a)) 6 ((3 * (tS M k)) + tK M k)) - a)) rfl rfl rfl ?_
    refine x_iast (pc' := 62) (N := 3) (p := tK M k) rfl rfl rfl (kMp hc.1 (tSl hc hk)).2.1 (io_in (p := tK M k) (N := 3) (of_decide_eq_true q2) (by decide)) (nn_io (p := tK M k) (Nat.lt_trans (of_decide_eq_true q2) (by decide))) ?_
    refine x_aload_n (pc' := 63) rfl rfl rfl rfl rfl ?_
    refine x_gR (pc' := 66) (r := (some (tB M k))) rfl rfl rfl (Eq.trans (b := sR t 577 k) rfl (Sf_577 hc hk)) ?_
    refine x_dup (pc' := 67) rfl rfl rfl ?_
    refine x_gI (pc' := 70) (x := (mA M 5 (tB M k))) rfl rfl rfl (Eq.trans (b := sI t 451 (tB M k)) rfl (kA hM rfl (tBl hc hk))) ?_
    refine x_aload_n (pc' := 71) rfl rfl rfl rfl rfl ?_
    refine x_gI (pc' := 74) (x := (mA M 24 k)) rfl rfl rfl (Eq.trans (b := sI t 579 k) rfl (kA hM rfl hk)) ?_
    refine x_iload_n (pc' := 75) rfl rfl rfl ?_
    refine x_imul (pc' := 76) (z := ((mA M 24 k) * a)) rfl rfl rfl ?_
    refine x_isub (pc' := 77) (z := ((mA M 5 (tB M k)) - ((mA M 24 k) * a))) rfl rfl rfl ?_
    refine x_pI (pc' := 80) rfl rfl rfl ?_
    refine x_aload_n (pc' := 81) rfl rfl rfl rfl rfl ?_
    refine x_gR (pc' := 84) (r := (some (tS M k))) rfl rfl rfl (Eq.trans (b := sR t 578 k) rfl (Sf_578 hc hk)) ?_
    refine x_dup (pc' := 85) rfl rfl rfl ?_
    refine x_gI (pc' := 88) (x := (mA (mAw (mAw (mAw M 6 ((3 * (tB M k)) + tK M k) ((mA M 6 ((3 * (tB M k)) + tK M k)) + a)) 6 ((3 * (tS M k)) + tK M k) ((mA (mAw M 6 ((3 * (tB M k)) + tK M k) ((mA M 6 ((3 * (tB M k)) + tK M k)) + a)) 6 ((3 * (tS M k)) + tK M k)) - a)) 5 (tB M k) ((mA M 5 (tB M k)) - ((mA M 24 k) * a))) 5 (tS M k))) rfl rfl rfl (kA (Rl_I rfl (Rl_P (m := (tS M k)) (c := tK M k) (tSl hc hk) (of_decide_eq_true q2) (Rl_P (m := (tB M k)) (c := tK M k) (tBl hc hk) (of_decide_eq_true q2) hM))) rfl (tSl hc hk)) ?_
    refine x_aload_n (pc' := 89) rfl rfl rfl rfl rfl ?_
    refine x_gI (pc' := 92) (x := (mA M 24 k)) rfl rfl rfl (Eq.trans (b := sI t 579 k) rfl (kA hM rfl hk)) ?_
    refine x_iload_n (pc' := 93) rfl rfl rfl ?_
    refine x_imul (pc' := 94) (z := ((mA M 24 k) * a)) rfl rfl rfl ?_
    refine x_iadd (pc' := 95) (z := ((mA (mAw (mAw (mAw M 6 ((3 * (tB M k)) + tK M k) ((mA M 6 ((3 * (tB M k)) + tK M k)) + a)) 6 ((3 * (tS M k)) + tK M k) ((mA (mAw M 6 ((3 * (tB M k)) + tK M k) ((mA M 6 ((3 * (tB M k)) + tK M k)) + a)) 6 ((3 * (tS M k)) + tK M k)) - a)) 5 (tB M k) ((mA M 5 (tB M k)) - ((mA M 24 k) * a))) 5 (tS M k)) + ((mA M 24 k) * a))) rfl rfl rfl ?_
    refine x_pI (pc' := 98) rfl rfl rfl ?_
    refine x_ret rfl ?_
    exact (q _ (Rl_eq (by simp only [cstF, q2, cd_t, cd_f]) (Rl_I rfl (Rl_I rfl (Rl_P (m := (tS M k)) (c := tK M k) (tSl hc hk) (of_decide_eq_true q2) (Rl_P (m := (tB M k)) (c := tK M k) (tBl hc hk) (of_decide_eq_true q2) hM))))) ((np_I rfl).trans ((np_I rfl).trans (np_A.trans np_A))) rfl)
