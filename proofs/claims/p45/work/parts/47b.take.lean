/-! the class's methods (printed by clsgen.py) -/
set_option maxHeartbeats 4000000 in
set_option maxRecDepth 10000 in
theorem n34 {t : sT} {Q : sRs → sT → Prop} {M : sM} {n : Nat} {T : Nat} {o : Nat} {a : Int32}
    (hM : Rl t M n T)
    (hc : Sf t M n T)
    (hR : Ri M n)
    (ho : o < n)
    (k0 : X 33 0 [.inr (.inr (4, (some 0))), .inr (.inr (8, (some o))), .inl a] [] t (sK 33 34 3 [.inr (.inr (4, (some 0))), .inr (.inr (8, (some o))), .inl a] [] Q)) :
    X 34 0 [.inr (.inr (4, (some 0))), .inr (.inr (8, (some o))), .inl a] [] t Q := by
  refine x_aload_n (pc' := 1) rfl rfl rfl rfl rfl ?_
  refine x_aload_n (pc' := 2) rfl rfl rfl rfl rfl ?_
  refine x_iload_n (pc' := 3) rfl rfl rfl ?_
  refine x_cv (ls0 := [_, _, _]) (rest := []) rfl rfl rfl rfl rfl ?_
  exact k0
set_option maxHeartbeats 4000000 in
set_option maxRecDepth 10000 in
theorem n34_6 {t : sT} {Q : sRs → sT → Prop} {M : sM} {n : Nat} {T : Nat} {o : Nat} {a : Int32}
    (hM : Rl t M n T)
    (hc : Sf t M n T)
    (hR : Ri M n)
    (ho : o < n)
    (k0 : ¬ ((mA M 15 o) = 0) → Q (.inl none) t)
    (k1 : (mA M 15 o) = 0 → X 11 0 [.inr (.inr (1, (some (oB M o)))), .inr (.inr (8, (some o))), sJk, sJk] [] t (sK 11 34 18 [.inr (.inr (4, (some 0))), .inr (.inr (8, (some o))), .inl a] [] Q)) :
    X 34 6 [.inr (.inr (4, (some 0))), .inr (.inr (8, (some o))), .inl a] [] t Q := by
  refine x_aload_n (pc' := 7) rfl rfl rfl rfl rfl ?_
  refine x_gI (pc' := 10) (x := (mA M 15 o)) rfl rfl rfl (kA hM rfl ho) ?_
  refine x_if_n (a' := 26) (pc' := 13) (z := decide ((mA M 15 o) = 0)) rfl rfl rfl (ik_ne _ _) (fun q1 => ?_) (fun q1 => ?_)
  · refine x_ret rfl ?_
    exact k0 (of_decide_eq_false q1)
  · refine x_aload_n (pc' := 14) rfl rfl rfl rfl rfl ?_
    refine x_gR (pc' := 17) (r := (some (oB M o))) rfl rfl rfl (Sf_514 hc ho) ?_
    refine x_aload_n (pc' := 18) rfl rfl rfl rfl rfl ?_
    refine x_cv (ls0 := [_, _, sJk, sJk]) (rest := []) rfl rfl rfl rfl rfl ?_
    exact k1 (of_decide_eq_true q1)
set_option maxHeartbeats 4000000 in
set_option maxRecDepth 10000 in
theorem n34_21 {t : sT} {Q : sRs → sT → Prop} {M : sM} {n : Nat} {T : Nat} {o : Nat} {a : Int32}
    (hM : Rl t M n T)
    (hc : Sf t M n T)
    (hR : Ri M n)
    (ho : o < n)
    (k0 : Q (.inl none) (sIw t 522 o 2)) :
    X 34 21 [.inr (.inr (4, (some 0))), .inr (.inr (8, (some o))), .inl a] [] t Q := by
  refine x_aload_n (pc' := 22) rfl rfl rfl rfl rfl ?_
  refine x_iconst (pc' := 23) rfl rfl ?_
  refine x_pI (pc' := 26) rfl rfl rfl ?_
  refine x_ret rfl ?_
  exact k0
set_option maxHeartbeats 4000000 in
set_option maxRecDepth 10000 in
theorem n35 {t : sT} {Q : sRs → sT → Prop} {M : sM} {n : Nat} {T : Nat} {o : Nat} {a : Int32}
    (hM : Rl t M n T)
    (hc : Sf t M n T)
    (hR : Ri M n)
    (ho : o < n)
    (k0 : X 34 0 [.inr (.inr (4, (some 0))), .inr (.inr (8, (some o))), .inl a] [] t (sK 34 35 3 [.inr (.inr (4, (some 0))), .inr (.inr (8, (some o))), .inl a] [] Q)) :
    X 35 0 [.inr (.inr (4, (some 0))), .inr (.inr (8, (some o))), .inl a] [] t Q := by
  refine x_aload_n (pc' := 1) rfl rfl rfl rfl rfl ?_
  refine x_aload_n (pc' := 2) rfl rfl rfl rfl rfl ?_
  refine x_iload_n (pc' := 3) rfl rfl rfl ?_
  refine x_cv (ls0 := [_, _, _]) (rest := []) rfl rfl rfl rfl rfl ?_
  exact k0
set_option maxHeartbeats 4000000 in
set_option maxRecDepth 10000 in
theorem n35_6 {t : sT} {Q : sRs → sT → Prop} {M : sM} {n : Nat} {T : Nat} {o : Nat} {a : Int32}
    (hM : Rl t M n T)
    (hc : Sf t M n T)
    (hR : Ri M n)
    (ho : o < n)
    (hrs : (mA M 19 o) = 1)
    (k0 : ¬ (((mA M 17 o) - a) = 0) → Q (.inl none) (sIw t 524 o ((mA M 17 o) - a)))
    (k1 : ((mA M 17 o) - a) = 0 → ¬ (0 < (mA M 15 o)) → Q (.inl none) (sIw t 524 o ((mA M 17 o) - a)))
    (k2 : ((mA M 17 o) - a) = 0 → 0 < (mA M 15 o) → X 11 0 [.inr (.inr (1, (some (oB M o)))), .inr (.inr (8, (some o))), sJk, sJk] [] (sIw t 524 o ((mA M 17 o) - a)) (sK 11 35 35 [.inr (.inr (4, (some 0))), .inr (.inr (8, (some o))), .inl a] [] Q)) :
    X 35 6 [.inr (.inr (4, (some 0))), .inr (.inr (8, (some o))), .inl a] [] t Q := by
  refine x_aload_n (pc' := 7) rfl rfl rfl rfl rfl ?_
  refine x_dup (pc' := 8) rfl rfl rfl ?_
  refine x_gI (pc' := 11) (x := (mA M 17 o)) rfl rfl rfl (kW hM ho hrs) ?_
  refine x_iload_n (pc' := 12) rfl rfl rfl ?_
  refine x_isub (pc' := 13) (z := ((mA M 17 o) - a)) rfl rfl rfl ?_
  refine x_pI (pc' := 16) rfl rfl rfl ?_
  refine x_aload_n (pc' := 17) rfl rfl rfl rfl rfl ?_
  refine x_gI (pc' := 20) (x := ((mA M 17 o) - a)) rfl rfl rfl sI_s ?_
  refine x_if_n (a' := 43) (pc' := 23) (z := decide (((mA M 17 o) - a) = 0)) rfl rfl rfl (ik_ne _ _) (fun q1 => ?_) (fun q1 => ?_)
  · refine x_ret rfl ?_
    exact k0 (of_decide_eq_false q1)
  · refine x_aload_n (pc' := 24) rfl rfl rfl rfl rfl ?_
    refine x_gI (pc' := 27) (x := (mA M 15 o)) rfl rfl rfl (Eq.trans (b := sI t 523 o) rfl (kA hM rfl ho)) ?_
    refine x_if_n (a' := 43) (pc' := 30) (z := decide (0 < (mA M 15 o))) rfl rfl rfl (ik_le _ _) (fun q2 => ?_) (fun q2 => ?_)
    · refine x_ret rfl ?_
      exact k1 (of_decide_eq_true q1) (of_decide_eq_false q2)
    · refine x_aload_n (pc' := 31) rfl rfl rfl rfl rfl ?_
      refine x_gR (pc' := 34) (r := (some (oB M o))) rfl rfl rfl (Eq.trans (b := sR t 514 o) rfl (Sf_514 hc ho)) ?_
      refine x_aload_n (pc' := 35) rfl rfl rfl rfl rfl ?_
      refine x_cv (ls0 := [_, _, sJk, sJk]) (rest := []) rfl rfl rfl rfl rfl ?_
      exact k2 (of_decide_eq_true q1) (of_decide_eq_true q2)
set_option maxHeartbeats 4000000 in
set_option maxRecDepth 10000 in
theorem n35_6b {t : sT} {Q : sRs → sT → Prop} {M : sM} {n : Nat} {T : Nat} {o : Nat} {a : Int32}
    (hM : Rl t M n T)
    (hc : Sf t M n T)
    (hR : Ri M n)
    (ho : o < n)
    (k0 : ¬ (((sI t 524 o) - a) = 0) → Q (.inl none) (sIw t 524 o ((sI t 524 o) - a)))
    (k1 : ((sI t 524 o) - a) = 0 → ¬ (0 < (mA M 15 o)) → Q (.inl none) (sIw t 524 o ((sI t 524 o) - a)))
    (k2 : ((sI t 524 o) - a) = 0 → 0 < (mA M 15 o) → X 11 0 [.inr (.inr (1, (some (oB M o)))), .inr (.inr (8, (some o))), sJk, sJk] [] (sIw t 524 o ((sI t 524 o) - a)) (sK 11 35 35 [.inr (.inr (4, (some 0))), .inr (.inr (8, (some o))), .inl a] [] Q)) :
    X 35 6 [.inr (.inr (4, (some 0))), .inr (.inr (8, (some o))), .inl a] [] t Q := by
  refine x_aload_n (pc' := 7) rfl rfl rfl rfl rfl ?_
  refine x_dup (pc' := 8) rfl rfl rfl ?_
  refine x_gI (pc' := 11) (x := (sI t 524 o)) rfl rfl rfl rfl ?_
  refine x_iload_n (pc' := 12) rfl rfl rfl ?_
  refine x_isub (pc' := 13) (z := ((sI t 524 o) - a)) rfl rfl rfl ?_
  refine x_pI (pc' := 16) rfl rfl rfl ?_
  refine x_aload_n (pc' := 17) rfl rfl rfl rfl rfl ?_
  refine x_gI (pc' := 20) (x := ((sI t 524 o) - a)) rfl rfl rfl sI_s ?_
  refine x_if_n (a' := 43) (pc' := 23) (z := decide (((sI t 524 o) - a) = 0)) rfl rfl rfl (ik_ne _ _) (fun q1 => ?_) (fun q1 => ?_)
  · refine x_ret rfl ?_
    exact k0 (of_decide_eq_false q1)
  · refine x_aload_n (pc' := 24) rfl rfl rfl rfl rfl ?_
    refine x_gI (pc' := 27) (x := (mA M 15 o)) rfl rfl rfl (Eq.trans (b := sI t 523 o) rfl (kA hM rfl ho)) ?_
    refine x_if_n (a' := 43) (pc' := 30) (z := decide (0 < (mA M 15 o))) rfl rfl rfl (ik_le _ _) (fun q2 => ?_) (fun q2 => ?_)
    · refine x_ret rfl ?_
      exact k1 (of_decide_eq_true q1) (of_decide_eq_false q2)
    · refine x_aload_n (pc' := 31) rfl rfl rfl rfl rfl ?_
      refine x_gR (pc' := 34) (r := (some (oB M o))) rfl rfl rfl (Eq.trans (b := sR t 514 o) rfl (Sf_514 hc ho)) ?_
      refine x_aload_n (pc' := 35) rfl rfl rfl rfl rfl ?_
      refine x_cv (ls0 := [_, _, sJk, sJk]) (rest := []) rfl rfl rfl rfl rfl ?_
      exact k2 (of_decide_eq_true q1) (of_decide_eq_true q2)
set_option maxHeartbeats 4000000 in
set_option maxRecDepth 10000 in
theorem n35_38 {t : sT} {Q : sRs → sT → Prop} {M : sM} {n : Nat} {T : Nat} {o : Nat} {a : Int32}
    (hM : Rl t M n T)
    (hc : Sf t M n T)
    (hR : Ri M n)
    (ho : o < n)
    (k0 : X 28 0 [.inr (.inr (4, (some 0))), .inr (.inr (8, (some o)))] [] t (sK 28 35 40 [.inr (.inr (4, (some 0))), .inr (.inr (8, (some o))), .inl a] [] Q)) :
    X 35 38 [.inr (.inr (4, (some 0))), .inr (.inr (8, (some o))), .inl a] [] t Q := by
  refine x_aload_n (pc' := 39) rfl rfl rfl rfl rfl ?_
  refine x_aload_n (pc' := 40) rfl rfl rfl rfl rfl ?_
  refine x_cv (ls0 := [_, _]) (rest := []) rfl rfl rfl rfl rfl ?_
  exact k0
set_option maxHeartbeats 4000000 in
set_option maxRecDepth 10000 in
theorem n35_43 {t : sT} {Q : sRs → sT → Prop} {M : sM} {n : Nat} {T : Nat} {o : Nat} {a : Int32}
    (hM : Rl t M n T)
    (hc : Sf t M n T)
    (hR : Ri M n)
    (ho : o < n)
    (k0 : Q (.inl none) t) :
    X 35 43 [.inr (.inr (4, (some 0))), .inr (.inr (8, (some o))), .inl a] [] t Q := by
  refine x_ret rfl ?_
  exact k0
section S45e
variable {t t' : sT} {M M' : sM} {n T b o : Nat} {s : Bool} {a : Int32} {Q : sRs → sT → Prop}
theorem mAw_id {A p : Nat} : mAw M A p (mA M A p) = M := by
  refine Prod.ext (funext fun A' => funext fun p' => ?_) rfl
  show (if A' = A ∧ p' = p then mA M A p else mA M A' p') = mA M A' p'
  by_cases h : A' = A ∧ p' = p
  · rw [if_pos h, h.1, h.2]
  · rw [if_neg h]
/-- what take leaves, in the reference's words -/
def tkF (M : sM) (k : Nat) (a : Int32) : sM := mAw (mAw M 15 k ((mA M 15 k) - a)) 26 (oM M k) ((mA M 26 (oM M k)) + (bif (mB M 4 k) then a else 0))
theorem ctk_tk : ctkF M o a = tkF M o a := by
  unfold ctkF tkF
  cases mB M 4 o with
  | true => rfl
  | false =>
    show mAw M 15 o (mA M 15 o - a) = mAw (mAw M 15 o (mA M 15 o - a)) 26 (oM M o) (mA M 26 (oM M o) + 0)
    rw [Int32.add_zero]
    exact (mAw_id (M := mAw M 15 o (mA M 15 o - a)) (A := 26) (p := oM M o)).symm
theorem ofF_eq : ofF M o a = bif (decide (((mA M 15 o) - a) = 0)) then (mAw (mAw (tkF M o a) 19 o 2) 17 o 0) else tkF M o a := rfl
theorem Fc_tkF {M0 : sM} (fr : Fc M M0) : Fc (tkF M o a) M0 := Fc_A rfl (Fc_A rfl fr)
theorem tk15 : mA (tkF M o a) 15 o = mA M 15 o - a := by
  show (if 15 = 26 ∧ o = oM M o then ((mA M 26 (oM M o)) + (bif (mB M 4 o) then a else 0)) else if 15 = 15 ∧ o = o then mA M 15 o - a else mA M 15 o) = _
  rw [if_neg (fun z => by cases z.1), if_pos ⟨rfl, rfl⟩]
set_option maxHeartbeats 4000000 in
set_option maxRecDepth 10000 in
theorem c34 (hM : Rl t M n T) (hc : Sf t M n T) (hR : Ri M n) (ho : o < n) (hC : rlC t M n) (hs : mA M 19 o = 1)
    (q : ∀ t', Rl t' (ofF M o a) n T → np t' = np t → rlC t' (ofF M o a) n → Q (.inl none) t') :
    X 34 0 [.inr (.inr (4, (some 0))), .inr (.inr (8, (some o))), .inl a] [] t Q := by
  refine n34 hM hc hR ho ?_
  refine c33 (a := a) hM hc hR ho (fun u h1 c1 s1 => ?_)
  rw [ctk_tk] at h1
  have hC1 : rlC u (tkF M o a) n := rlC_fr hC s1 rfl rfl rfl rfl rfl
  refine sK_v (pc' := 6) rfl ?_
  refine n34_6 h1 (Sf_fc (Fc_tkF (Fc.refl M)) (Sf_np c1 hc)) (Fc.ri (Fc_tkF (Fc.refl M)) hR) ho ?_ ?_
  · intro h
    rw [tk15] at h
    have e : ofF M o a = tkF M o a := by rw [ofF_eq, decide_eq_false h]; rfl
    exact q u (Rl_eq e.symm h1) c1 (rlC_eq e.symm hC1)
  · intro h
    rw [tk15] at h
    have e : ofF M o a = mAw (mAw (tkF M o a) 19 o 2) 17 o 0 := by rw [ofF_eq, decide_eq_true h]; rfl
    refine c11 (M := tkF M o a) h1 (Sf_fc (Fc_tkF (Fc.refl M)) (Sf_np c1 hc)) (Fc.ri (Fc_tkF (Fc.refl M)) hR) ho hC1 rst_D ⟨ho, hs, rfl, rfl⟩ (fun v h2 c2 y2 => ?_)
    refine sK_v (pc' := 21) rfl ?_
    refine n34_21 h2 (Sf_fc (Fc_tkF (Fc.refl M)) (Sf_np (c2.trans c1) hc)) (Fc.ri (Fc_tkF (Fc.refl M)) hR) ho ?_
    exact q _ (Rl_eq e.symm (Rl_st (by decide) h2)) ((np_I rfl).trans (c2.trans c1)) (rlC_eq e.symm (rlC_rm y2 (by decide)))
theorem mAw_comm {A B p p' : Nat} {v w : Int32} (h : Nat.beq A B = false) : mAw (mAw M A p v) B p' w = mAw (mAw M B p' w) A p v := by
  have h := Nat.ne_of_beq_eq_false h
  refine Prod.ext (funext fun A' => funext fun q => ?_) rfl
  show (if A' = B ∧ q = p' then w else if A' = A ∧ q = p then v else mA M A' q) = (if A' = A ∧ q = p then v else if A' = B ∧ q = p' then w else mA M A' q)
  by_cases h1 : A' = B ∧ q = p'
  · rw [if_pos h1, if_neg (fun z => h (z.1.symm.trans h1.1)), if_pos h1]
  · rw [if_neg h1, if_neg (c := A' = B ∧ q = p') h1]
theorem mAw_over {A p : Nat} {v w : Int32} : mAw (mAw M A p v) A p w = mAw M A p w := by
  refine Prod.ext (funext fun A' => funext fun q => ?_) rfl
  show (if A' = A ∧ q = p then w else if A' = A ∧ q = p then v else mA M A' q) = (if A' = A ∧ q = p then w else mA M A' q)
  by_cases h1 : A' = A ∧ q = p
  · rw [if_pos h1, if_pos h1]
  · rw [if_neg h1, if_neg h1, if_neg h1]
theorem tkF_17 {v : Int32} : tkF (mAw M 17 o v) o a = mAw (tkF M o a) 17 o v := by
  show mAw (mAw (mAw M 17 o v) 15 o (mA M 15 o - a)) 26 (oM M o) (mA M 26 (oM M o) + (bif (mB M 4 o) then a else 0)) = _
  rw [mAw_comm (A := 17) (B := 15) rfl, mAw_comm (A := 17) (B := 26) rfl]
  rfl
theorem Rl_sh0 {v : Int32} (hs : ¬ mA M 19 o = 1) (h : Rl t M n T) : Rl (sIw t 524 o v) M n T := by
  refine ⟨fun q hq o' ho => ?_, h.2.1, fun q hq => ?_, ⟨fun m c h1 h2 => h.2.2.2.1.1 m c h1 h2, fun k hk => h.2.2.2.1.2 k hk⟩, fun o' ho => ?_⟩
  · have c1 := (by decide : ∀ r ∈ sPI, ¬ r.1 = 524) q hq
    exact (if_neg (fun z => c1 z.1)).trans (h.1 q hq o' ho)
  · exact (if_neg (fun z => (by decide : ∀ r ∈ sPS, ¬ r.1 = 524) q hq z.1)).trans (h.2.2.1 q hq)
  · show mA M 17 o' = if mA M 19 o' = 1 then (if 524 = 524 ∧ o' = o then v else sI t 524 o') else 0
    by_cases e : o' = o
    · rw [e, if_neg hs]
      have := h.2.2.2.2 o' ho
      rw [e, if_neg hs] at this; exact this
    · rw [if_neg (c := 524 = 524 ∧ o' = o) (fun z => e z.2)]
      exact h.2.2.2.2 o' ho
theorem fl_z (h : mA M 15 o - a = 0) : flF M o a = ofF M o a := by
  have e1 : ∀ N : sM, mA N 15 o - a = 0 → ofF N o a = mAw (mAw (tkF N o a) 19 o 2) 17 o 0 := fun N hN => by rw [ofF_eq, decide_eq_true hN]; rfl
  have e2 : ofF (mAw M 17 o ((mA M 17 o) - a)) o a = ofF M o a := by
    rw [e1 M h, e1 (mAw M 17 o (mA M 17 o - a)) h, tkF_17, mAw_comm (A := 17) (B := 19) rfl, mAw_over]
  have e3 : mA (ofF M o a) 15 o = 0 := by
    rw [e1 M h]
    show mA (tkF M o a) 15 o = 0
    rw [tk15, h]
  unfold flF
  rw [e2, e3]
  rfl
theorem fl_n (h : ¬ mA M 15 o - a = 0) (hs : mA M 19 o = 1) : flF M o a = bif (decide (0 < mA M 15 o - a)) then (bif (decide (mA M 17 o - a = 0)) then rsF (mAw (tkF M o a) 17 o (mA M 17 o - a)) o else mAw (tkF M o a) 17 o (mA M 17 o - a)) else mAw (tkF M o a) 17 o (mA M 17 o - a) := by
  have e2 : ofF (mAw M 17 o ((mA M 17 o) - a)) o a = mAw (tkF M o a) 17 o (mA M 17 o - a) := by
    rw [← tkF_17, ofF_eq, decide_eq_false (show ¬ mA (mAw M 17 o (mA M 17 o - a)) 15 o - a = 0 from h)]; rfl
  have e3 : mA (mAw (tkF M o a) 17 o (mA M 17 o - a)) 15 o = mA M 15 o - a := tk15
  have e4 : mA (mAw (tkF M o a) 17 o (mA M 17 o - a)) 17 o = mA M 17 o - a := if_pos ⟨rfl, rfl⟩
  have e5 : rsF (mAw (tkF M o a) 17 o (mA M 17 o - a)) o = shF (mAw (tkF M o a) 17 o (mA M 17 o - a)) o true := by
    unfold rsF
    have e6 : mAw (mAw (tkF M o a) 17 o (mA M 17 o - a)) 19 o 1 = mAw (tkF M o a) 17 o (mA M 17 o - a) := by
      have e7 : mA (mAw (tkF M o a) 17 o (mA M 17 o - a)) 19 o = 1 := hs
      have e8 := mAw_id (M := mAw (tkF M o a) 17 o (mA M 17 o - a)) (A := 19) (p := o)
      rw [e7] at e8; exact e8
    rw [e6]
  unfold flF
  rw [e2, e3, e4, e5]
set_option maxHeartbeats 4000000 in
set_option maxRecDepth 10000 in
theorem c35 (hM : Rl t M n T) (hc : Sf t M n T) (hR : Ri M n) (ho : o < n) (hC : rlC t M n) (hP : Pb M n) (hS : Sp M n) (hs : mA M 19 o = 1)
    (q : ∀ t', Rl t' (flF M o a) n T → np t' = np t → rlC t' (flF M o a) n → Q (.inl none) t') :
    X 35 0 [.inr (.inr (4, (some 0))), .inr (.inr (8, (some o))), .inl a] [] t Q := by
  refine n35 hM hc hR ho ?_
  refine c34 hM hc hR ho hC hs (fun u h1 c1 y1 => ?_)
  refine sK_v (pc' := 6) rfl ?_
  by_cases h : mA M 15 o - a = 0
  · have e : ofF M o a = mAw (mAw (tkF M o a) 19 o 2) 17 o 0 := by rw [ofF_eq, decide_eq_true h]; rfl
    have e15 : mA (ofF M o a) 15 o = 0 := by
      rw [e]; show mA (tkF M o a) 15 o = 0
      rw [tk15, h]
    have e19 : ¬ mA (ofF M o a) 19 o = 1 := by
      rw [e]
      show ¬ (if 19 = 17 ∧ o = o then 0 else if 19 = 19 ∧ o = o then 2 else mA (tkF M o a) 19 o) = 1
      rw [if_neg (fun z => by cases z.1), if_pos ⟨rfl, rfl⟩]; decide
    have hF : Fc (ofF M o a) M := by rw [e]; exact Fc_A rfl (Fc_A rfl (Fc_tkF (Fc.refl M)))
    have k : ∀ v, Q (.inl none) (sIw u 524 o v) := fun v => by
      refine q _ (Rl_eq (fl_z h).symm (Rl_sh0 e19 h1)) ((np_I rfl).trans c1) ?_
      exact rlC_eq (fl_z h).symm (rlC_fr y1 rfl rfl rfl rfl rfl rfl)
    refine n35_6b h1 (Sf_fc hF (Sf_np c1 hc)) (hF.ri hR) ho (fun _ => k _) (fun _ _ => k _) (fun _ h2 => ?_)
    rw [e15] at h2; exact absurd h2 (by decide)
  · have e : ofF M o a = tkF M o a := by rw [ofF_eq, decide_eq_false h]; rfl
    rw [e] at h1 y1
    have hF : Fc (tkF M o a) M := Fc_tkF (Fc.refl M)
    have hs2 : mA (tkF M o a) 19 o = 1 := hs
    have hF3 : Fc (mAw (tkF M o a) 17 o (mA M 17 o - a)) M := Fc_A rfl hF
    have en := fl_n h hs
    have r3 : Rl (sIw u 524 o ((mA M 17 o) - a)) (mAw (tkF M o a) 17 o (mA M 17 o - a)) n T := Rl_sh hs2 h1
    have n3 : np (sIw u 524 o ((mA M 17 o) - a)) = np t := (np_I rfl).trans c1
    have y3 : rlC (sIw u 524 o ((mA M 17 o) - a)) (mAw (tkF M o a) 17 o (mA M 17 o - a)) n := rlC_fr y1 rfl rfl rfl rfl rfl rfl
    refine n35_6 h1 (Sf_fc hF (Sf_np c1 hc)) (hF.ri hR) ho hs2 ?_ ?_ ?_
    · intro h2
      have e9 : flF M o a = mAw (tkF M o a) 17 o (mA M 17 o - a) := by
        rw [en, decide_eq_false (show ¬ mA M 17 o - a = 0 from h2)]
        cases decide (0 < mA M 15 o - a) <;> rfl
      exact q _ (Rl_eq e9.symm r3) n3 (rlC_eq e9.symm y3)
    · intro _ h3
      rw [tk15] at h3
      have e9 : flF M o a = mAw (tkF M o a) 17 o (mA M 17 o - a) := by rw [en, decide_eq_false h3]; rfl
      exact q _ (Rl_eq e9.symm r3) n3 (rlC_eq e9.symm y3)
    · intro h2 h3
      rw [tk15] at h3
      have e9 : flF M o a = rsF (mAw (tkF M o a) 17 o (mA M 17 o - a)) o := by
        rw [en, decide_eq_true h3, decide_eq_true (show mA M 17 o - a = 0 from h2)]; rfl
      refine c11 (M := mAw (tkF M o a) 17 o (mA M 17 o - a)) r3 (Sf_fc hF3 (Sf_np n3 hc)) (hF3.ri hR) ho y3 rst_D ⟨ho, hs, rfl, rfl⟩ (fun v h4 c4 y4 => ?_)
      refine sK_v (pc' := 38) rfl ?_
      refine n35_38 h4 (Sf_fc hF3 (Sf_np (c4.trans n3) hc)) (hF3.ri hR) ho ?_
      refine c28 h4 (Sf_fc hF3 (Sf_np (c4.trans n3) hc)) (hF3.ri hR) ho y4 hP hS (fun w h5 c5 y5 => ?_)
      refine sK_v (pc' := 43) rfl ?_
      have hF5 : Fc (rsF (mAw (tkF M o a) 17 o (mA M 17 o - a)) o) M := Fc_rsF hF3
      refine n35_43 h5 (Sf_fc hF5 (Sf_np (c5.trans (c4.trans n3)) hc)) (hF5.ri hR) ho ?_
      exact q _ (Rl_eq e9.symm h5) (c5.trans (c4.trans n3)) (rlC_eq e9.symm y5)
end S45e
