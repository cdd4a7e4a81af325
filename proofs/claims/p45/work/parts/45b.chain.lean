/-! the class's methods (printed by clsgen.py) -/
set_option maxHeartbeats 4000000 in
set_option maxRecDepth 10000 in
theorem n28 {t : sT} {Q : sRs → sT → Prop} {M : sM} {n : Nat} {T : Nat} {o : Nat}
    (hM : Rl t M n T)
    (hc : Sf t M n T)
    (hR : Ri M n)
    (ho : o < n)
    (k0 : X 10 0 [.inr (.inr (1, (some (oB M o)))), .inr (.inr (8, (some o))), sJk, sJk, sJk] [] (sIw (sIw (sIw (sIw t 258 0 ((mI M 800) + 1)) 525 o ((mI M 800) + 1)) 522 o 1) 524 o (mn (mA M 16 o) (mA M 15 o))) (sK 10 28 32 [.inr (.inr (4, (some 0))), .inr (.inr (8, (some o)))] [] Q)) :
    X 28 0 [.inr (.inr (4, (some 0))), .inr (.inr (8, (some o)))] [] t Q := by
  refine x_aload_n (pc' := 1) rfl rfl rfl rfl rfl ?_
  refine x_dup (pc' := 2) rfl rfl rfl ?_
  refine x_gI (pc' := 5) (x := (mI M 800)) rfl rfl rfl (kS hM rfl) ?_
  refine x_iconst (pc' := 6) rfl rfl ?_
  refine x_iadd (pc' := 7) (z := ((mI M 800) + 1)) rfl rfl rfl ?_
  refine x_pI (pc' := 10) rfl rfl rfl ?_
  refine x_aload_n (pc' := 11) rfl rfl rfl rfl rfl ?_
  refine x_aload_n (pc' := 12) rfl rfl rfl rfl rfl ?_
  refine x_gI (pc' := 15) (x := ((mI M 800) + 1)) rfl rfl rfl sI_s ?_
  refine x_pI (pc' := 18) rfl rfl rfl ?_
  refine x_aload_n (pc' := 19) rfl rfl rfl rfl rfl ?_
  refine x_iconst (pc' := 20) rfl rfl ?_
  refine x_pI (pc' := 23) rfl rfl rfl ?_
  refine x_aload_n (pc' := 24) rfl rfl rfl rfl rfl ?_
  refine x_cv (ls0 := [_]) (rest := []) rfl rfl rfl rfl rfl ?_
  refine x_aload_n (pc' := 1) rfl rfl rfl rfl rfl ?_
  refine x_aload_n (pc' := 2) rfl rfl rfl rfl rfl ?_
  refine x_gI (pc' := 5) (x := (mA M 16 o)) rfl rfl rfl (Eq.trans (b := sI t 517 o) rfl (kA hM rfl ho)) ?_
  refine x_aload_n (pc' := 6) rfl rfl rfl rfl rfl ?_
  refine x_gI (pc' := 9) (x := (mA M 15 o)) rfl rfl rfl (Eq.trans (b := sI t 523 o) rfl (kA hM rfl ho)) ?_
  refine x_min (pc' := 12) (z := (mn (mA M 16 o) (mA M 15 o))) rfl rfl rfl rfl ?_
  refine x_pI (pc' := 15) rfl rfl rfl ?_
  refine x_ret rfl ?_
  refine sK_v (pc' := 27) rfl ?_
  refine x_aload_n (pc' := 28) rfl rfl rfl rfl rfl ?_
  refine x_gR (pc' := 31) (r := (some (oB M o))) rfl rfl rfl (Eq.trans (b := sR t 514 o) rfl (Sf_514 hc ho)) ?_
  refine x_aload_n (pc' := 32) rfl rfl rfl rfl rfl ?_
  refine x_cv (ls0 := [_, _, sJk, sJk, sJk]) (rest := []) rfl rfl rfl rfl rfl ?_
  exact k0
set_option maxHeartbeats 4000000 in
set_option maxRecDepth 10000 in
theorem n28_35 {t : sT} {Q : sRs → sT → Prop} {M : sM} {n : Nat} {T : Nat} {o : Nat}
    (hM : Rl t M n T)
    (hc : Sf t M n T)
    (hR : Ri M n)
    (ho : o < n)
    (k0 : Q (.inl none) t) :
    X 28 35 [.inr (.inr (4, (some 0))), .inr (.inr (8, (some o)))] [] t Q := by
  refine x_ret rfl ?_
  exact k0
set_option maxHeartbeats 4000000 in
set_option maxRecDepth 10000 in
theorem n30 {t : sT} {Q : sRs → sT → Prop} {M : sM} {n : Nat} {T : Nat} {o : Nat}
    (hM : Rl t M n T)
    (hc : Sf t M n T)
    (hR : Ri M n)
    (ho : o < n)
    (k0 : ¬ ((mA M 19 o) = 1) → Q (.inl none) (sIw t 522 o 3))
    (k1 : (mA M 19 o) = 1 → X 11 0 [.inr (.inr (1, (some (oB M o)))), .inr (.inr (8, (some o))), sJk, sJk] [] t (sK 11 30 13 [.inr (.inr (4, (some 0))), .inr (.inr (8, (some o)))] [] Q)) :
    X 30 0 [.inr (.inr (4, (some 0))), .inr (.inr (8, (some o)))] [] t Q := by
  refine x_aload_n (pc' := 1) rfl rfl rfl rfl rfl ?_
  refine x_gI (pc' := 4) (x := (mA M 19 o)) rfl rfl rfl (kA hM rfl ho) ?_
  refine x_iconst (pc' := 5) rfl rfl ?_
  refine x_icmp_n (a' := 16) (pc' := 8) (z := decide ((mA M 19 o) = 1)) rfl rfl rfl (ik_ne _ _) (fun q1 => ?_) (fun q1 => ?_)
  · refine x_aload_n (pc' := 17) rfl rfl rfl rfl rfl ?_
    refine x_iconst (pc' := 18) rfl rfl ?_
    refine x_pI (pc' := 21) rfl rfl rfl ?_
    refine x_ret rfl ?_
    exact k0 (of_decide_eq_false q1)
  · refine x_aload_n (pc' := 9) rfl rfl rfl rfl rfl ?_
    refine x_gR (pc' := 12) (r := (some (oB M o))) rfl rfl rfl (Sf_514 hc ho) ?_
    refine x_aload_n (pc' := 13) rfl rfl rfl rfl rfl ?_
    refine x_cv (ls0 := [_, _, sJk, sJk]) (rest := []) rfl rfl rfl rfl rfl ?_
    exact k1 (of_decide_eq_true q1)
set_option maxHeartbeats 4000000 in
set_option maxRecDepth 10000 in
theorem n30_16 {t : sT} {Q : sRs → sT → Prop} {M : sM} {n : Nat} {T : Nat} {o : Nat}
    (hM : Rl t M n T)
    (hc : Sf t M n T)
    (hR : Ri M n)
    (ho : o < n)
    (k0 : Q (.inl none) (sIw t 522 o 3)) :
    X 30 16 [.inr (.inr (4, (some 0))), .inr (.inr (8, (some o)))] [] t Q := by
  refine x_aload_n (pc' := 17) rfl rfl rfl rfl rfl ?_
  refine x_iconst (pc' := 18) rfl rfl ?_
  refine x_pI (pc' := 21) rfl rfl rfl ?_
  refine x_ret rfl ?_
  exact k0
section S45d
variable {t t' : sT} {M M' : sM} {n T b o : Nat} {s : Bool} {Q : sRs → sT → Prop} {R R' : Nat → Bool → Nat → Prop}
theorem Cq_mono (hC : Cq t M R) (h9 : ∀ F, kc F = true → sR t' F = sR t F) (h14 : mA M' 14 = mA M 14) (h18 : ∀ b s x, R b s x → mA M' 18 x = mA M 18 x) (hR : ∀ b s x, b < 5 → (R b s x ↔ R' b s x)) : Cq t' M' R' := by
  intro b s hb
  obtain ⟨l, h1, h2, h3⟩ := hC b s hb
  refine ⟨l, ?_, ?_, fun x => (h3 x).trans (hR b s x hb)⟩
  · have e : hd t' b s = hd t b s := by unfold hd; rw [h9 69 rfl, h9 70 rfl]
    rw [e]
    exact Lk_fr (fun x _ => by rw [h9 529 rfl]) h1
  · refine h2.imp_of_mem (fun {a c} ha hc hab => ?_)
    unfold btr at hab ⊢
    rw [h14, h18 b s a ((h3 a).mp ha), h18 b s c ((h3 c).mp hc)]
    exact hab
theorem rst_D : ∀ b s b' s' x, rst M n b s x → rst M n b' s' x → b = b' ∧ s = s' := fun _ _ _ _ _ h h' => ⟨h.2.2.1.symm.trans h'.2.2.1, h.2.2.2.symm.trans h'.2.2.2⟩
theorem rst_off {v : Int32} (hv : ¬ v = 1) (x : Nat) : rst (mAw (mAw M 19 o v) 17 o 0) n b s x ↔ rst M n b s x ∧ ¬ x = o := by
  have e19 : mA (mAw (mAw M 19 o v) 17 o 0) 19 x = if x = o then v else mA M 19 x := by
    show (if 19 = 17 ∧ x = o then 0 else if 19 = 19 ∧ x = o then v else mA M 19 x) = _
    rw [if_neg (c := 19 = 17 ∧ x = o) (fun z => by cases z.1)]
    by_cases e : x = o
    · rw [if_pos ⟨rfl, e⟩, if_pos e]
    · rw [if_neg (fun z => e z.2), if_neg e]
  have e13 : oB (mAw (mAw M 19 o v) 17 o 0) x = oB M x := rfl
  have e3 : mB (mAw (mAw M 19 o v) 17 o 0) 3 x = mB M 3 x := rfl
  unfold rst
  rw [e19, e13, e3]
  by_cases e : x = o
  · rw [if_pos e]; exact ⟨fun h => absurd h.2.1 hv, fun h => absurd e h.2⟩
  · rw [if_neg e]; exact ⟨fun h => ⟨h, e⟩, fun h => h.1⟩
theorem rlC_eq (e : M = M') (h : rlC t M n) : rlC t M' n := e ▸ h
/-- an order that doesn't rest stays away -/
theorem rlC_st {v : Int32} (hC : rlC t M n) (h : ¬ mA M 19 o = 1) (hv : ¬ v = 1) : rlC (sIw t 522 o v) (mAw (mAw M 19 o v) 17 o 0) n :=
  Cq_mono (R := rst M n) hC (fun _ _ => rfl) rfl (fun _ _ _ _ => rfl) (fun b s x _ => ⟨fun hx => (rst_off hv x).mpr ⟨hx, fun e => h (e ▸ hx.2.1)⟩, fun hx => ((rst_off hv x).mp hx).1⟩)
theorem rlC_rm {v : Int32} (hC : Cq t M (fun b s x => rst M n b s x ∧ ¬ x = o)) (hv : ¬ v = 1) : rlC (sIw t 522 o v) (mAw (mAw M 19 o v) 17 o 0) n :=
  Cq_mono hC (fun _ _ => rfl) rfl (fun _ _ _ _ => rfl) (fun b s x _ => (rst_off hv x).symm)
/-- what doesn't touch states, prices, stamps, sides -/
theorem rlC_fr (hC : rlC t M n) (hq : qp t' = qp t) (h14 : mA M' 14 = mA M 14) (h18 : mA M' 18 = mA M 18) (h19 : mA M' 19 = mA M 19) (h13 : mA M' 13 = mA M 13) (h3 : mB M' 3 = mB M 3) : rlC t' M' n := by
  refine Cq_mono (R := rst M n) hC (fun F hF => ?_) h14 (fun _ _ _ _ => by rw [h18]) (fun b s x _ => ?_)
  · have h := congrFun hq F
    have e : ∀ u : sT, qp u F = sR u F := fun u => funext fun x => by show (bif kc F then sR u F x else none) = _; rw [hF]; rfl
    rw [e, e] at h; exact h
  · unfold rst oB; rw [h19, h13, h3]
theorem Rl_on {c : Int32} (h : Rl t M n T) : Rl (sIw (sIw t 522 o 1) 524 o c) (mAw (mAw M 19 o 1) 17 o c) n T := by
  refine ⟨fun q hq o' ho => ?_, h.2.1, fun q hq => ?_, ⟨fun m c h1 h2 => h.2.2.2.1.1 m c h1 h2, fun k hk => h.2.2.2.1.2 k hk⟩, fun o' ho => ?_⟩
  · have c1 := (by decide : ∀ r ∈ sPI, r.1 = 522 ↔ r.2 = 19) q hq
    have c2 := (by decide : ∀ r ∈ sPI, ¬ r.2 = 17 ∧ ¬ r.1 = 524) q hq
    show (if q.1 = 524 ∧ o' = o then c else if q.1 = 522 ∧ o' = o then 1 else sI t q.1 o') = if q.2 = 17 ∧ o' = o then c else if q.2 = 19 ∧ o' = o then 1 else mA M q.2 o'
    rw [if_neg (c := q.2 = 17 ∧ o' = o) (fun z => c2.1 z.1), if_neg (c := q.1 = 524 ∧ o' = o) (fun z => c2.2 z.1)]
    by_cases e : q.1 = 522 ∧ o' = o
    · rw [if_pos e, if_pos ⟨c1.mp e.1, e.2⟩]
    · rw [if_neg e, if_neg (fun z => e ⟨c1.mpr z.1, z.2⟩)]
      exact h.1 q hq o' ho
  · have c2 := (by decide : ∀ r ∈ sPS, ¬ r.1 = 522 ∧ ¬ r.1 = 524) q hq
    exact (if_neg (fun z => c2.2 z.1)).trans ((if_neg (fun z => c2.1 z.1)).trans (h.2.2.1 q hq))
  · show (if 17 = 17 ∧ o' = o then c else if 17 = 19 ∧ o' = o then 1 else mA M 17 o') = if (if 19 = 17 ∧ o' = o then c else if 19 = 19 ∧ o' = o then 1 else mA M 19 o') = 1 then (if 524 = 524 ∧ o' = o then c else if 524 = 522 ∧ o' = o then 1 else sI t 524 o') else 0
    rw [if_neg (c := 19 = 17 ∧ o' = o) (fun z => by cases z.1), if_neg (c := 17 = 19 ∧ o' = o) (fun z => by cases z.1), if_neg (c := 524 = 522 ∧ o' = o) (fun z => by cases z.1)]
    by_cases e : o' = o
    · rw [if_pos ⟨rfl, e⟩, if_pos (c := 19 = 19 ∧ o' = o) ⟨rfl, e⟩, if_pos rfl, if_pos ⟨rfl, e⟩]
    · rw [if_neg (fun z => e z.2), if_neg (c := 19 = 19 ∧ o' = o) (fun z => e z.2), if_neg (c := 524 = 524 ∧ o' = o) (fun z => e z.2)]
      exact h.2.2.2.2 o' ho
theorem Fc_cnF {M0 : sM} (fr : Fc M M0) : Fc (cnF M o) M0 := Fc_A rfl (Fc_A rfl fr)
theorem Fc_rsF {M0 : sM} (fr : Fc M M0) : Fc (rsF M o) M0 := by
  unfold rsF shF
  exact Fc_cond (Fc_A rfl (Fc_I rfl (Fc_A rfl (Fc_A rfl fr)))) (Fc_A rfl (Fc_A rfl fr))
/-- stamps: not above the last one -/
def Sp (M : sM) (n : Nat) : Prop := 0 ≤ (mI M 800).toInt ∧ (mI M 800).toInt < 1000000 ∧ ∀ k, k < n → (mA M 18 k).toInt ≤ (mI M 800).toInt
set_option maxHeartbeats 4000000 in
set_option maxRecDepth 10000 in
theorem c30 (hM : Rl t M n T) (hc : Sf t M n T) (hR : Ri M n) (ho : o < n) (hC : rlC t M n)
    (q : ∀ t', Rl t' (cnF M o) n T → np t' = np t → rlC t' (cnF M o) n → Q (.inl none) t') :
    X 30 0 [.inr (.inr (4, (some 0))), .inr (.inr (8, (some o)))] [] t Q := by
  refine n30 hM hc hR ho ?_ ?_
  · intro h
    exact q _ (Rl_st (by decide) hM) (np_I rfl) (rlC_st hC h (by decide))
  · intro h
    refine c11 hM hc hR ho hC rst_D ⟨ho, h, rfl, rfl⟩ (fun u h1 c1 y1 => ?_)
    refine sK_v (pc' := 16) rfl ?_
    refine n30_16 h1 (Sf_np c1 hc) hR ho ?_
    exact q _ (Rl_st (by decide) h1) ((np_I rfl).trans c1) (rlC_rm y1 (by decide))
theorem mnc_mn (a b : Int32) : mn a b = mnc a b := by
  unfold mn mnc
  by_cases h : b < a
  · rw [if_pos h, decide_eq_false (nlt_of h)]; rfl
  · rw [if_neg h]
    by_cases h2 : a < b
    · rw [decide_eq_true h2]; rfl
    · rw [decide_eq_false h2]
      have : a = b := Int32.toInt_inj.mp (by rw [Int32.lt_iff_toInt_lt] at h h2; omega)
      rw [this]; rfl
set_option maxHeartbeats 4000000 in
set_option maxRecDepth 10000 in
theorem c28 (hM : Rl t M n T) (hc : Sf t M n T) (hR : Ri M n) (ho : o < n) (hC : Cq t M (fun b s x => rst M n b s x ∧ ¬ x = o)) (hP : Pb M n) (hS : Sp M n)
    (q : ∀ t', Rl t' (rsF M o) n T → np t' = np t → rlC t' (rsF M o) n → Q (.inl none) t') :
    X 28 0 [.inr (.inr (4, (some 0))), .inr (.inr (8, (some o)))] [] t Q := by
  refine n28 hM hc hR ho ?_
  have e1 : rsF M o = mAw (mAw (mAw (mIw M 800 ((mI M 800) + 1)) 18 o ((mI M 800) + 1)) 19 o 1) 17 o (mn (mA M 16 o) (mA M 15 o)) := by
    rw [mnc_mn]
    refine Prod.ext (funext fun a => funext fun p => ?_) rfl
    show (if a = 18 ∧ p = o then mI M 800 + 1 else if a = 17 ∧ p = o then mnc (mA M 16 o) (mA M 15 o) else if a = 19 ∧ p = o then 1 else mA M a p) = (if a = 17 ∧ p = o then mnc (mA M 16 o) (mA M 15 o) else if a = 19 ∧ p = o then 1 else if a = 18 ∧ p = o then mI M 800 + 1 else mA M a p)
    by_cases h1 : a = 18 ∧ p = o
    · rw [if_pos h1, if_neg (fun z => by have := h1.1.symm.trans z.1; cases this), if_neg (fun z => by have := h1.1.symm.trans z.1; cases this), if_pos h1]
    · rw [if_neg h1, if_neg (c := a = 18 ∧ p = o) h1]
  have hM2 : Rl (sIw (sIw (sIw (sIw t 258 0 ((mI M 800) + 1)) 525 o ((mI M 800) + 1)) 522 o 1) 524 o (mn (mA M 16 o) (mA M 15 o))) (rsF M o) n T := by
    rw [e1]; exact Rl_on (Rl_I rfl (Rl_S rfl hM))
  have hnp : np (sIw (sIw (sIw (sIw t 258 0 ((mI M 800) + 1)) 525 o ((mI M 800) + 1)) 522 o 1) 524 o (mn (mA M 16 o) (mA M 15 o))) = np t := (np_I rfl).trans ((np_I rfl).trans ((np_I5 (show o < sC (sIw t 258 0 ((mI M 800) + 1)) 8 from Sf_lt (t := t) hc ho)).trans (np_I rfl)))
  have hadd : ((mI M 800) + 1).toInt = (mI M 800).toInt + 1 := by
    rw [Int32.toInt_add, show (1 : Int32).toInt = 1 from rfl]
    have := hS.1; have := hS.2.1
    exact Int.bmod_eq_of_le (by omega) (by omega)
  have k18 : ∀ x, mA (rsF M o) 18 x = if x = o then (mI M 800) + 1 else mA M 18 x := by
    intro x
    show (if 18 = 18 ∧ x = o then mI M 800 + 1 else if 18 = 17 ∧ x = o then mnc (mA M 16 o) (mA M 15 o) else if 18 = 19 ∧ x = o then 1 else mA M 18 x) = _
    by_cases e : x = o
    · rw [if_pos ⟨rfl, e⟩, if_pos e]
    · rw [if_neg (fun z => e z.2), if_neg (fun z => e z.2), if_neg (fun z => e z.2), if_neg e]
  have hC2 : Cq (sIw (sIw (sIw (sIw t 258 0 ((mI M 800) + 1)) 525 o ((mI M 800) + 1)) 522 o 1) 524 o (mn (mA M 16 o) (mA M 15 o))) (rsF M o) (fun b s x => rst M n b s x ∧ ¬ x = o) :=
    Cq_mono hC (fun _ _ => rfl) rfl (fun b s x hx => by rw [k18, if_neg hx.2]) (fun _ _ _ _ => Iff.rfl)
  refine c10 (M := rsF M o) hM2 (Sf_fc (Fc_rsF (Fc.refl M)) (Sf_np hnp hc)) (Fc.ri (Fc_rsF (Fc.refl M)) hR) hP ho hC2 (fun _ _ _ h => h.1.1) (fun b s b' s' x h h' => rst_D b s b' s' x h.1 h'.1) (fun _ _ h => h.2 rfl) (fun b s x hx => ?_) (fun u h1 c1 y1 => ?_)
  · rw [k18, k18, if_pos rfl, if_neg hx.2, Int32.lt_iff_toInt_lt, hadd]
    have := hS.2.2 x hx.1.1
    omega
  · refine sK_v (pc' := 35) rfl ?_
    refine n28_35 (M := rsF M o) h1 (Sf_fc (Fc_rsF (Fc.refl M)) (Sf_np (c1.trans hnp) hc)) (Fc.ri (Fc_rsF (Fc.refl M)) hR) ho ?_
    refine q _ h1 (c1.trans hnp) ?_
    refine Cq_mono y1 (fun _ _ => rfl) rfl (fun _ _ _ _ => rfl) (fun b s x hb => ?_)
    have e19 : mA (rsF M o) 19 x = if x = o then 1 else mA M 19 x := by
      show (if 19 = 18 ∧ x = o then mI M 800 + 1 else if 19 = 17 ∧ x = o then mnc (mA M 16 o) (mA M 15 o) else if 19 = 19 ∧ x = o then 1 else mA M 19 x) = _
      by_cases e : x = o
      · rw [if_neg (fun z => by cases z.1), if_neg (fun z => by cases z.1), if_pos ⟨rfl, e⟩, if_pos e]
      · rw [if_neg (fun z => e z.2), if_neg (fun z => e z.2), if_neg (fun z => e z.2), if_neg e]
    have e13 : oB (rsF M o) = oB M := rfl
    have e3 : mB (rsF M o) 3 = mB M 3 := rfl
    unfold rst
    rw [e19, e13, e3]
    by_cases e : x = o
    · rw [if_pos e]
      exact ⟨fun h => h.elim (fun h => absurd e h.2) (fun h => ⟨by rw [e]; exact ho, rfl, by rw [e]; exact h.2.1.symm, by rw [e]; exact h.2.2.symm⟩), fun h => Or.inr ⟨e, by rw [e] at h; exact h.2.2.1.symm, by rw [e] at h; exact h.2.2.2.symm⟩⟩
    · rw [if_neg e]
      exact ⟨fun h => h.elim (fun h => h.1) (fun h => absurd h.1 e), fun h => Or.inl ⟨h, e⟩⟩
theorem rlC_away (hC : rlC t M n) (h : ¬ mA M 19 o = 1) : Cq t M (fun b s x => rst M n b s x ∧ ¬ x = o) :=
  Cq_mono (R := rst M n) hC (fun _ _ => rfl) rfl (fun _ _ _ _ => rfl) (fun _ _ _ _ => ⟨fun hx => ⟨hx, fun e => h (e ▸ hx.2.1)⟩, fun hx => hx.1⟩)
end S45d
