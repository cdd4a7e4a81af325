/-! trades and orders that are new (grow.py) -/
set_option maxHeartbeats 4000000 in
set_option maxRecDepth 10000 in
theorem n45 {t : sT} {Q : sRs → sT → Prop} {M : sM} {n : Nat} {T : Nat} {c : Nat} {m : Nat} {o : Nat} {p : Int32} {a : Int32}
    (hM : Rl t M n T)
    (hc : Sf t M n T)
    (hR : Ri M n)
    (hc3 : c < 3)
    (hm : m < 6)
    (ho : o < 6)
    (k0 : X 254 0 [.inr (.inr (13, (some 0))), .inr (.inr (9, (some T)))] [] (sIw (sIw (sRw (sRw (sRw (sNew t 9 6) 576 T (some c)) 577 T (some m)) 578 T (some o)) 579 T p) 580 T a) (sK 254 45 22 [.inr (.inr (5, (some 0))), .inr (.inr (2, (some c))), .inr (.inr (7, (some m))), .inr (.inr (7, (some o))), .inl p, .inl a, .inr (.inr (9, (some T)))] [] Q)) :
    X 45 0 [.inr (.inr (5, (some 0))), .inr (.inr (2, (some c))), .inr (.inr (7, (some m))), .inr (.inr (7, (some o))), .inl p, .inl a, sJk] [] t Q := by
  refine x_new (pc' := 3) (i := T) rfl rfl (Sf_C9 hc) ?_
  refine x_dup (pc' := 4) rfl rfl rfl ?_
  refine x_aload_n (pc' := 5) rfl rfl rfl rfl rfl ?_
  refine x_aload_n (pc' := 6) rfl rfl rfl rfl rfl ?_
  refine x_aload_n (pc' := 7) rfl rfl rfl rfl rfl ?_
  refine x_iload (pc' := 9) rfl rfl rfl ?_
  refine x_iload (pc' := 11) rfl rfl rfl ?_
  refine x_ci (ls0 := [_, _, _, _, _, _]) (rest := [_]) rfl rfl rfl rfl rfl ?_
  refine x_aload_n (pc' := 1) rfl rfl rfl rfl rfl ?_
  refine x_obj (pc' := 4) rfl rfl rfl rfl ?_
  refine x_aload_n (pc' := 5) rfl rfl rfl rfl rfl ?_
  refine x_aload_n (pc' := 6) rfl rfl rfl rfl rfl ?_
  refine x_pR (pc' := 9) rfl rfl rfl ?_
  refine x_aload_n (pc' := 10) rfl rfl rfl rfl rfl ?_
  refine x_aload_n (pc' := 11) rfl rfl rfl rfl rfl ?_
  refine x_pR (pc' := 14) rfl rfl rfl ?_
  refine x_aload_n (pc' := 15) rfl rfl rfl rfl rfl ?_
  refine x_aload_n (pc' := 16) rfl rfl rfl rfl rfl ?_
  refine x_pR (pc' := 19) rfl rfl rfl ?_
  refine x_aload_n (pc' := 20) rfl rfl rfl rfl rfl ?_
  refine x_iload (pc' := 22) rfl rfl rfl ?_
  refine x_pI (pc' := 25) rfl rfl rfl ?_
  refine x_aload_n (pc' := 26) rfl rfl rfl rfl rfl ?_
  refine x_iload (pc' := 28) rfl rfl rfl ?_
  refine x_pI (pc' := 31) rfl rfl rfl ?_
  refine x_ret rfl ?_
  refine sK_v (pc' := 14) rfl ?_
  refine x_astore (pc' := 16) (ls' := [_, _, _, _, _, _, _]) rfl rfl rfl rfl rfl ?_
  refine x_aload_n (pc' := 17) rfl rfl rfl rfl rfl ?_
  refine x_gR (pc' := 20) (r := (some 0)) rfl rfl rfl (Eq.trans (b := sR t 322 0) rfl (kR_322_0 hc.1)) ?_
  refine x_aload (pc' := 22) rfl rfl rfl rfl rfl ?_
  refine x_cv (ls0 := [_, _]) (rest := []) rfl rfl rfl rfl rfl ?_
  exact k0
set_option maxHeartbeats 4000000 in
set_option maxRecDepth 10000 in
theorem n45_25 {t : sT} {Q : sRs → sT → Prop} {c : Nat} {m : Nat} {o : Nat} {k : Nat} {p : Int32} {a : Int32}
    (k0 : X 77 0 [.inr (.inr (9, (some k))), .inl a, sJk] [] t (sK 77 45 30 [.inr (.inr (5, (some 0))), .inr (.inr (2, (some c))), .inr (.inr (7, (some m))), .inr (.inr (7, (some o))), .inl p, .inl a, .inr (.inr (9, (some k)))] [] Q)) :
    X 45 25 [.inr (.inr (5, (some 0))), .inr (.inr (2, (some c))), .inr (.inr (7, (some m))), .inr (.inr (7, (some o))), .inl p, .inl a, .inr (.inr (9, (some k)))] [.inl (bz true)] t Q := by
  refine x_pop (pc' := 26) rfl rfl rfl ?_
  refine x_aload (pc' := 28) rfl rfl rfl rfl rfl ?_
  refine x_iload (pc' := 30) rfl rfl rfl ?_
  refine x_cv (ls0 := [_, _, sJk]) (rest := []) rfl rfl rfl rfl rfl ?_
  exact k0
set_option maxHeartbeats 4000000 in
set_option maxRecDepth 10000 in
theorem n45_33 {t : sT} {Q : sRs → sT → Prop} {c : Nat} {m : Nat} {o : Nat} {k : Nat} {p : Int32} {a : Int32}
    (k0 : Q (.inl none) t) :
    X 45 33 [.inr (.inr (5, (some 0))), .inr (.inr (2, (some c))), .inr (.inr (7, (some m))), .inr (.inr (7, (some o))), .inl p, .inl a, .inr (.inr (9, (some k)))] [] t Q := by
  refine x_ret rfl ?_
  exact k0
set_option maxHeartbeats 4000000 in
set_option maxRecDepth 10000 in
theorem n46 {t : sT} {Q : sRs → sT → Prop} {c : Nat} {m : Nat} {o : Nat} {p : Int32} {a : Int32}
    (k0 : X 45 0 [.inr (.inr (5, (some 0))), .inr (.inr (2, (some c))), .inr (.inr (7, (some m))), .inr (.inr (7, (some o))), .inl p, .inl a, sJk] [] t (sK 45 46 8 [.inr (.inr (5, (some 0))), .inr (.inr (2, (some c))), .inr (.inr (7, (some m))), .inr (.inr (7, (some o))), .inl p, .inl a] [] Q)) :
    X 46 0 [.inr (.inr (5, (some 0))), .inr (.inr (2, (some c))), .inr (.inr (7, (some m))), .inr (.inr (7, (some o))), .inl p, .inl a] [] t Q := by
  refine x_aload_n (pc' := 1) rfl rfl rfl rfl rfl ?_
  refine x_aload_n (pc' := 2) rfl rfl rfl rfl rfl ?_
  refine x_aload_n (pc' := 3) rfl rfl rfl rfl rfl ?_
  refine x_aload_n (pc' := 4) rfl rfl rfl rfl rfl ?_
  refine x_iload (pc' := 6) rfl rfl rfl ?_
  refine x_iload (pc' := 8) rfl rfl rfl ?_
  refine x_cv (ls0 := [_, _, _, _, _, _, sJk]) (rest := []) rfl rfl rfl rfl rfl ?_
  exact k0
set_option maxHeartbeats 4000000 in
set_option maxRecDepth 10000 in
theorem n46_b {t : sT} {Q : sRs → sT → Prop} {c : Nat} {m : Nat} {o : Nat} {p : Int32} {a : Int32}
    (k0 : Q (.inl none) (sIw t 129 c p)) :
    X 46 11 [.inr (.inr (5, (some 0))), .inr (.inr (2, (some c))), .inr (.inr (7, (some m))), .inr (.inr (7, (some o))), .inl p, .inl a] [] t Q := by
  refine x_aload_n (pc' := 12) rfl rfl rfl rfl rfl ?_
  refine x_iload (pc' := 14) rfl rfl rfl ?_
  refine x_pI (pc' := 17) rfl rfl rfl ?_
  refine x_ret rfl ?_
  exact k0
set_option maxHeartbeats 4000000 in
set_option maxRecDepth 10000 in
theorem n27 {t : sT} {Q : sRs → sT → Prop} {M : sM} {n : Nat} {T : Nat} {b : Nat} {m : Nat} {s : Bool} {p : Int32} {a : Int32}
    (hM : Rl t M n T)
    (hc : Sf t M n T)
    (hR : Ri M n)
    (hm : m < 6)
    (hb : b < 5)
    (k0 : X 254 0 [.inr (.inr (13, (some 1))), .inr (.inr (8, (some n)))] [] (sIw (sIw (sIw (sZw (sRw (sRw (sIw (sIw (sNew t 8 18) 522 n 4) 512 n (io n)) 513 n (some m)) 514 n (some b)) 515 n s) 516 n p) 517 n a) 523 n a) (sK 254 27 29 [.inr (.inr (4, (some 0))), .inr (.inr (7, (some m))), .inr (.inr (1, (some b))), .inl (bz s), .inl p, .inl a, .inr (.inr (8, (some n)))] [] Q)) :
    X 27 0 [.inr (.inr (4, (some 0))), .inr (.inr (7, (some m))), .inr (.inr (1, (some b))), .inl (bz s), .inl p, .inl a, sJk] [] t Q := by
  refine x_new (pc' := 3) (i := n) rfl rfl (Sf_C8 hc) ?_
  refine x_dup (pc' := 4) rfl rfl rfl ?_
  refine x_aload_n (pc' := 5) rfl rfl rfl rfl rfl ?_
  refine x_gR (pc' := 8) (r := (some 1)) rfl rfl rfl (Eq.trans (b := sR t 257 0) rfl (kR_257_0 hc.1)) ?_
  refine x_cv (ls0 := [_]) (rest := [_, _]) rfl rfl rfl rfl rfl ?_
  refine x_aload_n (pc' := 1) rfl rfl rfl rfl rfl ?_
  refine x_gI (pc' := 4) (x := (io n)) rfl rfl rfl (Eq.trans (b := sI t 834 1) rfl (Sf_n hc)) ?_
  refine x_reti rfl rfl ?_
  refine sK_i (pc' := 11) rfl ?_
  refine x_aload_n (pc' := 12) rfl rfl rfl rfl rfl ?_
  refine x_aload_n (pc' := 13) rfl rfl rfl rfl rfl ?_
  refine x_iload_n (pc' := 14) rfl rfl rfl ?_
  refine x_iload (pc' := 16) rfl rfl rfl ?_
  refine x_iload (pc' := 18) rfl rfl rfl ?_
  refine x_ci (ls0 := [_, _, _, _, _, _, _]) (rest := [_]) rfl rfl rfl rfl rfl ?_
  refine x_aload_n (pc' := 1) rfl rfl rfl rfl rfl ?_
  refine x_obj (pc' := 4) rfl rfl rfl rfl ?_
  refine x_aload_n (pc' := 5) rfl rfl rfl rfl rfl ?_
  refine x_iconst (pc' := 6) rfl rfl ?_
  refine x_pI (pc' := 9) rfl rfl rfl ?_
  refine x_aload_n (pc' := 10) rfl rfl rfl rfl rfl ?_
  refine x_iload_n (pc' := 11) rfl rfl rfl ?_
  refine x_pI (pc' := 14) rfl rfl rfl ?_
  refine x_aload_n (pc' := 15) rfl rfl rfl rfl rfl ?_
  refine x_aload_n (pc' := 16) rfl rfl rfl rfl rfl ?_
  refine x_pR (pc' := 19) rfl rfl rfl ?_
  refine x_aload_n (pc' := 20) rfl rfl rfl rfl rfl ?_
  refine x_aload_n (pc' := 21) rfl rfl rfl rfl rfl ?_
  refine x_pR (pc' := 24) rfl rfl rfl ?_
  refine x_aload_n (pc' := 25) rfl rfl rfl rfl rfl ?_
  refine x_iload (pc' := 27) rfl rfl rfl ?_
  refine x_pZ (pc' := 30) (z := s) rfl rfl rfl rfl ?_
  refine x_aload_n (pc' := 31) rfl rfl rfl rfl rfl ?_
  refine x_iload (pc' := 33) rfl rfl rfl ?_
  refine x_pI (pc' := 36) rfl rfl rfl ?_
  refine x_aload_n (pc' := 37) rfl rfl rfl rfl rfl ?_
  refine x_iload (pc' := 39) rfl rfl rfl ?_
  refine x_pI (pc' := 42) rfl rfl rfl ?_
  refine x_aload_n (pc' := 43) rfl rfl rfl rfl rfl ?_
  refine x_iload (pc' := 45) rfl rfl rfl ?_
  refine x_pI (pc' := 48) rfl rfl rfl ?_
  refine x_ret rfl ?_
  refine sK_v (pc' := 21) rfl ?_
  refine x_astore (pc' := 23) (ls' := [_, _, _, _, _, _, _]) rfl rfl rfl rfl rfl ?_
  refine x_aload_n (pc' := 24) rfl rfl rfl rfl rfl ?_
  refine x_gR (pc' := 27) (r := (some 1)) rfl rfl rfl (Eq.trans (b := sR t 257 0) rfl (kR_257_0 hc.1)) ?_
  refine x_aload (pc' := 29) rfl rfl rfl rfl rfl ?_
  refine x_cv (ls0 := [_, _]) (rest := []) rfl rfl rfl rfl rfl ?_
  exact k0
set_option maxHeartbeats 4000000 in
set_option maxRecDepth 10000 in
theorem n27_32 {t : sT} {Q : sRs → sT → Prop} {b : Nat} {m : Nat} {k : Nat} {s : Bool} {p : Int32} {a : Int32}
    (k0 : Q (.inl (some (.inr (.inr (8, (some k)))))) t) :
    X 27 32 [.inr (.inr (4, (some 0))), .inr (.inr (7, (some m))), .inr (.inr (1, (some b))), .inl (bz s), .inl p, .inl a, .inr (.inr (8, (some k)))] [.inl (bz true)] t Q := by
  refine x_pop (pc' := 33) rfl rfl rfl ?_
  refine x_aload (pc' := 35) rfl rfl rfl rfl rfl ?_
  refine x_reta rfl rfl ?_
  exact k0
theorem qp_R {t : sT} {F o : Nat} {v : Option Nat} (h : kc F = false) : qp (sRw t F o v) = qp t := by
  refine funext fun F' => funext fun o' => ?_
  show (bif kc F' then (if F' = F ∧ o' = o then v else sR t F' o') else none) = bif kc F' then sR t F' o' else none
  by_cases e : F' = F
  · rw [e, h]; rfl
  · rw [if_neg (fun z => e z.1)]
theorem tv_I {t : sT} {F o : Nat} {v : Int32} (h : (Nat.beq F 526 || Nat.beq F 528 || Nat.beq F 455) = false) : tv (sIw t F o v) = tv t := by
  simp only [Bool.or_eq_false_iff] at h
  have g : ∀ c, Nat.beq F c = false → sI (sIw t F o v) c = sI t c := fun c hc => funext fun q => if_neg (fun z => Nat.ne_of_beq_eq_false hc z.1.symm)
  exact Prod.ext (g _ h.1.1) (Prod.ext (g _ h.1.2) (Prod.ext rfl (g _ h.2)))
theorem tv_R {t : sT} {F o : Nat} {v : Option Nat} (h : Nat.beq F 527 = false) : tv (sRw t F o v) = tv t := Prod.ext rfl (Prod.ext rfl (Prod.ext (funext fun q => if_neg (fun z => Nat.ne_of_beq_eq_false h z.1.symm)) rfl))
section S53
variable {t t' : sT} {M : sM} {F n T A B b c m o k : Nat} {p a : Int32} {s : Bool} {L : List Nat} {Q : sRs → sT → Prop}
theorem Rl_T1 (h : Rl t M n T) (h1 : sI t 579 T = mA M 24 T) (h2 : sI t 580 T = mA M 25 T) (h3 : sZ t 581 T = mB M 7 T) : Rl t M n (T + 1) := by
  refine ⟨fun q hq o ho => ?_, fun q hq o ho => ?_, h.2.2⟩
  · by_cases e : o < bd n T q.1
    · exact h.1 q hq o e
    · have c1 := (by decide : ∀ q ∈ sPI, q.1 / 64 = 9 → q = (579, 24) ∨ q = (580, 25)) q hq
      by_cases e9 : q.1 / 64 = 9
      · have e1 : bd n (T + 1) q.1 = T + 1 := by unfold bd; rw [e9]; rfl
        have e2 : bd n T q.1 = T := by unfold bd; rw [e9]; rfl
        have : o = T := by omega
        subst this
        rcases c1 e9 with r | r <;> rw [r]
        · exact h1
        · exact h2
      · have e1 : bd n (T + 1) q.1 = bd n T q.1 := by unfold bd; split <;> first | rfl | omega
        exact absurd (e1 ▸ ho) e
  · by_cases e : o < bd n T q.1
    · exact h.2.1 q hq o e
    · have c1 := (by decide : ∀ q ∈ sPZ, q.1 / 64 = 9 → q = (581, 7)) q hq
      by_cases e9 : q.1 / 64 = 9
      · have e1 : bd n (T + 1) q.1 = T + 1 := by unfold bd; rw [e9]; rfl
        have e2 : bd n T q.1 = T := by unfold bd; rw [e9]; rfl
        have : o = T := by omega
        subst this
        rw [c1 e9]
        exact h3
      · have e1 : bd n (T + 1) q.1 = bd n T q.1 := by unfold bd; split <;> first | rfl | omega
        exact absurd (e1 ▸ ho) e
theorem Rl_cong {M' : sM} (h : Rl t M n T) (h1 : ∀ q ∈ sPI, ∀ o, o < bd n T q.1 → mA M' q.2 o = mA M q.2 o) (h2 : ∀ q ∈ sPZ, ∀ o, o < bd n T q.1 → mB M' q.2 o = mB M q.2 o) (h3 : ∀ q ∈ sPS, mI M' q.2 = mI M q.2) (h6 : mA M' 6 = mA M 6) (h11 : mA M' 11 = mA M 11) (h17 : ∀ o, o < n → mA M' 17 o = mA M 17 o) (h19 : ∀ o, o < n → mA M' 19 o = mA M 19 o) : Rl t M' n T := by
  refine ⟨fun q hq o ho => (h.1 q hq o ho).trans (h1 q hq o ho).symm, fun q hq o ho => (h.2.1 q hq o ho).trans (h2 q hq o ho).symm, fun q hq => (h.2.2.1 q hq).trans (h3 q hq).symm, ⟨fun m c hm hc => ?_, fun k hk => ?_⟩, fun o ho => ?_⟩
  · rw [h6]; exact h.2.2.2.1.1 m c hm hc
  · rw [h11]; exact h.2.2.2.1.2 k hk
  · rw [h17 o ho, h19 o ho]; exact h.2.2.2.2 o ho
/-- a new trade, not yet settled -/
def ntF (M : sM) (T c m o : Nat) (p a : Int32) : sM := mIw (mBw (mAw (mAw (mAw (mAw (mAw M 21 T (io c)) 22 T (io m)) 23 T (io o)) 24 T p) 25 T a) 7 T false) 801 (io (T + 1))
theorem nt_21 (k : Nat) : mA (ntF M T c m o p a) 21 k = if k = T then io c else mA M 21 k := by
  show (if 21 = 21 ∧ k = T then io c else mA M 21 k) = _
  by_cases e : k = T
  · rw [if_pos ⟨rfl, e⟩, if_pos e]
  · rw [if_neg (fun z => e z.2), if_neg e]
theorem nt_22 (k : Nat) : mA (ntF M T c m o p a) 22 k = if k = T then io m else mA M 22 k := by
  show (if 22 = 22 ∧ k = T then io m else mA M 22 k) = _
  by_cases e : k = T
  · rw [if_pos ⟨rfl, e⟩, if_pos e]
  · rw [if_neg (fun z => e z.2), if_neg e]
theorem nt_23 (k : Nat) : mA (ntF M T c m o p a) 23 k = if k = T then io o else mA M 23 k := by
  show (if 23 = 23 ∧ k = T then io o else mA M 23 k) = _
  by_cases e : k = T
  · rw [if_pos ⟨rfl, e⟩, if_pos e]
  · rw [if_neg (fun z => e z.2), if_neg e]
theorem nt_tK (hc3 : c < 3) (k : Nat) : tK (ntF M T c m o p a) k = if k = T then c else tK M k := by
  unfold tK; rw [nt_21]; split
  · exact nn_io (gc31 hc3)
  · rfl
theorem nt_tB (hm : m < 6) (k : Nat) : tB (ntF M T c m o p a) k = if k = T then m else tB M k := by
  unfold tB; rw [nt_22]; split
  · exact nn_io (gm31 hm)
  · rfl
theorem nt_tS (ho : o < 6) (k : Nat) : tS (ntF M T c m o p a) k = if k = T then o else tS M k := by
  unfold tS; rw [nt_23]; split
  · exact nn_io (gm31 ho)
  · rfl
theorem Fr_nt : Fr (ntF M T c m o p a) M := ⟨rfl, rfl, rfl, rfl, rfl⟩
theorem cst_mk (hc3 : c < 3) (hm : m < 6) (ho : o < 6) : cstF (ntF M T c m o p a) T a = mkF M T c m o p a false := by
  have e1 : tK (ntF M T c m o p a) T = c := (nt_tK hc3 T).trans (if_pos rfl)
  have e2 : tB (ntF M T c m o p a) T = m := (nt_tB hm T).trans (if_pos rfl)
  have e3 : tS (ntF M T c m o p a) T = o := (nt_tS ho T).trans (if_pos rfl)
  have e4 : mA (ntF M T c m o p a) 24 T = p := by
    show (if 24 = 24 ∧ T = T then p else _) = p
    rw [if_pos ⟨rfl, rfl⟩]
  unfold cstF mkF
  rw [e1, e2, e3, e4, decide_eq_true hc3]
  exact mAw_id.symm
theorem Sf_of_nt (hc : Sf t M n T) (hc3 : c < 3) (hm : m < 6) (ho : o < 6) (hT4 : T + 1 < 4096) (h1 : Cn t') (h2 : ∀ k, k < n → sI t' 512 k = sI t 512 k ∧ sR t' 513 k = sR t 513 k ∧ sR t' 514 k = sR t 514 k)
    (h3 : ∀ k, sR t' 576 k = if k = T then some c else sR t 576 k) (h4 : ∀ k, sR t' 577 k = if k = T then some m else sR t 577 k) (h5 : ∀ k, sR t' 578 k = if k = T then some o else sR t 578 k)
    (h6 : Ls1 t' 0 9 (T + 1)) (h7 : Ls1 t' 1 8 n) (h8 : sC t' 8 = n) (h9 : sC t' 9 = T + 1) : Sf t' (ntF M T c m o p a) n (T + 1) := by
  obtain ⟨g1, g2, g3, g4, g5, ⟨g6, g7, g8⟩, g9, g10⟩ := hc
  refine ⟨h1, fun k hk => ?_, fun k hk => ?_, h6, h7, ⟨rfl, hT4, fun k hk => ?_⟩, h8, h9⟩
  · obtain ⟨r1, r2, r3⟩ := h2 k hk
    rw [r1, r2, r3]; exact g2 k hk
  · rw [h3, h4, h5, nt_tK hc3, nt_tB hm, nt_tS ho]
    by_cases e : k = T
    · rw [if_pos e, if_pos e, if_pos e, if_pos e, if_pos e, if_pos e]; exact ⟨rfl, rfl, rfl⟩
    · rw [if_neg e, if_neg e, if_neg e, if_neg e, if_neg e, if_neg e]; exact g3 k (by omega)
  · rw [nt_21, nt_22, nt_23, nt_tK hc3, nt_tB hm, nt_tS ho]
    by_cases e : k = T
    · rw [if_pos e, if_pos e, if_pos e, if_pos e, if_pos e, if_pos e]; exact ⟨⟨rfl, hc3⟩, ⟨rfl, hm⟩, rfl, ho⟩
    · rw [if_neg e, if_neg e, if_neg e, if_neg e, if_neg e, if_neg e]; exact g8 k (by omega)
theorem LLd_w {ln mm d w : Nat → Nat} {le : Nat → Nat → Nat} {A' B' : Nat} (hL : LLd t ln mm le A B d w) (h1 : ∀ l, sR t' 833 l = sR t 833 l) (h2 : ∀ l, sI t' 834 l = sI t 834 l) (h3 : sN t' 27 = sN t 27) (h4 : sC t' 27 = sC t 27) (h5 : sE t' 27 = sE t 27) (h6 : sn t' + A ≤ sn t + A') (h7 : sw t' + B ≤ sw t + B') : LLd t' ln mm le A' B' d w := by
  obtain ⟨g1, g2, g3, g4⟩ := hL
  refine ⟨fun l hl => ⟨Ls_o (g1 l hl).1 (h1 l) (h2 l) (by rw [h3]) (Nat.le_of_eq h4.symm) (fun i _ => by rw [h5]), (g1 l hl).2⟩, g2, by omega, by omega⟩
set_option maxHeartbeats 2000000 in
/-- a trade is recorded -/
theorem c45 (hM : Rl t M n T) (hc : Sf t M n T) (hR : Ri M n) (hL : LL t T n L A B) (hC : rlC t M n) (hLn : L.length ≤ 200) (hc3 : c < 3) (hm : m < 6) (ho : o < 6) (hT4 : T + 1 < 4096)
    (q : ∀ t', Rl t' (mkF M T c m o p a false) n (T + 1) → Sf t' (mkF M T c m o p a false) n (T + 1) → LL t' (T + 1) n L A B → ep t' = ep t → tv t' = tv t → rlC t' (mkF M T c m o p a false) n → Q (.inl none) t') :
    X 45 0 [.inr (.inr (5, (some 0))), .inr (.inr (2, (some c))), .inr (.inr (7, (some m))), .inr (.inr (7, (some o))), .inl p, .inl a, sJk] [] t Q := by
  refine n45 hM hc hR hc3 hm ho ?_
  have hn : n ≤ 200 := hR.2.1
  obtain ⟨⟨d, w, hLd⟩, hz⟩ := hL
  have hM1 : Rl (sIw (sIw (sRw (sRw (sRw (sNew t 9 6) 576 T (some c)) 577 T (some m)) 578 T (some o)) 579 T p) 580 T a) (ntF M T c m o p a) n (T + 1) := by
    have h1 : Rl (sIw (sIw (sRw (sRw (sRw (sNew t 9 6) 576 T (some c)) 577 T (some m)) 578 T (some o)) 579 T p) 580 T a) (mAw (mAw M 24 T p) 25 T a) n T := Rl_I rfl (Rl_I rfl (Rl_R (Rl_R (Rl_R hM))))
    refine Rl_T1 (Rl_cong h1 (fun q hq k hk => ?_) (fun q hq k hk => ?_) (fun q hq => ?_) rfl rfl (fun k hk => rfl) (fun k hk => rfl)) ?_ ?_ ?_
    · have g := (by decide : ∀ q ∈ sPI, ¬ q.2 = 21 ∧ ¬ q.2 = 22 ∧ ¬ q.2 = 23) q hq
      show (if q.2 = 25 ∧ k = T then a else if q.2 = 24 ∧ k = T then p else if q.2 = 23 ∧ k = T then io o else if q.2 = 22 ∧ k = T then io m else if q.2 = 21 ∧ k = T then io c else mA M q.2 k) = (if q.2 = 25 ∧ k = T then a else if q.2 = 24 ∧ k = T then p else mA M q.2 k)
      rw [if_neg (c := q.2 = 23 ∧ k = T) (fun z => g.2.2 z.1), if_neg (c := q.2 = 22 ∧ k = T) (fun z => g.2.1 z.1), if_neg (c := q.2 = 21 ∧ k = T) (fun z => g.1 z.1)]
    · show (if q.2 = 7 ∧ k = T then false else mB M q.2 k) = mB M q.2 k
      refine if_neg (fun z => ?_)
      have g := (by decide : ∀ q ∈ sPZ, q.2 = 7 → q.1 = 581) q hq z.1
      rw [g] at hk
      have hk2 : k < T := hk
      omega
    · have g := (by decide : ∀ q ∈ sPS, ¬ q.2 = 801) q hq
      exact if_neg g
    · show (if 579 = 580 ∧ T = T then a else if 579 = 579 ∧ T = T then p else sI t 579 T) = (if 24 = 25 ∧ T = T then a else if 24 = 24 ∧ T = T then p else _)
      rw [if_neg (fun z => by cases z.1), if_pos ⟨rfl, rfl⟩, if_neg (fun z => by cases z.1), if_pos ⟨rfl, rfl⟩]
    · show (if 580 = 580 ∧ T = T then a else _) = (if 25 = 25 ∧ T = T then a else _)
      rw [if_pos ⟨rfl, rfl⟩, if_pos ⟨rfl, rfl⟩]
    · show sZ t 581 T = (if 7 = 7 ∧ T = T then false else mB M 7 T)
      rw [if_pos ⟨rfl, rfl⟩]; exact hz.2 T (Nat.le_refl _)
  have hq1 : qp (sIw (sIw (sRw (sRw (sRw (sNew t 9 6) 576 T (some c)) 577 T (some m)) 578 T (some o)) 579 T p) 580 T a) = qp t := (qp_R (t := sRw (sRw (sNew t 9 6) 576 T (some c)) 577 T (some m)) rfl).trans ((qp_R (t := sRw (sNew t 9 6) 576 T (some c)) rfl).trans (qp_R (t := sNew t 9 6) rfl))
  have he1 : ep (sIw (sIw (sRw (sRw (sRw (sNew t 9 6) 576 T (some c)) 577 T (some m)) 578 T (some o)) 579 T p) 580 T a) = ep t := (ep_I rfl).trans (ep_I rfl)
  have hv1 : tv (sIw (sIw (sRw (sRw (sRw (sNew t 9 6) 576 T (some c)) 577 T (some m)) 578 T (some o)) 579 T p) 580 T a) = tv t := (tv_I rfl).trans ((tv_I rfl).trans ((tv_R rfl).trans ((tv_R rfl).trans (tv_R rfl))))
  have hLd1 : LLd (sIw (sIw (sRw (sRw (sRw (sNew t 9 6) 576 T (some c)) 577 T (some m)) 578 T (some o)) 579 T p) 580 T a) (l3 T n L.length) (l3 T n 200) (e3 L) (A + n + (T + 1)) (B + 18 * n + 6 * (T + 1)) d w := by
    refine LLd_w hLd (fun l => ?_) (fun l => ?_) rfl rfl rfl ?_ ?_
    · rfl
    · rfl
    · show (sn t + 1) + _ ≤ _; omega
    · show (sw t + 6) + _ ≤ _; omega
  refine y_add (l := 0) (m' := l3 (T + 1) n 200) (by decide) hLd1 (fun a ha => ?_) (Nat.le_refl _) (fun a ha => ?_) (fun t2 d2 w2 hLd2 hf => ?_)
  · match a, ha with
    | 0, _ => show T + 1 < 9000; omega
    | 1, _ => show n < 9000; omega
    | 2, _ => show 200 < 9000; decide
  · match a, ha with
    | 0, _ => exact Nat.le_succ T
    | 1, _ => exact Nat.le_refl _
    | 2, _ => exact Nat.le_refl _
  refine sK_i (pc' := 25) rfl ?_
  refine n45_25 ?_
  have hL2 : LL t2 (T + 1) n L A B := ⟨⟨d2, w2, LLd_f hLd2 (fun l hl => ?_) (fun l hl => Nat.le_refl _) (fun l i hl hi => ?_)⟩, Fz_lf hf ⟨fun k hk => hz.1 k hk, fun k hk => hz.2 k (by omega)⟩⟩
  rotate_left
  · match l, hl with
    | 0, _ => rfl
    | 1, _ => rfl
    | 2, _ => rfl
  · match l, hl with
    | 0, _ =>
      by_cases e : i = T
      · exact ((if_pos ⟨rfl, e⟩ : (if 0 = 0 ∧ i = T then T else i) = T)).trans e.symm
      · exact (if_neg (fun z => e z.2) : (if 0 = 0 ∧ i = T then T else i) = i)
    | 1, _ => rfl
    | 2, _ => rfl
  have hn1 : Cn (sIw (sIw (sRw (sRw (sRw (sNew t 9 6) 576 T (some c)) 577 T (some m)) 578 T (some o)) 579 T p) 580 T a) := Cn.I rfl (Cn.I rfl (Cn.R rfl (Cn.R rfl (Cn.R rfl (Cn.new hc.1)))))
  have hS2 : Sf t2 (ntF M T c m o p a) n (T + 1) := by
    obtain ⟨f1, f2, f3, f4, f5, f6, f7, f8, f9, f10⟩ := id hf
    refine Sf_of_nt hc hc3 hm ho hT4 (Cn_lf hf hn1) (fun k hk => ⟨?_, ?_, ?_⟩) (fun k => ?_) (fun k => ?_) (fun k => ?_) (LL_0 hL2) (LL_1 hL2) ?_ ?_
    · rw [f1 512 (by decide) (by decide)]; rfl
    · rw [f3 513 (by decide)]; rfl
    · rw [f3 514 (by decide)]; rfl
    · rw [f3 576 (by decide)]
      show (if 576 = 578 ∧ k = T then some o else if 576 = 577 ∧ k = T then some m else if 576 = 576 ∧ k = T then some c else sR t 576 k) = _
      rw [if_neg (fun z => by cases z.1), if_neg (fun z => by cases z.1)]
      by_cases e : k = T
      · rw [if_pos ⟨rfl, e⟩, if_pos e]
      · rw [if_neg (fun z => e z.2), if_neg e]
    · rw [f3 577 (by decide)]
      show (if 577 = 578 ∧ k = T then some o else if 577 = 577 ∧ k = T then some m else if 577 = 576 ∧ k = T then some c else sR t 577 k) = _
      rw [if_neg (fun z => by cases z.1)]
      by_cases e : k = T
      · rw [if_pos ⟨rfl, e⟩, if_pos e]
      · rw [if_neg (fun z => e z.2), if_neg e, if_neg (fun z => by cases z.1)]
    · rw [f3 578 (by decide)]
      show (if 578 = 578 ∧ k = T then some o else if 578 = 577 ∧ k = T then some m else if 578 = 576 ∧ k = T then some c else sR t 578 k) = _
      by_cases e : k = T
      · rw [if_pos ⟨rfl, e⟩, if_pos e]
      · rw [if_neg (fun z => e z.2), if_neg e, if_neg (fun z => by cases z.1), if_neg (fun z => by cases z.1)]
    · rw [f9 8 (by decide)]
      exact (show sC t 8 = n from Sf_C8 hc)
    · rw [f9 9 (by decide)]
      show sC t 9 + 1 = T + 1
      rw [Sf_C9 hc]
  have hM2 := Rl_lf hf hM1
  have hq2 : qp t2 = qp t := by
    refine Eq.trans ?_ hq1
    refine funext fun F => funext fun x => ?_
    show (bif kc F then sR t2 F x else none) = bif kc F then sR _ F x else none
    by_cases e : F = 833
    · subst e; rfl
    · rw [hf.2.2.1 F e]
  refine c77 hM2 hS2 (Fr.ri Fr_nt hR) (Nat.lt_succ_self T) (fun t3 h1 h2 h3 => ?_)
  refine sK_v (pc' := 33) rfl ?_
  refine n45_33 ?_
  have hS3 := Sf_fc (Fc_cstF (k := T) (a := a) (Fc.refl _)) (Sf_np h2 hS2)
  rw [cst_mk hc3 hm ho] at h1 hS3
  refine q t3 h1 hS3 (LL_np h2 (Sf_C8 hS2) hL2) ((ep_np h2).trans ((ep_lf hf).trans he1)) ((tv_np h2).trans ((tv_lf hf).trans hv1)) ?_
  exact rlC_fr hC (h3.trans hq2) rfl rfl rfl rfl rfl
theorem mk_mark : mAw (mkF M T c m o p a false) 1 c p = mkF M T c m o p a true := by
  unfold mkF
  exact mAw_over
theorem Fc_m1 {v : Int32} : Fc (mAw M 1 c v) M := Fc_A rfl (Fc.refl _)
theorem rlC_m1 {v : Int32} (h : rlC t M n) : rlC (sIw t 129 c v) (mAw M 1 c v) n := rlC_fr h rfl rfl rfl rfl rfl rfl
theorem Rl_m1 {v : Int32} (h : Rl t M n T) : Rl (sIw t 129 c v) (mAw M 1 c v) n T := Rl_I rfl h
theorem Sf_m1 {v : Int32} (h : Sf t M n T) : Sf (sIw t 129 c v) (mAw M 1 c v) n T := Sf_fc Fc_m1 (Sf_np (np_I rfl) h)
theorem Sf_eq {M' : sM} (e : M = M') (h : Sf t M n T) : Sf t M' n T := e ▸ h
/-- a trade that the mark follows -/
theorem c46 (hM : Rl t M n T) (hc : Sf t M n T) (hR : Ri M n) (hL : LL t T n L A B) (hC : rlC t M n) (hLn : L.length ≤ 200) (hc3 : c < 3) (hm : m < 6) (ho : o < 6) (hT4 : T + 1 < 4096)
    (q : ∀ t', Rl t' (mkF M T c m o p a true) n (T + 1) → Sf t' (mkF M T c m o p a true) n (T + 1) → LL t' (T + 1) n L A B → ep t' = ep t → tv t' = tv t → rlC t' (mkF M T c m o p a true) n → Q (.inl none) t') :
    X 46 0 [.inr (.inr (5, (some 0))), .inr (.inr (2, (some c))), .inr (.inr (7, (some m))), .inr (.inr (7, (some o))), .inl p, .inl a] [] t Q := by
  refine n46 ?_
  refine c45 hM hc hR hL hC hLn hc3 hm ho hT4 (fun t1 h1 h2 h3 h4 h5 h6 => ?_)
  refine sK_v (pc' := 11) rfl ?_
  refine n46_b ?_
  have g : np (sIw t1 129 c p) = np t1 := np_I rfl
  exact q _ (Rl_eq mk_mark (Rl_m1 h1)) (Sf_eq mk_mark (Sf_m1 h2)) (LL_np g (Sf_C8 h2) h3) ((ep_np g).trans h4) ((tv_np g).trans h5) (rlC_eq mk_mark (rlC_m1 h6))
end S53
section S53c
variable {t t' : sT} {M M0 M' : sM} {F n T A B b c m o k K x : Nat} {p a : Int32} {s : Bool} {L : List Nat} {Q : sRs → sT → Prop}
theorem Fr.tr (h : Fr M' M) (h0 : Fr M M0) : Fr M' M0 := ⟨h.1.trans h0.1, h.2.1.trans h0.2.1, h.2.2.1.trans h0.2.2.1, h.2.2.2.1.trans h0.2.2.2.1, h.2.2.2.2.trans h0.2.2.2.2⟩
theorem Fr.f14 (h : Fr M M0) : mA M 14 = mA M0 14 := h.2.2.2.1
theorem Fr.f3 (h : Fr M M0) : mB M 3 = mB M0 3 := h.2.2.2.2
theorem oM_fr (h : Fr M M0) : oM M = oM M0 := funext fun k => congrArg Int32.toNatClampNeg (congrFun h.1 k)
theorem oB_fr (h : Fr M M0) : oB M = oB M0 := funext fun k => congrArg Int32.toNatClampNeg (congrFun h.2.1 k)
theorem Sf_513f (hS : Sf t M n T) (h : Fr M M0) (hk : k < n) : sR t 513 k = some (oM M0 k) := by rw [← oM_fr h]; exact Sf_513 hS hk
theorem Sf_514f (hS : Sf t M n T) (h : Fr M M0) (hk : k < n) : sR t 514 k = some (oB M0 k) := by rw [← oB_fr h]; exact Sf_514 hS hk
theorem Pb_fr (h : Fr M M0) (hP : Pb M0 n) : Pb M n := by
  intro k hk
  rw [h.f14]; exact hP k hk
theorem if_mnc (a b : Int32) : (if b < a then b else a) = mnc b a := by
  unfold mnc
  by_cases h : b < a
  · rw [if_pos h, decide_eq_true h]; rfl
  · rw [if_neg h, decide_eq_false h]; rfl
theorem mnc_le (a b : Int32) : ¬ a < mnc a b := by
  unfold mnc
  by_cases h : a < b
  · rw [decide_eq_true h]
    show ¬ a < a
    exact Int32.lt_irrefl
  · rw [decide_eq_false h]; exact h
theorem if_mnr (a b : Int32) : (if mnc a b < a then mnc a b else a) = mnc a b := by
  by_cases h : mnc a b < a
  · exact if_pos h
  · rw [if_neg h]
    have := mnc_le a b
    have h2 : (mnc a b).toInt = a.toInt := by rw [Int32.lt_iff_toInt_lt] at h this; omega
    exact (Int32.toInt_inj.mp h2).symm
theorem Sf_w (hS : Sf t M n T) (h1 : Cn t') (hI : ∀ k, sI t' 512 k = sI t 512 k) (hI2 : ∀ k, sI t' 834 k = sI t 834 k) (hR : ∀ F k, ¬ F = 527 → sR t' F k = sR t F k) (hN : sN t' = sN t) (hC : sC t' = sC t) (hE : sE t' = sE t) : Sf t' M n T := by
  obtain ⟨g1, g2, g3, ⟨d, w, g4, g4b⟩, ⟨d2, w2, g5, g5b⟩, g6, g7, g8⟩ := hS
  refine ⟨h1, fun k hk => ?_, fun k hk => ?_, ⟨d, w, Ls_o g4 (hR _ _ (by decide)) (hI2 _) (by rw [hN]) (by rw [hC]; exact Nat.le_refl _) (fun i _ => by rw [hE]), g4b⟩, ⟨d2, w2, Ls_o g5 (hR _ _ (by decide)) (hI2 _) (by rw [hN]) (by rw [hC]; exact Nat.le_refl _) (fun i _ => by rw [hE]), g5b⟩, g6, by rw [hC]; exact g7, by rw [hC]; exact g8⟩
  · rw [hI, hR 513 k (by decide), hR 514 k (by decide)]; exact g2 k hk
  · rw [hR 576 k (by decide), hR 577 k (by decide), hR 578 k (by decide)]; exact g3 k hk
theorem tmp3 (h : (Nat.beq F 526 || Nat.beq F 528 || Nat.beq F 455) = true) : F = 526 ∨ F = 528 ∨ F = 455 := by
  simp only [Bool.or_eq_true] at h
  rcases h with (h | h) | h
  · exact Or.inl (Nat.eq_of_beq_eq_true h)
  · exact Or.inr (Or.inl (Nat.eq_of_beq_eq_true h))
  · exact Or.inr (Or.inr (Nat.eq_of_beq_eq_true h))
theorem Sf_tI {v : Int32} (h : (Nat.beq F 526 || Nat.beq F 528 || Nat.beq F 455) = true) (hS : Sf t M n T) : Sf (sIw t F o v) M n T := by
  refine Sf_w hS ?_ (fun k => if_neg ?_) (fun k => if_neg ?_) (fun _ _ _ => rfl) rfl rfl rfl
  · rcases tmp3 h with e | e | e <;> subst e <;> exact Cn.I rfl hS.1
  · rcases tmp3 h with e | e | e <;> subst e <;> exact fun z => by cases z.1
  · rcases tmp3 h with e | e | e <;> subst e <;> exact fun z => by cases z.1
theorem Sf_tR {v : Option Nat} (hS : Sf t M n T) : Sf (sRw t 527 o v) M n T :=
  Sf_w hS (Cn.R rfl hS.1) (fun _ => rfl) (fun _ => rfl) (fun F k h => if_neg (fun z => h z.1)) rfl rfl rfl
theorem LL_tI {v : Int32} (h : (Nat.beq F 526 || Nat.beq F 528 || Nat.beq F 455) = true) (hL : LL t T n L A B) : LL (sIw t F o v) T n L A B := by
  obtain ⟨⟨d, w, h1⟩, h2⟩ := hL
  refine ⟨⟨d, w, LLd_w h1 (fun _ => rfl) (fun l => if_neg ?_) rfl rfl rfl (Nat.le_refl _) (Nat.le_refl _)⟩, fun k hk => ?_, h2.2⟩
  · rcases tmp3 h with e | e | e <;> subst e <;> exact fun z => by cases z.1
  · have h3 : sI (sIw t F o v) 518 k = sI t 518 k := if_neg (by rcases tmp3 h with e | e | e <;> subst e <;> exact fun z => by cases z.1)
    have h4 : sI (sIw t F o v) 525 k = sI t 525 k := if_neg (by rcases tmp3 h with e | e | e <;> subst e <;> exact fun z => by cases z.1)
    rw [h3, h4]
    exact h2.1 k hk
theorem LL_tR {v : Option Nat} (hL : LL t T n L A B) : LL (sRw t 527 o v) T n L A B := by
  obtain ⟨⟨d, w, h1⟩, h2⟩ := hL
  exact ⟨⟨d, w, LLd_w h1 (fun l => rfl) (fun _ => rfl) rfl rfl rfl (Nat.le_refl _) (Nat.le_refl _)⟩, h2⟩
theorem Sf_lf (hf : lf t t') (hL : LL t' T n L A B) (hS : Sf t M n T) : Sf t' M n T := by
  obtain ⟨f1, f2, f3, f4, f5, f6, f7, f8, f9, f10⟩ := id hf
  obtain ⟨g1, g2, g3, g4, g5, g6, g7, g8⟩ := hS
  refine ⟨Cn_lf hf g1, fun k hk => ?_, fun k hk => ?_, LL_0 hL, LL_1 hL, g6, (f9 8 (by decide)).trans g7, (f9 9 (by decide)).trans g8⟩
  · rw [f1 512 (by decide) (by decide), f3 513 (by decide), f3 514 (by decide)]; exact g2 k hk
  · rw [f3 576 (by decide), f3 577 (by decide), f3 578 (by decide)]; exact g3 k hk
theorem LL_g0 {o0 : Nat} (hL : LL t T n (o0 :: L) A B) (q : Q (.inl (some (.inr (.inr (8, some o0))))) t) : X 252 0 [.inr (.inr (13, some 2)), .inl 0] [] t Q := LL_g (k := 0) hL (by simp) q
theorem LL_g1 {o0 o1 : Nat} (hL : LL t T n (o0 :: o1 :: L) A B) (q : Q (.inl (some (.inr (.inr (8, some o1))))) t) : X 252 0 [.inr (.inr (13, some 2)), .inl 1] [] t Q := LL_g (k := 1) hL (by simp) q
theorem LL_g2 {o0 o1 o2 : Nat} (hL : LL t T n (o0 :: o1 :: o2 :: L) A B) (q : Q (.inl (some (.inr (.inr (8, some o2))))) t) : X 252 0 [.inr (.inr (13, some 2)), .inl 2] [] t Q := LL_g (k := 2) hL (by simp) q
/-- the functions' effects -/
theorem crS_A : mA (crS M n b p k) = mA M ∧ mI (crS M n b p k) = mI M ∧ ∀ a, ¬ a = 6 → mB (crS M n b p k) a = mB M a := by
  unfold crS
  cases decide (mA M 19 k = 0)
  · exact ⟨rfl, rfl, fun _ _ => rfl⟩
  · cases decide (oB M k = b)
    · exact ⟨rfl, rfl, fun _ _ => rfl⟩
    · cases (bif mB M 3 k then !decide (p < mA M 20 k) else !decide (mA M 20 k < p))
      · exact ⟨rfl, rfl, fun _ _ => rfl⟩
      · exact ⟨rfl, rfl, fun a h => funext fun q => if_neg (fun z => h z.1)⟩
theorem crL_A : ∀ k, mA (crL M n b p k) = mA M ∧ mI (crL M n b p k) = mI M ∧ ∀ a, ¬ a = 6 → mB (crL M n b p k) a = mB M a
  | 0 => ⟨rfl, rfl, fun _ _ => rfl⟩
  | k + 1 => by
    have h1 := crL_A k
    have h2 := crS_A (M := crL M n b p k) (n := n) (b := b) (p := p) (k := k)
    exact ⟨h2.1.trans h1.1, h2.2.1.trans h1.2.1, fun a h => (h2.2.2 a h).trans (h1.2.2 a h)⟩
theorem cr_A : mA (crF M n b p) = mA M := (crL_A n).1
theorem cr_I : mI (crF M n b p) = mI M := (crL_A n).2.1
theorem cr_B {a : Nat} (h : ¬ a = 6) : mB (crF M n b p) a = mB M a := (crL_A n).2.2 a h
theorem rlC_cr {t' : sT} (hC : rlC t M n) (hq : qp t' = qp t) : rlC t' (crF M k b p) n := rlC_fr hC hq (by rw [cr_A]) (by rw [cr_A]) (by rw [cr_A]) (by rw [cr_A]) (cr_B (by decide))
def Sq (M : sM) (n K : Nat) : Prop := 0 ≤ (mI M 800).toInt ∧ (mI M 800).toInt ≤ K ∧ ∀ k, k < n → (mA M 18 k).toInt ≤ (mI M 800).toInt
theorem Sq.sp (h : Sq M n K) (hK : K < 1000000) : Sp M n := ⟨h.1, by have := h.2.1; omega, h.2.2⟩
theorem Sq_fr (h : Sq M n K) (h1 : mI M' 800 = mI M 800) (h2 : mA M' 18 = mA M 18) : Sq M' n K := by
  unfold Sq
  rw [h1, h2]; exact h
theorem Sq_mono (h : Sq M n K) : Sq M n (K + 1) := ⟨h.1, by have := h.2.1; omega, h.2.2⟩
theorem Sq_bif {z : Bool} (h1 : Sq M n K) (h2 : Sq M' n K) : Sq (bif z then M else M') n K := by cases z; exact h2; exact h1
theorem Sq_crF (h : Sq M n K) : Sq (crF M k b p) n K := Sq_fr h (by rw [cr_I]) (by rw [cr_A])
theorem Sq_ctkF (h : Sq M n K) : Sq (ctkF M o a) n K := by
  unfold ctkF
  exact Sq_bif (Sq_fr h rfl rfl) (Sq_fr h rfl rfl)
theorem Sq_cnF (h : Sq M n K) : Sq (cnF M o) n K := Sq_fr h rfl rfl
theorem Sq_ofF (h : Sq M n K) : Sq (ofF M o a) n K := by
  unfold ofF
  exact Sq_bif (Sq_fr h rfl rfl) (Sq_fr h rfl rfl)
theorem Sq_mkF (h : Sq M n K) : Sq (mkF M T c m o p a s) n K := Sq_fr h rfl rfl
theorem Sq_ms3F (h : Sq M n K) : Sq (ms3F M T s m o p a) n K := Sq_fr h rfl rfl
theorem Sq_ms4F (h : Sq M n K) : Sq (ms4F M T s m o p a) n K := Sq_fr h rfl rfl
theorem Sq_shF (hK : K < 1000000) (h : Sq M n K) : Sq (shF M o true) n (K + 1) := by
  have hadd : ((mI M 800) + 1).toInt = (mI M 800).toInt + 1 := by
    rw [Int32.toInt_add, show (1 : Int32).toInt = 1 from rfl]
    have := h.1; have := h.2.1
    exact Int.bmod_eq_of_le (by omega) (by omega)
  have e1 : mI (shF M o true) 800 = mI M 800 + 1 := rfl
  have e2 : ∀ x, mA (shF M o true) 18 x = if x = o then mI M 800 + 1 else mA M 18 x := by
    intro x
    show (if 18 = 18 ∧ x = o then mI M 800 + 1 else if 18 = 17 ∧ x = o then mnc (mA M 16 o) (mA M 15 o) else mA M 18 x) = _
    by_cases e : x = o
    · rw [if_pos ⟨rfl, e⟩, if_pos e]
    · rw [if_neg (fun z => e z.2), if_neg e, if_neg (fun z => by cases z.1)]
  refine ⟨by rw [e1, hadd]; have := h.1; omega, by rw [e1, hadd]; have := h.2.1; omega, fun k hk => ?_⟩
  rw [e1, e2, hadd]
  by_cases e : k = o
  · rw [if_pos e, hadd]; exact Int.le_refl _
  · rw [if_neg e]; have := h.2.2 k hk; omega
theorem Sq_flF (hK : K < 1000000) (h : Sq M n K) : Sq (flF M o a) n (K + 1) := by
  have h1 : Sq (ofF (mAw M 17 o ((mA M 17 o) - a)) o a) n K := Sq_ofF (Sq_fr h rfl rfl)
  unfold flF
  exact Sq_bif (Sq_bif (Sq_shF hK h1) (Sq_mono h1)) (Sq_mono h1)
theorem st_A {r : Nat} {v : Int32} (h : ¬ 19 = r) : mA (mAw M r o v) 19 x = mA M 19 x := if_neg (fun z => h z.1)
theorem st_bif {z : Bool} {v : Int32} (h1 : mA M 19 x = v) (h2 : mA M' 19 x = v) : mA (bif z then M else M') 19 x = v := by cases z; exact h2; exact h1
theorem st_crF : mA (crF M k b p) 19 x = mA M 19 x := by rw [cr_A]
theorem st_ctkF : mA (ctkF M o a) 19 x = mA M 19 x := by
  unfold ctkF
  exact st_bif rfl rfl
theorem st_mkF : mA (mkF M T c m o p a s) 19 x = mA M 19 x := rfl
theorem st_ms3F : mA (ms3F M T s m o p a) 19 x = mA M 19 x := rfl
theorem st_ms4F : mA (ms4F M T s m o p a) 19 x = mA M 19 x := rfl
theorem st_cnF (h : ¬ x = o) : mA (cnF M o) 19 x = mA M 19 x := if_neg (fun z => h z.2)
theorem st_ofF (h : ¬ x = o) : mA (ofF M o a) 19 x = mA M 19 x := by
  unfold ofF
  refine st_bif ?_ rfl
  exact if_neg (fun z => h z.2)
theorem st_flF (h : ¬ x = o) : mA (flF M o a) 19 x = mA M 19 x := by
  have h1 : mA (ofF (mAw M 17 o ((mA M 17 o) - a)) o a) 19 x = mA M 19 x := (st_ofF h).trans rfl
  unfold flF
  refine st_bif (st_bif ?_ h1) h1
  exact Eq.trans rfl h1
/-- a reference's functions, for the class -/
theorem Fc_of_rp {f : sM} (h12 : mA f 12 = mA M 12) (h13 : mA f 13 = mA M 13) (h786 : mI f 786 = mI M 786) (h14 : mA f 14 = mA M 14) (h3 : mB f 3 = mB M 3) (h21 : mA f 21 = mA M 21) (h22 : mA f 22 = mA M 22) (h23 : mA f 23 = mA M 23) (h801 : mI f 801 = mI M 801) (fr : Fc M M0) : Fc f M0 :=
  ⟨h12.trans fr.1, h13.trans fr.2.1, h786.trans fr.2.2.1, h14.trans fr.2.2.2.1, h3.trans fr.2.2.2.2.1, h21.trans fr.2.2.2.2.2.1, h22.trans fr.2.2.2.2.2.2.1, h23.trans fr.2.2.2.2.2.2.2.1, h801.trans fr.2.2.2.2.2.2.2.2⟩
theorem Fc_shF {s : Bool} (fr : Fc M M0) : Fc (shF M k s) M0 := Fc_cond (Fc_A rfl (Fc_I rfl (Fc_A rfl fr))) (Fc_A rfl fr)
theorem Fc_ofF (fr : Fc M M0) : Fc (ofF M k a) M0 := Fc_cond (Fc_A rfl (Fc_A rfl (Fc_A rfl (Fc_A rfl fr)))) (Fc_A rfl (Fc_A rfl fr))
theorem Fc_flF (fr : Fc M M0) : Fc (flF M k a) M0 := by
  have h1 : Fc (ofF (mAw M 17 k ((mA M 17 k) - a)) k a) M0 := Fc_ofF (Fc_A rfl fr)
  exact Fc_cond (Fc_cond (Fc_shF h1) h1) h1
end S53c
