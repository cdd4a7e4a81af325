/-! the class's part of a store beside calls of the reference; throws; places -/
section S88
variable {t t' t0 : sT} {M M' M0 N : sM} {n T A B b c m o k x y K w f v j F : Nat} {p a h d sz : Int32} {s z : Bool} {L L' l : List Nat} {r r0 : Option Nat} {y0 y1 y2 : sV} {Q : sRs → sT → Prop}
theorem cpI (h : cp t' = cp t) (hF : sMr F = false) : sI t' F o = sI t F o := by
  have h1 : (bif sMr F then 0 else sI t' F o) = (bif sMr F then 0 else sI t F o) := congrFun (congrFun (congrArg (fun z : sCp => z.1) h) F) o
  rw [hF] at h1; exact h1
theorem cpZ (h : cp t' = cp t) : sZ t' = sZ t := congrArg (fun z : sCp => z.2.1) h
theorem cpR (h : cp t' = cp t) : sR t' = sR t := congrArg (fun z : sCp => z.2.2.1) h
theorem cpA (h : cp t' = cp t) (hk : Nat.beq k 21 = false) : sA t' k o v = sA t k o v := by
  have h1 : (bif Nat.beq k 21 then 0 else sA t' k o v) = (bif Nat.beq k 21 then 0 else sA t k o v) := congrFun (congrFun (congrFun (congrArg (fun z : sCp => z.2.2.2.1) h) k) o) v
  rw [hk] at h1; exact h1
theorem cpE (h : cp t' = cp t) : sE t' = sE t := congrArg (fun z : sCp => z.2.2.2.2.1) h
theorem cpL (h : cp t' = cp t) : sL t' = sL t := congrArg (fun z : sCp => z.2.2.2.2.2.1) h
theorem cpN (h : cp t' = cp t) : sN t' = sN t := congrArg (fun z : sCp => z.2.2.2.2.2.2.1) h
theorem cpC (h : cp t' = cp t) : sC t' = sC t := congrArg (fun z : sCp => z.2.2.2.2.2.2.2.1) h
theorem cpn (h : cp t' = cp t) : sn t' = sn t := congrArg (fun z : sCp => z.2.2.2.2.2.2.2.2.2.1) h
theorem cpw (h : cp t' = cp t) : sw t' = sw t := congrArg (fun z : sCp => z.2.2.2.2.2.2.2.2.2.2) h
theorem sf_gen (hS : Sf t M n T) (h1 : Cn t') (h5 : ∀ F k, F = 512 ∨ F = 834 → sI t' F k = sI t F k) (hR : sR t' = sR t) (hN : sN t' 27 = sN t 27) (hC : ∀ k, ¬ k = 20 → sC t' k = sC t k) (hE : sE t' = sE t) : Sf t' M n T := by
  obtain ⟨g1, g2, g3, ⟨d, w, g4, g4b⟩, ⟨d2, w2, g5, g5b⟩, g6, g7, g8⟩ := hS
  refine ⟨h1, fun k hk => ?_, fun k hk => ?_, ⟨d, w, Ls_o g4 (by rw [hR]) (h5 834 _ (Or.inr rfl)) (by rw [hN]) (by rw [hC 27 (by decide)]; exact Nat.le_refl _) (fun i _ => by rw [hE]), g4b⟩, ⟨d2, w2, Ls_o g5 (by rw [hR]) (h5 834 _ (Or.inr rfl)) (by rw [hN]) (by rw [hC 27 (by decide)]; exact Nat.le_refl _) (fun i _ => by rw [hE]), g5b⟩, g6, by rw [hC 8 (by decide)]; exact g7, by rw [hC 9 (by decide)]; exact g8⟩
  · rw [h5 512 _ (Or.inl rfl), hR]; exact g2 k hk
  · rw [hR]; exact g3 k hk
theorem LL_gen {A' B' : Nat} (hL : LL t T n L A B) (hI : ∀ F k, F = 834 ∨ F = 518 ∨ F = 525 → sI t' F k = sI t F k) (hZ : sZ t' = sZ t) (hR : sR t' = sR t) (hN : sN t' 27 = sN t 27) (hC : sC t' 27 = sC t 27) (hE : sE t' = sE t) (h6 : sn t' + A ≤ sn t + A') (h7 : sw t' + B ≤ sw t + B') : LL t' T n L A' B' := by
  obtain ⟨⟨d, w, h1⟩, h2⟩ := hL
  refine ⟨⟨d, w, LLd_w h1 (fun l => by rw [hR]) (fun l => hI 834 l (Or.inl rfl)) hN hC (by rw [hE]) ?_ ?_⟩, fun o ho => ?_, fun k hk => ?_⟩
  · omega
  · omega
  · rw [hI 518 o (Or.inr (Or.inl rfl)), hI 525 o (Or.inr (Or.inr rfl)), hZ]; exact h2.1 o ho
  · rw [hZ]; exact h2.2 k hk
theorem W_gen {A' B' : Nat} (hW : Wc t M n T L A B) (h1 : Cn t') (hI : ∀ F o, sMr F = false → sI t' F o = sI t F o) (hZ : sZ t' = sZ t) (hR : sR t' = sR t) (hA : ∀ o p, o < 7 → sA t' 20 o p = sA t 20 o p) (hN : sN t' 27 = sN t 27) (hC : ∀ k, ¬ k = 20 → sC t' k = sC t k) (hE : sE t' = sE t) (h6 : sn t' + A ≤ sn t + A') (h7 : sw t' + B ≤ sw t + B') : Wc t' M n T L A' B' := by
  obtain ⟨g1, g2, g3, g4, g5, g6⟩ := hW
  refine ⟨⟨fun q hq o ho => ?_, fun q hq o ho => ?_, fun q hq => ?_, ⟨fun m c hm hc => ?_, fun k hk => ?_⟩, fun o ho => ?_⟩, sf_gen g2 h1 (fun F k hF => hI F k ?_) hR hN hC hE, g3, rlC_fr g4 ?_ rfl rfl rfl rfl rfl, LL_gen g5 (fun F k hF => hI F k ?_) hZ hR hN (hC 27 (by decide)) hE h6 h7, g6⟩
  · rw [hI _ _ ((by decide : ∀ q ∈ sPI, sMr q.1 = false) q hq)]; exact g1.1 q hq o ho
  · rw [hZ]; exact g1.2.1 q hq o ho
  · rw [hI _ _ ((by decide : ∀ q ∈ sPS, sMr q.1 = false) q hq)]; exact g1.2.2.1 q hq
  · rw [hA _ _ (by omega)]; exact g1.2.2.2.1.1 m c hm hc
  · rw [hA _ _ (by omega)]; exact g1.2.2.2.1.2 k hk
  · rw [hI 524 _ rfl]; exact g1.2.2.2.2 o ho
  · rcases hF with e | e <;> subst e <;> rfl
  · unfold qp; rw [hR]
  · rcases hF with e | e | e <;> subst e <;> rfl
theorem W_cp (h : cp t' = cp t) (hW : Wc t M n T L A B) : Wc t' M n T L A B :=
  W_gen hW (Cn_cp h hW.2.1.1) (fun F o hF => cpI h hF) (cpZ h) (cpR h) (fun o p _ => cpA h rfl) (by rw [cpN h]) (fun k _ => by rw [cpC h]) (cpE h) (by rw [cpn h]; exact Nat.le_refl _) (by rw [cpw h]; exact Nat.le_refl _)
theorem W_thr (hW : Wc t M n T L A B) : Wc (sThr t) M n T L (A + 1) (B + 6) :=
  W_gen hW (Cn.thr hW.2.1.1) (fun F o hF => rfl) rfl rfl (fun o p _ => rfl) rfl (fun k _ => rfl) rfl (by show sn t + 1 + A ≤ _; omega) (by show sw t + 6 + B ≤ _; omega)
/-- what a state notes of a throw (768) is nothing to the class -/
theorem W_768 {v : Int32} (hW : Wc t M n T L A B) : Wc t (mIw M 768 v) n T L A B := by
  obtain ⟨g1, g2, g3, g4, g5, g6⟩ := hW
  refine ⟨⟨g1.1, g1.2.1, fun q hq => ?_, g1.2.2.2⟩, ⟨g2.1, g2.2.1, g2.2.2.1, g2.2.2.2.1, g2.2.2.2.2.1, ⟨?_, g2.2.2.2.2.2.1.2⟩, g2.2.2.2.2.2.2⟩, ⟨?_, g3.2⟩, g4, g5, g6⟩
  · rw [mI_n ((by decide : ∀ q ∈ sPS, Nat.beq q.2 768 = false) q hq)]; exact g1.2.2.1 q hq
  · rw [mI_n rfl]; exact g2.2.2.2.2.2.1.1
  · rw [mI_n rfl]; exact g3.1
theorem W_mono {A' B' : Nat} (hA : A ≤ A') (hB : B ≤ B') (hW : Wc t M n T L A B) : Wc t M n T L A' B' :=
  W_gen hW hW.2.1.1 (fun _ _ _ => rfl) rfl rfl (fun _ _ _ => rfl) rfl (fun _ _ => rfl) rfl (by omega) (by omega)
/-- the reference's part, from the class's -/
theorem W_Vr (hW : Wc t M n T L A B) (h : rp t = M) : Vr t M n := ⟨h, hW.2.1.1, hW.2.2.1⟩
theorem Vr_W (h : ep t' = ep t) (hr : rp t = M0) : rp t' = M0 := (rp_ep h).trans hr
/-- an index that is one of N, or none -/
def ixo (p : Int32) (N : Nat) : Option Nat := if 0 ≤ p.toInt ∧ p.toInt < N then some p.toNatClampNeg else none
theorem ixo_s {N : Nat} (h : ixo p N = some b) : b < N ∧ p = io b := by
  unfold ixo at h
  split at h
  · rename_i g
    have e : p.toNatClampNeg = b := Option.some.inj h
    have e2 : p.toInt.toNat = b := e
    refine ⟨by omega, ?_⟩
    apply Int32.toInt_inj.mp
    have hlt := p.toInt_lt
    rw [io_int (by omega)]; omega
  · cases h
theorem ixo_n {N : Nat} (hN : N < 2 ^ 31) (h : ixo p N = none) : p < 0 ∨ ¬ p < io N := by
  unfold ixo at h
  split at h
  · cases h
  · rename_i g
    rw [Int32.lt_iff_toInt_lt, Int32.lt_iff_toInt_lt, io_int hN]
    have e : (0 : Int32).toInt = 0 := rfl
    rw [e]; omega
theorem ixo_in {N : Nat} (hN : N < 2 ^ 31) (hb : b < N) : ixo (io b) N = some b := by
  unfold ixo
  rw [if_pos (by rw [io_int (by omega)]; omega)]
  exact congrArg some (nn_io (by omega))
theorem io_ltN {N : Nat} (hN : N < 2 ^ 31) (hb : b < N) : io b < io N := by
  rw [Int32.lt_iff_toInt_lt, io_int hN, io_int (by omega)]; omega
end S88
