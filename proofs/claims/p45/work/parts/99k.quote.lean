/-! quote: the class and the reference answer alike (printed by gen99k.py) -/
section S99k
variable {t t' t0 : sT} {M M' M0 N Y Z R F1 : sM} {n T A B b c m o k x y K w v j F e f q g : Nat} {p a h d sz u p0 p1 : Int32} {s z : Bool} {L L' l : List Nat} {r r0 : Option Nat} {y0 y1 y2 y3 y4 y5 y6 : sV} {P : Nat → Bool} {Q : sRs → sT → Prop}
theorem ltp1 {lo hi : Int32} (hlo : -1000 ≤ lo.toInt) (hhi : hi.toInt ≤ 1000) (h : ¬ p < lo) (h2 : ¬ hi < p) : u < p + 1 ↔ ¬ p < u := by
  rw [Int32.lt_iff_toInt_lt] at h h2 ⊢
  rw [Int32.lt_iff_toInt_lt, add_b (X := p.toInt) (Y := 1) rfl rfl (by omega) (by omega)]
  omega
theorem n999 (h : ¬ 500 < u) : ¬ 999 < u := by
  rw [Int32.lt_iff_toInt_lt] at h ⊢
  have e1 : (500 : Int32).toInt = 500 := rfl
  have e2 : (999 : Int32).toInt = 999 := rfl
  omega
theorem n97q (hW : Wc t M n T L A B) (hm : m < 6) (hb : b < 5)
    (k1 : okQ b p u a = false → Q (.inr 1) (sThr t))
    (k2 : okQ b p u a = true → stQ M n m b = false → Q (.inr 2) (sThr t))
    (k3 : okQ b p u a = true → stQ M n m b = true → X 139 0 [.inr (.inr (11, (some 0))), .inr (.inr (7, (some m))), .inr (.inr (1, (some b))), .inl a, sJk] [] t (sK 139 97 76 [.inr (.inr (11, (some 0))), .inl (io m), .inl (io b), .inl p, .inl u, .inl a, .inr (.inr (7, (some m))), .inr (.inr (1, (some b))), sJk, sJk] [] Q)) :
    X 97 0 [.inr (.inr (11, (some 0))), .inl (io m), .inl (io b), .inl p, .inl u, .inl a, sJk, sJk, sJk, sJk] [] t Q := by
  have hn2 := W_n hW
  refine n97 hW hm hb (by omega) ?_ ?_ ?_ ?_ ?_ ?_ ?_ ?_ ?_ ?_ ?_ ?_ ?_ ?_ ?_ ?_ ?_ ?_ ?_ ?_ ?_ ?_ ?_ ?_ ?_ ?_ ?_ ?_ ?_ ?_ ?_ ?_ ?_
  · intro c0 c1; exact k1 (by simp [okQ, stQ, prB, inB, snd_n hb c0, c1])
  · intro c0 c1 c2 c3 c4; exact k1 (by simp [okQ, stQ, prB, inB, snd_n hb c0, c1, c2, snd_n hb c3, c4])
  · intro c0 c1 c2 c3 c4 c5 c6; exact k1 (by simp [okQ, stQ, prB, inB, snd_n hb c0, c1, c2, snd_n hb c3, c4, c5, (ltp1 (by decide) (by decide) c1 c2).mp c6])
  · intro c0 c1 c2 c3 c4 c5 c6 c7; exact k1 (by simp [okQ, stQ, prB, inB, snd_n hb c0, c1, c2, snd_n hb c3, c4, c5, Classical.not_not.mp (fun g => c6 ((ltp1 (by decide) (by decide) c1 c2).mpr g)), c7])
  · intro c0 c1 c2 c3 c4 c5 c6 c7 c8 c9; exact k2 (by simp [okQ, stQ, prB, inB, snd_n hb c0, c1, c2, snd_n hb c3, c4, c5, Classical.not_not.mp (fun g => c6 ((ltp1 (by decide) (by decide) c1 c2).mpr g)), c7, c8, c9]) (by simp [okQ, stQ, prB, inB, snd_n hb c0, c1, c2, snd_n hb c3, c4, c5, Classical.not_not.mp (fun g => c6 ((ltp1 (by decide) (by decide) c1 c2).mpr g)), c7, c8, c9])
  · intro c0 c1 c2 c3 c4 c5 c6 c7 c8 c9 c10; exact k2 (by simp [okQ, stQ, prB, inB, snd_n hb c0, c1, c2, snd_n hb c3, c4, c5, Classical.not_not.mp (fun g => c6 ((ltp1 (by decide) (by decide) c1 c2).mpr g)), c7, c8, c9, c10]) (by simp [okQ, stQ, prB, inB, snd_n hb c0, c1, c2, snd_n hb c3, c4, c5, Classical.not_not.mp (fun g => c6 ((ltp1 (by decide) (by decide) c1 c2).mpr g)), c7, c8, c9, c10])
  · intro c0 c1 c2 c3 c4 c5 c6 c7 c8 c9 c10 c11; exact k2 (by simp [okQ, stQ, prB, inB, snd_n hb c0, c1, c2, snd_n hb c3, c4, c5, Classical.not_not.mp (fun g => c6 ((ltp1 (by decide) (by decide) c1 c2).mpr g)), c7, c8, c9, c10, (show ¬ n ≤ 198 by omega)]) (by simp [okQ, stQ, prB, inB, snd_n hb c0, c1, c2, snd_n hb c3, c4, c5, Classical.not_not.mp (fun g => c6 ((ltp1 (by decide) (by decide) c1 c2).mpr g)), c7, c8, c9, c10, (show ¬ n ≤ 198 by omega)])
  · intro c0 c1 c2 c3 c4 c5 c6 c7 c8 c9 c10 c11; exact k3 (by simp [okQ, stQ, prB, inB, snd_n hb c0, c1, c2, snd_n hb c3, c4, c5, Classical.not_not.mp (fun g => c6 ((ltp1 (by decide) (by decide) c1 c2).mpr g)), c7, c8, c9, c10, (show n ≤ 198 by omega)]) (by simp [okQ, stQ, prB, inB, snd_n hb c0, c1, c2, snd_n hb c3, c4, c5, Classical.not_not.mp (fun g => c6 ((ltp1 (by decide) (by decide) c1 c2).mpr g)), c7, c8, c9, c10, (show n ≤ 198 by omega)])
  · intro c0 c1 c2 c3 c4 c5 c6 c7 c8; exact k1 (by simp [okQ, stQ, prB, inB, snd_n hb c0, c1, c2, snd_n hb c3, c4, c5, Classical.not_not.mp (fun g => c6 ((ltp1 (by decide) (by decide) c1 c2).mpr g)), c7, c8])
  · intro c0 c1 c2 c3 c4 c5; exact k1 (by simp [okQ, stQ, prB, inB, snd_n hb c0, c1, c2, snd_n hb c3, c4, c5])
  · intro c0 c1 c2 j1 c3 c4; rw [c0] at c3; cases c3
  · intro c0 c1 c2 j1 c3 c4 c5 c6; rw [c0] at c3; cases c3
  · intro c0 c1 c2 j1 c3 c4 c5 c6 c7 c8; rw [c0] at c3; cases c3
  · intro c0 c1 c2 j1 c3 c4 c5 c6 c7 c8 c9 c10; rw [c0] at c3; cases c3
  · intro c0 c1 c2 j1 c3 c4 c5 c6 c7 c8 c9 c10 c11; rw [c0] at c3; cases c3
  · intro c0 c1 c2 j1 c3 c4 c5 c6 c7 c8 c9 c10 c11 c12; rw [c0] at c3; cases c3
  · intro c0 c1 c2 j1 c3 c4 c5 c6 c7 c8 c9 c10 c11 c12; rw [c0] at c3; cases c3
  · intro c0 c1 c2 j1 c3 c4 c5 c6 c7 c8 c9; rw [c0] at c3; cases c3
  · intro c0 c1 c2 j1 c3 c4 c5 c6 c7; rw [c0] at c3; cases c3
  · intro c0 c1 c2 j1 c3 c4 c5; rw [c0] at c3; cases c3
  · intro c0 c1 c2; exact k1 (by simp [okQ, stQ, prB, inB, snd_n hb c0, c1, c2])
  · intro j0 c0 c1; exact k1 (by simp [okQ, stQ, prB, inB, snd_s hb c0, c1])
  · intro j0 c0 c1 c2 c3; exact k1 (by simp [okQ, stQ, prB, inB, snd_s hb c0, c1, c2, c3])
  · intro j0 c0 c1 c2 c3 c4 c5; exact k1 (by simp [okQ, stQ, prB, inB, snd_s hb c0, c1, c2, c3, c4, (ltp1 (by decide) (by decide) c1 c2).mp c5])
  · intro j0 c0 c1 c2 c3 c4 c5 c6 c7; exact k1 (by simp [okQ, stQ, prB, inB, snd_s hb c0, c1, c2, c3, c4, Classical.not_not.mp (fun g => c5 ((ltp1 (by decide) (by decide) c1 c2).mpr g)), c6, c7])
  · intro j0 c0 c1 c2 c3 c4 c5 c6 c7 c8 c9; exact k2 (by simp [okQ, stQ, prB, inB, snd_s hb c0, c1, c2, c3, c4, Classical.not_not.mp (fun g => c5 ((ltp1 (by decide) (by decide) c1 c2).mpr g)), c6, c7, c8, c9]) (by simp [okQ, stQ, prB, inB, snd_s hb c0, c1, c2, c3, c4, Classical.not_not.mp (fun g => c5 ((ltp1 (by decide) (by decide) c1 c2).mpr g)), c6, c7, c8, c9])
  · intro j0 c0 c1 c2 c3 c4 c5 c6 c7 c8 c9 c10; exact k2 (by simp [okQ, stQ, prB, inB, snd_s hb c0, c1, c2, c3, c4, Classical.not_not.mp (fun g => c5 ((ltp1 (by decide) (by decide) c1 c2).mpr g)), c6, c7, c8, c9, c10]) (by simp [okQ, stQ, prB, inB, snd_s hb c0, c1, c2, c3, c4, Classical.not_not.mp (fun g => c5 ((ltp1 (by decide) (by decide) c1 c2).mpr g)), c6, c7, c8, c9, c10])
  · intro j0 c0 c1 c2 c3 c4 c5 c6 c7 c8 c9 c10 c11; exact k2 (by simp [okQ, stQ, prB, inB, snd_s hb c0, c1, c2, c3, c4, Classical.not_not.mp (fun g => c5 ((ltp1 (by decide) (by decide) c1 c2).mpr g)), c6, c7, c8, c9, c10, (show ¬ n ≤ 198 by omega)]) (by simp [okQ, stQ, prB, inB, snd_s hb c0, c1, c2, c3, c4, Classical.not_not.mp (fun g => c5 ((ltp1 (by decide) (by decide) c1 c2).mpr g)), c6, c7, c8, c9, c10, (show ¬ n ≤ 198 by omega)])
  · intro j0 c0 c1 c2 c3 c4 c5 c6 c7 c8 c9 c10 c11; exact k3 (by simp [okQ, stQ, prB, inB, snd_s hb c0, c1, c2, c3, c4, Classical.not_not.mp (fun g => c5 ((ltp1 (by decide) (by decide) c1 c2).mpr g)), c6, c7, c8, c9, c10, (show n ≤ 198 by omega)]) (by simp [okQ, stQ, prB, inB, snd_s hb c0, c1, c2, c3, c4, Classical.not_not.mp (fun g => c5 ((ltp1 (by decide) (by decide) c1 c2).mpr g)), c6, c7, c8, c9, c10, (show n ≤ 198 by omega)])
  · intro j0 c0 c1 c2 c3 c4 c5 c6 c7 c8; exact k1 (by simp [okQ, stQ, prB, inB, snd_s hb c0, c1, c2, c3, c4, Classical.not_not.mp (fun g => c5 ((ltp1 (by decide) (by decide) c1 c2).mpr g)), c6, c7, c8])
  · intro j0 c0 c1 c2 c3 c4 c5 c6; exact absurd c6 (n999 c4)
  · intro j0 c0 c1 c2 c3 c4; exact k1 (by simp [okQ, stQ, prB, inB, snd_s hb c0, c1, c2, c3, c4])
  · intro j0 c0 c1 c2; exact k1 (by simp [okQ, stQ, prB, inB, snd_s hb c0, c1, c2])
/-- would a quote be too much -/
def qd (M : sM) (n m b : Nat) (a : Int32) : Bool := decide (cfdF M n m < cndG M m (oaF (oaF (opL M m (some b) n) b true a) b false a))
theorem w139 (hz : Zr t) (hW : Wc t M n T L A B) (hm : m < 6) (hb : b < 5) (q : ∀ u, Wc u M n T L (A + 1) (B + 6) → ep u = ep t → Q (.inl (some (.inl (bz (qd M n m b a))))) u) :
    X 139 0 [.inr (.inr (11, (some 0))), .inr (.inr (7, (some m))), .inr (.inr (1, (some b))), .inl a, sJk] [] t Q := by
  unfold qd at q
  refine n139 hW hm hb ?_
  refine w39 hz hW (fun u1 h1 => ?_)
  refine sK_i (pc' := 9) rfl ?_
  refine n139_39 (oR_W h1 hW) hm hb ?_
  refine w40 (s := true) h1 hW hb (fun u2 h2 => ?_)
  refine sK_v (pc' := 19) rfl ?_
  refine n139_40 (oR_W h2 hW) hm hb ?_
  refine w40 (s := false) h2 hW hb (fun u3 h3 => ?_)
  refine sK_v (pc' := 27) rfl ?_
  refine n139_40b (oR_W h3 hW) hm hb ?_
  refine n51 (oR_W h3 hW) hm h3.2.2.2.2.2.2.2.2.2.2.1 h3.2.2.2.2.2.2.1 ?_
  refine sK_i (pc' := 37) rfl ?_
  refine n139_51 (oR_W h3 hW) hm hb (fun h => ?_) (fun h => ?_)
  · have := q u3 (oR_W h3 hW) (oR_ep h3)
    rw [decide_eq_false h] at this; exact this
  · have := q u3 (oR_W h3 hW) (oR_ep h3)
    rw [decide_eq_true h] at this; exact this
theorem w32s (hW : Wc t M n T L A B) (hm : m < 6) (hb : b < 5) (q : ∀ t', Wc t' (wqsF M n m b) n T L A B → ep t' = ep t → Q (.inl none) t') :
    X 32 0 [.inr (.inr (4, (some 0))), .inr (.inr (7, (some m))), .inr (.inr (1, (some b))), sJk, sJk, sJk] [] t Q :=
  c32s hW.1 hW.2.1 hW.2.2.1 hW.2.2.2.1 hm hb (fun t' h1 h2 h3 => q t' (W_np hW h1 h2 h3 (Fc_wqsF (Fc.refl M))) (ep_np h2))
theorem W_10 {v : Int32} (hW : Wc t M n T L A B) : Wc t (mAw M 10 x v) n T L A B :=
  W_np hW ⟨fun q hq o ho => (hW.1.1 q hq o ho).trans (aw_q ((by decide : ∀ q ∈ sPI, ¬ q.2 = 10) q hq)).symm, hW.1.2.1, hW.1.2.2.1, hW.1.2.2.2.1, hW.1.2.2.2.2⟩ rfl (rlC_fr hW.2.2.2.1 rfl rfl rfl rfl rfl rfl) (Fc_A rfl (Fc.refl M))
def qX (Y : sM) (n m b : Nat) : sM := mAw (nqF Y) 10 ((5 * m) + b) (io n)
noncomputable def qF1 (R : sM) (n : Nat) : sM := folF (n + 2) (n + 2) (comF R (n + 2) n)
noncomputable def qF2 (R : sM) (n : Nat) : sM := folF (n + 2) (n + 2) (comF (qF1 R n) (n + 2) (n + 1))
noncomputable def qres (M : sM) (n m b : Nat) (p u a : Int32) : Rs4 := bif qd M n m b a then ok (-1) (mIw (qL (m0 M) n m b p u a) 786 (io n)) n else ok (io n) (qF2 (qR (qL (qX (wqsF (m0 M) n m b) n m b) n m b p u a) n) n) (n + 2)
noncomputable def sp97 (M : sM) (n : Nat) (p0 p1 p u a : Int32) : Rs4 := match ixo p0 6 with
  | none => er M n 1
  | some m => match ixo p1 5 with
    | none => er M n 1
    | some b => bif okQ b p u a then (bif stQ M n m b then qres M n m b p u a else er M n 3) else er M n 2
theorem Kv_X (hK : Kv Y n) : Kv (qX Y n m b) n := Kv_10 (Kv_nq hK)
theorem qR_q {q : Nat} (hq : ¬ q = 19) : mA (qR Z n) q = mA Z q := by
  unfold qR
  rw [mA_B, mA_B, aw_f hq, aw_f hq]
theorem qR_B {q : Nat} (hq : ¬ q = 4) : mB (qR Z n) q k = mB Z q k := by
  unfold qR
  rw [bw_q hq, bw_q hq, mB_aw, mB_aw]
theorem q_sell2 (hU : Ux (qR (qL Y n m b p u a) n) F1 (n + 1)) (h19 : mA F1 19 (n + 1) = 4) (hI : mI F1 786 = io (n + 2)) : mBw (la4 (mIw F1 786 (io (n + 1))) (n + 1) m b false u a) 4 (n + 1) true = F1 := by
  have g : ∀ q, 12 ≤ q → q ≤ 20 → ¬ q = 19 → mA F1 q (n + 1) = mA (qL Y n m b p u a) q (n + 1) := fun q a1 a2 a3 => by rw [hU.1 q a1 a2, qR_q a3]
  have g2 : ∀ q, 3 ≤ q → q ≤ 6 → ¬ q = 4 → mB F1 q (n + 1) = mB (qL Y n m b p u a) q (n + 1) := fun q a1 a2 a3 => by rw [hU.2 q a1 a2, qR_B a3]
  have g4 : mB F1 4 (n + 1) = true := by
    rw [hU.2 4 (by decide) (by decide)]
    unfold qR
    exact bw_s
  unfold qL at g g2
  refine q_sell ?_ ?_ ?_ ?_ ?_ ?_ ?_ h19 ?_ ?_ g4 ?_ ?_ hI
  · rw [g 12 (by decide) (by decide) (by decide)]; exact lay_12
  · rw [g 13 (by decide) (by decide) (by decide)]; exact lay_13
  · rw [g 14 (by decide) (by decide) (by decide)]; exact lay_14
  · rw [g 15 (by decide) (by decide) (by decide)]; exact lay_15
  · rw [g 16 (by decide) (by decide) (by decide)]; exact lay_16
  · rw [g 17 (by decide) (by decide) (by decide)]; exact lay_17
  · rw [g 18 (by decide) (by decide) (by decide)]; exact lay_18
  · rw [g 20 (by decide) (by decide) (by decide)]; exact lay_20
  · rw [g2 3 (by decide) (by decide) (by decide)]; exact lay_B3
  · rw [g2 5 (by decide) (by decide) (by decide)]; exact lay_B5
  · rw [g2 6 (by decide) (by decide) (by decide)]; exact lay_B6
/-- what both need of a quote that comes -/
theorem q_all (hK : Kv Y n) (hn : n ≤ 198) (hm : m < 6) (hb : b < 5) (ha : inB a 1 100 = true) (hp : prB b p = true) (hu : prB b u = true) :
    Ag (mBw (mAw (layM Y n m b true p a a) 19 n 4) 4 n true) (mIw (qR (qL Y n m b p u a) n) 786 (io (n + 1))) (n + 1) ∧
    Kv (qR (qL Y n m b p u a) n) (n + 2) ∧ Kv (mIw (qR (qL Y n m b p u a) n) 786 (io (n + 1))) (n + 1) ∧ mA (qR (qL Y n m b p u a) n) 19 n = 4 ∧ mA (qR (qL Y n m b p u a) n) 19 (n + 1) = 4 ∧ 1 ≤ lfN (qR (qL Y n m b p u a) n) n ∧ 1 ≤ lfN (qR (qL Y n m b p u a) n) (n + 1) ∧ mI (qR (qL Y n m b p u a) n) 786 = io (n + 2) := by
  obtain ⟨f1, f2, f3, f4, f5⟩ := qL_facts hK hn hm hb ha hp hu
  obtain ⟨g1, g2, g3, g4⟩ := qR_facts f1 f2 f3
  have hag : Ag (mBw (mAw (layM Y n m b true p a a) 19 n 4) 4 n true) (mIw (qR (qL Y n m b p u a) n) 786 (io (n + 1))) (n + 1) := by
    unfold qL
    exact q_ag (fun q k e => lay_eA e) (fun q k e => lay_eB e) (fun F e => lay_I e) lay_786
  have hK1 : Kv (mBw (mAw (layM Y n m b true p a a) 19 n 4) 4 n true) (n + 1) := by
    obtain ⟨e, rfl, he1, he⟩ := inB_100 ha
    have h1 : Kv (layM Y n m b true p (io e) (io e)) (n + 1) := lay_K hK (by omega) hm hb rfl he1 he rfl he1 he (prB_1000 hp)
    refine Kv_B4 (Kv_4 h1 (Nat.lt_succ_self n) (Or.inl lay_19)) ?_
    rw [w4_19]; decide
  refine ⟨hag, g1, hag.K hK1, g2, g3, ?_, ?_, g1.2.1.1⟩
  · rw [g4]; exact f4
  · rw [g4]; exact f5
theorem w_sell (hW : Wc t (mIw F1 786 (io (n + 1))) (n + 1) T L A B) (hs : mBw (la4 (mIw F1 786 (io (n + 1))) (n + 1) m b false u a) 4 (n + 1) true = F1) (hK : Kv F1 (n + 2)) (h19 : mA F1 19 (n + 1) = 4) (hn : n ≤ 198) (hm : m < 6) (hb : b < 5)
    (q : ∀ t' T' L', Wc t' (folF (n + 2) (n + 2) (comF F1 (n + 2) (n + 1))) (n + 2) T' L' A B → (T' ≤ T ∨ T' ≤ 1899) → ep t' = ep t → Q (.inl (some (.inl (io n)))) t') :
    X 27 0 [.inr (.inr (4, (some 0))), .inr (.inr (7, (some m))), .inr (.inr (1, (some b))), .inl 0, .inl u, .inl a, sJk] [] t (sK 27 97 144 [.inr (.inr (11, (some 0))), .inl (io m), .inl (io b), .inl p, .inl u, .inl a, .inr (.inr (7, (some m))), .inr (.inr (1, (some b))), .inr (.inr (8, (some n))), sJk] [] Q) := by
  refine w27 (s := false) hW hm hb (by omega) (fun u6 W9 ep6 => ?_)
  refine sK_i (pc' := 147) rfl ?_
  refine n97_27b W9 hm hb (Nat.lt_succ_of_lt (Nat.lt_succ_self n)) (Nat.lt_succ_self (n + 1)) ?_
  have W10 : Wc (sZw u6 520 (n + 1) true) (mBw (la4 (mIw F1 786 (io (n + 1))) (n + 1) m b false u a) 4 (n + 1) true) (n + 2) T L A B := W_520 (Nat.lt_succ_self (n + 1)) W9
  rw [hs] at W10
  refine w140 (f := n + 2) W10 hK (Nat.lt_succ_self (n + 1)) h19 (wt0_n _) (by omega) (fun u7 T7 L7 W11 _ _ hT7 ep7 => ?_)
  refine sK_v (pc' := 161) rfl ?_
  refine n97_140b W11 hm hb (Nat.lt_succ_of_lt (Nat.lt_succ_self n)) (Nat.lt_succ_self (n + 1)) ?_
  have E7 : ep (sZw u6 520 (n + 1) true) = ep u6 := rfl
  exact q u7 T7 L7 W11 hT7 (ep7.trans (E7.trans ep6))
theorem w_come (hW : Wc t (mIw R 786 (io (n + 1))) (n + 1) T L A B) (a2 : Kv R (n + 2)) (a3 : Kv (mIw R 786 (io (n + 1))) (n + 1)) (a4 : mA R 19 n = 4) (a5 : mA R 19 (n + 1) = 4) (a8 : mI R 786 = io (n + 2))
    (hs : ∀ F1, Ux R F1 (n + 1) → mA F1 19 (n + 1) = 4 → mI F1 786 = io (n + 2) → mBw (la4 (mIw F1 786 (io (n + 1))) (n + 1) m b false u a) 4 (n + 1) true = F1) (hn : n ≤ 198) (hm : m < 6) (hb : b < 5)
    (q : ∀ t' T' L', Wc t' (qF2 R n) (n + 2) T' L' A B → (T' ≤ T ∨ T' ≤ 1899) → ep t' = ep t → Q (.inl (some (.inl (io n)))) t') :
    X 140 0 [.inr (.inr (11, (some 0))), .inr (.inr (8, (some n))), sJk, sJk] [] t (sK 140 97 128 [.inr (.inr (11, (some 0))), .inl (io m), .inl (io b), .inl p, .inl u, .inl a, .inr (.inr (7, (some m))), .inr (.inr (1, (some b))), .inr (.inr (8, (some n))), sJk] [] Q) := by
  obtain ⟨b1, b2, b3, b4⟩ := q_half (f := n + 2) a2 a3 a4 a5
  rw [a8] at b4
  have h19 := (b2.1 19 (by decide) (by decide)).trans a5
  have hs1 := hs _ b2 h19 b4
  refine w140 (f := n + 2) hW a3 (Nat.lt_succ_self n) a4 (Nat.le_trans (wt0_n _) (Nat.le_succ _)) (by omega) (fun u5 T5 L5 W8 _ _ hT5 ep5 => ?_)
  refine sK_v (pc' := 131) rfl ?_
  rw [b1] at W8
  unfold qF2 qF1 at q
  generalize folF (n + 2) (n + 2) (comF R (n + 2) n) = F1 at *
  refine n97_140 W8 hm hb (Nat.lt_succ_self n) ?_
  exact w_sell W8 hs1 b3 h19 hn hm hb (fun t' T' L' g1 g2 g3 => q t' T' L' g1 (by omega) (g3.trans ep5))
theorem w_buy (hW : Wc t Y n T L A B) (hK : Kv Y n) (hn : n ≤ 198) (hm : m < 6) (hb : b < 5) (ha : inB a 1 100 = true) (hp : prB b p = true) (hu : prB b u = true)
    (q : ∀ t' T' L', Wc t' (qF2 (qR (qL Y n m b p u a) n) n) (n + 2) T' L' A B → (T' ≤ T ∨ T' ≤ 1899) → ep t' = ep t → Q (.inl (some (.inl (io n)))) t') :
    X 27 0 [.inr (.inr (4, (some 0))), .inr (.inr (7, (some m))), .inr (.inr (1, (some b))), .inl 1, .inl p, .inl a, sJk] [] t (sK 27 97 114 [.inr (.inr (11, (some 0))), .inl (io m), .inl (io b), .inl p, .inl u, .inl a, .inr (.inr (7, (some m))), .inr (.inr (1, (some b))), sJk, sJk] [] Q) := by
  obtain ⟨a1, a2, a3, a4, a5, a6, a7, a8⟩ := q_all (u := u) hK hn hm hb ha hp hu
  refine w27 (s := true) hW hm hb (by omega) (fun u4 W5 ep4 => ?_)
  refine sK_i (pc' := 117) rfl ?_
  refine n97_27 W5 hm hb (Nat.lt_succ_self n) ?_
  have W6 : Wc (sZw u4 520 n true) (mBw (la4 Y n m b true p a) 4 n true) (n + 1) T L A B := W_520 (Nat.lt_succ_self n) W5
  unfold la4 at W6
  have W7 := W_ag W6 a1
  have hs : ∀ F1, Ux (qR (qL Y n m b p u a) n) F1 (n + 1) → mA F1 19 (n + 1) = 4 → mI F1 786 = io (n + 2) → mBw (la4 (mIw F1 786 (io (n + 1))) (n + 1) m b false u a) 4 (n + 1) true = F1 := fun F1 g1 g2 g3 => q_sell2 g1 g2 g3
  clear a1 W6
  generalize qR (qL Y n m b p u a) n = R at *
  have E5 : ep (sZw u4 520 n true) = ep u4 := rfl
  exact w_come W7 a2 a3 a4 a5 a8 hs hn hm hb (fun t' T' L' g1 g2 g3 => q t' T' L' g1 g2 (g3.trans (E5.trans ep4)))
theorem C97 (hz : Zr t) (hW : Wc t M n T L A B) (hK : Kv M n) (hP : Pv M) (q : Kc t T A B 0 [0, 1, 2] (sp97 M n p0 p1 p u a) Q) :
    X 97 0 [.inr (.inr (11, (some 0))), .inl p0, .inl p1, .inl p, .inl u, .inl a, sJk, sJk, sJk, sJk] [] t Q := by
  unfold sp97 at q
  cases e0 : ixo p0 6 with
  | none =>
    simp only [e0] at q
    exact n97_x0 hW e0 (q _ T L (W_er hW) ep_thr Tm)
  | some m =>
    obtain ⟨hm, rfl⟩ := ixo_s e0
    simp only [e0] at q
    cases e1 : ixo p1 5 with
    | none =>
      simp only [e1] at q
      exact n97_x1 hW hm e1 (q _ T L (W_er hW) ep_thr Tm)
    | some b =>
      obtain ⟨hb, rfl⟩ := ixo_s e1
      simp only [e1] at q
      refine n97q hW hm hb (fun h1 => ?_) (fun h1 h2 => ?_) (fun h1 h2 => ?_)
      · rw [h1] at q; exact q _ T L (W_er hW) ep_thr Tm
      · rw [h1, h2] at q; exact q _ T L (W_er hW) ep_thr Tm
      · rw [h1, h2, cd_t, cd_t] at q
        have hn : n ≤ 198 := by unfold stQ at h2; simp at h2; exact h2.2.2
        have ho := h1
        unfold okQ at ho
        simp only [Bool.and_eq_true] at ho
        obtain ⟨ho1, ho2, -, ho3⟩ := ho
        refine w139 hz hW hm hb (fun u1 W1 ep1 => ?_)
        refine sK_i (pc' := 79) rfl ?_
        unfold qres at q
        refine n97_139 W1 hm hb (fun hz1 => ?_) (fun hz1 => ?_)
        · rw [hz1, cd_f] at q
          refine w32s (W_768 (v := 0) W1) hm hb (fun u2 W2 ep2 => ?_)
          refine sK_v (pc' := 95) rfl ?_
          refine n97_32 W2 hm hb ?_
          refine w52 W2 (fun u3 W3 ep3 => ?_)
          refine sK_v (pc' := 102) rfl ?_
          have W4 : Wc u3 (qX (wqsF (m0 M) n m b) n m b) n T L (A + 1) (B + 6) := W_10 W3
          have K4 : Kv (qX (wqsF (m0 M) n m b) n m b) n := Kv_X (Kv_wqs (Kv_m0 hK) n (Nat.le_refl n))
          generalize qX (wqsF (m0 M) n m b) n m b = Y at *
          refine n97_52 W4 hm hb ?_
          refine w_buy W4 K4 hn hm hb ho3 ho1 ho2 (fun t' T' L' g1 g2 g3 => ?_)
          exact q t' T' L' (W_mono (by omega) (by omega) g1) (g3.trans (ep3.trans (ep2.trans ep1))) (by omega)
        · rw [hz1, cd_t] at q
          exact q u1 T L (W_mono (by omega) (by omega) (W_ag (W_768 (v := 0) W1) (qL_ag (Kv_m0 hK).2.1))) ep1 Tm
end S99k
