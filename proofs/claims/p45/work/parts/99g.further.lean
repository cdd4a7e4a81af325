/-! deposit, need, margin, cancel, bust, bid, bestByAll, way, wayPrice, trade, positionByTrades: the class and the reference answer alike -/
section S99g
variable {t t' t0 u : sT} {M M' M0 N : sM} {n T A B b c m o k x y K w v j F e f : Nat} {p a h d sz p0 p1 : Int32} {s z : Bool} {L L' l : List Nat} {r r0 : Option Nat} {y0 y1 y2 : sV} {Q : sRs → sT → Prop}
/-- deposit -/
def sp89 (M : sM) (n : Nat) (p0 p : Int32) : Rs4 := match ixo p0 6 with
  | none => er M n 1
  | some m => if p < -1000000 then er M n 2 else if 1000000 < p then er M n 2 else if mB M 2 m = true then er M n 3 else if mA M 4 m + p < 0 then er M n 3 else if 100000000 < mA M 4 m + p then er M n 3 else if p < 0 ∧ fdF M n m + p < ndF M n m then er M n 3 else ok (mA M 4 m + p) (mAw (m0 M) 4 m (mA M 4 m + p)) n
theorem W_450 {v : Int32} (hW : Wc t M n T L A B) : Wc (sIw t 450 x v) (mAw M 4 x v) n T L A B := W_np hW (Rl_I rfl hW.1) (np_I rfl) (rlC_fr hW.2.2.2.1 rfl rfl rfl rfl rfl rfl) (Fc_A rfl (Fc.refl M))
theorem C89 (hz : Zr t) (hW : Wc t M n T L A B) (hK : Kv M n) (hP : Pv M) (q : Kc t T A B 0 [0, 1, 2] (sp89 M n p0 p) Q) : X 89 0 [.inr (.inr (11, (some 0))), .inl p0, .inl p, sJk, sJk] [] t Q := by
  unfold sp89 at q
  cases e0 : ixo p0 6 with
  | none =>
    simp only [e0] at q
    exact n89_x0 hW e0 (q _ T L (W_er hW) ep_thr Tm)
  | some m =>
    obtain ⟨hm, rfl⟩ := ixo_s e0
    simp only [e0] at q
    refine n89 hW hm (fun h0 => ?_) (fun h0 h1 h2 => ?_) (fun h0 h1 h2 h3 => ?_) (fun h0 h1 h2 h3 h4 => ?_) (fun h0 h1 h2 h3 h4 h5 => ?_) (fun h0 h1 h2 h3 h4 h5 => ?_) (fun h0 h1 => ?_)
    · rw [if_pos h0] at q; exact q _ T L (W_er hW) ep_thr Tm
    · rw [if_neg h0, if_neg h1, if_pos h2] at q; exact q _ T L (W_er hW) ep_thr Tm
    · rw [if_neg h0, if_neg h1, if_neg (zf h2), if_pos h3] at q; exact q _ T L (W_er hW) ep_thr Tm
    · rw [if_neg h0, if_neg h1, if_neg (zf h2), if_neg h3, if_pos h4] at q; exact q _ T L (W_er hW) ep_thr Tm
    · rw [if_neg h0, if_neg h1, if_neg (zf h2), if_neg h3, if_neg h4, if_neg (fun g => h5 g.1)] at q
      exact q _ T L (W_450 (W_ok hW)) (ep_I rfl) Tm
    · rw [if_neg h0, if_neg h1, if_neg (zf h2), if_neg h3, if_neg h4] at q
      refine w137 hz hW hm (fun u c hu => ?_)
      rw [need_e hm hP hK.1.1 hK.2.1]
      have W1 := oR_W hu hW
      refine sK_i (pc' := 58) rfl ?_
      refine n89_n W1 hm (fun h6 => ?_) (fun h6 => ?_)
      · rw [if_pos ⟨h5, h6⟩] at q
        exact q _ T L (W_768 (W_thr W1)) (ep_thr.trans (oR_ep hu)) Tm
      · rw [if_neg (fun g => h6 g.2)] at q
        exact q _ T L (W_450 (W_768 (W_mono (by omega) (by omega) W1))) ((ep_I rfl).trans (oR_ep hu)) Tm
    · rw [if_neg h0, if_pos h1] at q; exact q _ T L (W_er hW) ep_thr Tm
/-- need -/
theorem j_cdL {F : Nat} {v : Int32} {c : Nat} {a : Int32} : ∀ k, cdL (mIw M F v) n m c s a k = cdL M n m c s a k
  | 0 => rfl
  | k + 1 => by
    show cdS (mIw M F v) n m c s k (cdL (mIw M F v) n m c s a k) = cdS M n m c s k (cdL M n m c s a k)
    rw [j_cdL k]; rfl
theorem j_cd {F : Nat} {v : Int32} {c : Nat} : cdF (mIw M F v) n m c s = cdF M n m c s := j_cdL n
theorem j_nd {F : Nat} {v : Int32} : ndF (mIw M F v) n m = ndF M n m := by
  unfold ndF
  simp only [j_cd]
  rfl
def sp121 (M : sM) (n : Nat) (p0 : Int32) : Rs4 := match ixo p0 6 with
  | none => er M n 1
  | some m => ok (ndF M n m) (m0 M) n
theorem C121 (hz : Zr t) (hW : Wc t M n T L A B) (hK : Kv M n) (hP : Pv M) (q : Kc t T A B 0 [0] (sp121 M n p0) Q) : X 121 0 [.inr (.inr (11, (some 0))), .inl p0] [] t Q := by
  unfold sp121 at q
  cases e0 : ixo p0 6 with
  | none =>
    simp only [e0] at q
    exact n121_x0 hW e0 (q _ T L (W_er hW) ep_thr Tm)
  | some m =>
    obtain ⟨hm, rfl⟩ := ixo_s e0
    simp only [e0] at q
    refine n121 hW hm ?_
    refine w137 hz hW hm (fun u c hu => ?_)
    rw [need_e hm hP hK.1.1 hK.2.1]
    refine sK_i (pc' := 9) rfl ?_
    exact n121_n (oR_W hu hW) hm (q u T L (W_768 (W_mono (by omega) (by omega) (oR_W hu hW))) (oR_ep hu) Tm)
/-- margin -/
theorem mx_mxc : mx a p = mxc a p := by
  unfold mx mxc
  by_cases g : a < p
  · rw [if_pos g, decide_eq_true g]; rfl
  · rw [if_neg g, decide_eq_false g]; rfl
theorem mg3 {x1 x2 x3 a1 a2 a3 : Int32} : ((0 - ((x1 + 0) * a1)) - ((x2 + 0) * a2)) - ((x3 + 0) * a3) = -(((x1 * a1) + (x2 * a2)) + (x3 * a3)) := by
  rw [Int32.add_zero, Int32.add_zero, Int32.add_zero, neg3, Int32.sub_eq_add_neg, Int32.sub_eq_add_neg, Int32.sub_eq_add_neg, Int32.zero_add]
theorem cmg_ma : cmgF M n m = maF M n m := by
  unfold cmgF maF mgF
  simp only [mx_mxc, mg3]
  rfl
def sp120 (M : sM) (n : Nat) (p0 : Int32) : Rs4 := match ixo p0 6 with
  | none => er M n 1
  | some m => ok (maF M n m) (m0 M) n
theorem C120 (hW : Wc t M n T L A B) (q : Kc t T A B 0 [0] (sp120 M n p0) Q) : X 120 0 [.inr (.inr (11, (some 0))), .inl p0] [] t Q := by
  unfold sp120 at q
  cases e0 : ixo p0 6 with
  | none =>
    simp only [e0] at q
    exact n120_x0 hW e0 (q _ T L (W_er hW) ep_thr Tm)
  | some m =>
    obtain ⟨hm, rfl⟩ := ixo_s e0
    simp only [e0] at q
    rw [← cmg_ma] at q
    exact n120 hW hm (q t T L (W_ok hW) rfl Tm)
/-- cancel -/
theorem cn_15 : mA (cnF M o) 15 k = mA M 15 k := rfl
def sp98 (M : sM) (n : Nat) (p0 : Int32) : Rs4 := match ixo p0 n with
  | none => er M n 1
  | some o => if mA M 19 o = 0 then ok (mA M 15 o) (cnF (m0 M) o) n else if mA M 19 o = 1 then ok (mA M 15 o) (cnF (m0 M) o) n else er M n 2
theorem w30c (hW : Wc t M n T L A B) (ho : o < n) (q : ∀ t', Wc t' (cnF M o) n T L A B → ep t' = ep t → Q (.inl none) t') : X 30 0 [.inr (.inr (4, (some 0))), .inr (.inr (8, (some o)))] [] t Q :=
  c30x hW.1 hW.2.1 hW.2.2.1 hW.2.2.2.1 ho (fun t' h1 h2 h3 => q t' (W_np hW h1 h2 h3 (Fc_cnF (Fc.refl M))) (ep_np h2))
theorem C98 (hW : Wc t M n T L A B) (q : Kc t T A B 0 [0, 2] (sp98 M n p0) Q) : X 98 0 [.inr (.inr (11, (some 0))), .inl p0, sJk] [] t Q := by
  unfold sp98 at q
  cases e0 : ixo p0 n with
  | none =>
    simp only [e0] at q
    exact n98_x0 hW e0 (q _ T L (W_er hW) ep_thr Tm)
  | some o =>
    obtain ⟨ho, rfl⟩ := ixo_s e0
    simp only [e0] at q
    have key : Kc t T A B 0 [0, 2] (ok (mA M 15 o) (cnF (m0 M) o) n) Q → X 30 0 [.inr (.inr (4, (some 0))), .inr (.inr (8, (some o)))] [] t (sK 30 98 18 [.inr (.inr (11, (some 0))), .inl (io o), .inr (.inr (8, (some o)))] [] Q) := fun q => by
      refine w30c (W_ok hW) ho (fun t1 W1 e1 => ?_)
      refine sK_v (pc' := 21) rfl ?_
      exact n98_n W1 ho (q t1 T L W1 e1 Tm)
    refine n98 hW ho (fun h0 => ?_) (fun h0 h1 => ?_) (fun h0 h1 => ?_)
    · rw [if_pos h0] at q; exact key q
    · rw [if_neg h0, if_neg h1] at q; exact q _ T L (W_er hW) ep_thr Tm
    · rw [if_neg h0, if_pos h1] at q; exact key q
/-- bust -/
def sp99 (M : sM) (n T : Nat) (p0 : Int32) : Rs4 := match ixo p0 T with
  | none => er M n 1
  | some o => if mB M 7 o = true then er M n 2 else if mB M 2 (tB M o) = true then er M n 2 else if mB M 2 (tS M o) = true then er M n 2 else ok (mA M 25 o) (mvF (mBw (m0 M) 7 o true) (tK M o) (tB M o) (tS M o) (mA M 24 o) (-(mA M 25 o))) n
theorem W_581 {v : Bool} (hx : x < T) (hW : Wc t M n T L A B) : Wc (sZw t 581 x v) (mBw M 7 x v) n T L A B := by
  obtain ⟨g1, g2, g3, g4, ⟨⟨d, w, g5⟩, g7⟩, g6⟩ := hW
  refine ⟨Rl_Z rfl g1, Sf_fc (Fc_B rfl (Fc.refl M)) (sf_gen g2 (Cn.Z g2.1) (fun _ _ _ => rfl) rfl rfl (fun _ _ => rfl) rfl), (Fr_B rfl (Fr.refl M)).ri g3, rlC_fr g4 rfl rfl rfl rfl rfl (funext fun k => bw_q (by decide)), ⟨⟨d, w, LLd_w g5 (fun _ => rfl) (fun _ => rfl) rfl rfl rfl (Nat.le_refl _) (Nat.le_refl _)⟩, fun o ho => ?_, fun k hk => ?_⟩, g6⟩
  · have e : ∀ F, F = 519 ∨ F = 520 ∨ F = 521 → sZ (sZw t 581 x v) F o = sZ t F o := fun F hF => by
      show (if F = 581 ∧ o = x then v else sZ t F o) = sZ t F o
      exact if_neg (fun z => by have := z.1; omega)
    rw [e 519 (by omega), e 520 (by omega), e 521 (by omega)]; exact g7.1 o ho
  · have e : sZ (sZw t 581 x v) 581 k = sZ t 581 k := by
      show (if 581 = 581 ∧ k = x then v else sZ t 581 k) = sZ t 581 k
      exact if_neg (fun z => by have := z.2; omega)
    rw [e]; exact g7.2 k hk
theorem cst_mv (h : tK M o < 3) : cstF M o a = mvF M (tK M o) (tB M o) (tS M o) (mA M 24 o) a := by
  unfold cstF mvF
  rw [decide_eq_true h]
  rfl
theorem w77 (hW : Wc t M n T L A B) (ho : o < T) (q : ∀ t', Wc t' (cstF M o a) n T L A B → ep t' = ep t → Q (.inl none) t') : X 77 0 [.inr (.inr (9, (some o))), .inl a, sJk] [] t Q := by
  refine c77 hW.1 hW.2.1 hW.2.2.1 ho (fun t' h1 h2 h3 => q t' (W_np hW h1 h2 (rlC_fr hW.2.2.2.1 h3 ?_ ?_ ?_ ?_ ?_) (Fc_cstF (Fc.refl M))) (ep_np h2))
  all_goals (unfold cstF; cases decide (tK M o < 3) <;> rfl)
theorem C99 (hW : Wc t M n T L A B) (q : Kc t T A B 0 [0, 2] (sp99 M n T p0) Q) : X 99 0 [.inr (.inr (11, (some 0))), .inl p0, sJk] [] t Q := by
  unfold sp99 at q
  cases e0 : ixo p0 T with
  | none =>
    simp only [e0] at q
    exact n99_x0 hW e0 (q _ T L (W_er hW) ep_thr Tm)
  | some o =>
    obtain ⟨ho, rfl⟩ := ixo_s e0
    simp only [e0] at q
    refine n99 hW ho (fun h0 => ?_) (fun h0 h1 => ?_) (fun h0 h1 h2 => ?_) (fun h0 h1 h2 => ?_)
    · rw [if_pos h0] at q; exact q _ T L (W_er hW) ep_thr Tm
    · rw [if_neg (zf h0), if_pos h1] at q; exact q _ T L (W_er hW) ep_thr Tm
    · rw [if_neg (zf h0), if_neg (zf h1), if_pos h2] at q; exact q _ T L (W_er hW) ep_thr Tm
    · rw [if_neg (zf h0), if_neg (zf h1), if_neg (zf h2)] at q
      have W1 := W_581 (v := true) ho (W_ok hW)
      refine w77 W1 ho (fun t1 W2 e1 => ?_)
      refine sK_v (pc' := 55) rfl ?_
      have h3 : tK (mBw (m0 M) 7 o true) o < 3 := tKl hW.2.1 ho
      rw [cst_mv h3] at W2
      exact n99_n W2 ho (q t1 T L W2 (e1.trans rfl) Tm)
/-- bid -/
def sp100 (M : sM) (n : Nat) (p0 p : Int32) : Rs4 := match ixo p0 6 with
  | none => er M n 1
  | some m => if p < -1000000 then er M n 2 else if 1000000 < p then er M n 2 else if mB M 2 m = true then er M n 3 else ok (cctF (mBw (mAw (m0 M) 9 m p) 1 m true) n) (mBw (mAw (m0 M) 9 m p) 1 m true) n
theorem C100 (hW : Wc t M n T L A B) (q : Kc t T A B 0 [0, 1, 2] (sp100 M n p0 p) Q) : X 100 0 [.inr (.inr (11, (some 0))), .inl p0, .inl p, sJk] [] t Q := by
  unfold sp100 at q
  cases e0 : ixo p0 6 with
  | none =>
    simp only [e0] at q
    exact n100_x0 hW e0 (q _ T L (W_er hW) ep_thr Tm)
  | some m =>
    obtain ⟨hm, rfl⟩ := ixo_s e0
    simp only [e0] at q
    refine n100 hW hm (fun h0 => ?_) (fun h0 h1 h2 => ?_) (fun h0 h1 h2 => ?_) (fun h0 h1 => ?_)
    · rw [if_pos h0] at q; exact q _ T L (W_er hW) ep_thr Tm
    · rw [if_neg h0, if_neg h1, if_pos h2] at q; exact q _ T L (W_er hW) ep_thr Tm
    · rw [if_neg h0, if_neg h1, if_neg (zf h2)] at q
      have W1 : Wc (sZw t 457 m true) (mBw (m0 M) 1 m true) n T L (A + 2) (B + 12) := W_np (W_ok hW) (Rl_Z rfl (W_ok hW).1) (np_Z rfl) (rlC_fr (W_ok hW).2.2.2.1 rfl rfl rfl rfl rfl rfl) (Fc_B rfl (Fc.refl _))
      have W2 : Wc (sIw (sZw t 457 m true) 456 m p) (mAw (mBw (m0 M) 1 m true) 9 m p) n T L (A + 2) (B + 12) := W_np W1 (Rl_I rfl W1.1) (np_I rfl) (rlC_fr W1.2.2.2.1 rfl rfl rfl rfl rfl rfl) (Fc_A rfl (Fc.refl _))
      rw [aw_bw] at W2
      refine c53 W2.1 W2.2.1 W2.2.2.1 ?_
      refine sK_i (pc' := 46) rfl ?_
      exact n100_n W2 hm (q _ T L W2 (ep_I rfl) Tm)
    · rw [if_neg h0, if_pos h1] at q; exact q _ T L (W_er hW) ep_thr Tm
/-- bestByAll -/
theorem xs_e {x s : Bool} (g : (x ^^ s) = false) : s = x := by cases x <;> cases s <;> first | rfl | cases g
theorem w38_run (hW : Wc t M n T L A B) (hb : b < 5) (q : Q (.inl (some (.inr (.inr (8, bsF M n b s))))) t) : ∀ (d k : Nat) (g : Option Nat) (y0 y1 : sV), k + d = n → bsL M n b s none k = g →
    X 38 5 [.inr (.inr (4, (some 0))), .inr (.inr (1, (some b))), .inl (bz s), .inr (.inr (8, g)), .inl (io k), y0, y1] [] t Q := by
  intro d
  induction d with
  | zero =>
    intro k g y0 y1 hk hg
    rw [Nat.add_zero] at hk
    subst hk
    refine n38_en hW hb ?_
    rw [← hg]; exact q
  | succ d ih =>
    intro k g y0 y1 hk hg
    have hkn : k < n := by omega
    have e : bsL M n b s none (k + 1) = (bif isr M b s k then (bif (bsL M n b s none k).isNone then (some k) else (bif btB M k (ovD (bsL M n b s none k)) then (some k) else (bsL M n b s none k))) else (bsL M n b s none k)) := rfl
    rw [hg] at e
    cases g with
    | none =>
      refine n38_n hW hb hkn (fun c0 => ?_) (fun c0 c1 => ?_) (fun c0 c1 c2 => ?_) (fun c0 c1 c2 => ?_)
      · exact ih (k + 1) _ _ _ (by omega) (e.trans (by simp [isr, c0]))
      · exact ih (k + 1) _ _ _ (by omega) (e.trans (by simp [isr, c0, c1]))
      · exact ih (k + 1) _ _ _ (by omega) (e.trans (by simp [isr, c0, c1, c2]))
      · exact ih (k + 1) _ _ _ (by omega) (e.trans (by simp [isr, c0, c1, c2]))
    | some f =>
      have hf : f < n := bsL_lt obd_n k (by omega) f hg
      refine n38_s hW hb hkn hf (fun c0 => ?_) (fun c0 c1 => ?_) (fun c0 c1 c2 => ?_) (fun c0 c1 c2 c3 c4 c5 => ?_) (fun c0 c1 c2 c3 c4 c5 => ?_) (fun c0 c1 c2 c3 c4 c5 => ?_) (fun c0 c1 c2 c3 c4 c5 => ?_) (fun c0 c1 c2 c3 c4 => ?_) (fun c0 c1 c2 c3 c4 => ?_)
      · exact ih (k + 1) _ _ _ (by omega) (e.trans (by simp [isr, c0]))
      · exact ih (k + 1) _ _ _ (by omega) (e.trans (by simp [isr, c0, c1]))
      · exact ih (k + 1) _ _ _ (by omega) (e.trans (by simp [isr, c0, c1, c2]))
      · exact ih (k + 1) _ _ _ (by omega) (e.trans (by simp [isr, btB, ovD, c0, c1, c2, c3, c4, c5, xs_e c2]))
      · exact ih (k + 1) _ _ _ (by omega) (e.trans (by simp [isr, btB, ovD, c0, c1, c2, c3, c4, c5, xs_e c2]))
      · exact ih (k + 1) _ _ _ (by omega) (e.trans (by simp [isr, btB, ovD, c0, c1, c2, c3, c4, c5, xs_e c2]))
      · exact ih (k + 1) _ _ _ (by omega) (e.trans (by simp [isr, btB, ovD, c0, c1, c2, c3, c4, c5, xs_e c2]))
      · exact ih (k + 1) _ _ _ (by omega) (e.trans (by simp [isr, btB, ovD, c0, c1, c2, c3, c4]))
      · exact ih (k + 1) _ _ _ (by omega) (e.trans (by simp [isr, btB, ovD, c0, c1, c2, c3, c4]))
theorem C108 (hW : Wc t M n T L A B) (q : Kc t T A B 0 [0] (sp107 M n p0 s) Q) : X 108 0 [.inr (.inr (11, (some 0))), .inl p0, .inl (bz s)] [] t Q := by
  unfold sp107 at q
  cases e0 : ixo p0 5 with
  | none =>
    simp only [e0] at q
    exact n108_x0 hW e0 (q _ T L (W_er hW) ep_thr Tm)
  | some b =>
    obtain ⟨hb, rfl⟩ := ixo_s e0
    simp only [e0] at q
    refine n108 hW hb ?_
    refine n38_0 hW hb ?_
    refine w38_run hW hb ?_ n 0 _ _ _ (by omega) rfl
    refine sK_i (pc' := 13) rfl ?_
    refine n108_n hW hb bsF_lt (fun j hj => ?_) (fun hj => ?_)
    · rw [hj] at q; exact q t T L (W_ok hW) rfl Tm
    · rw [hj] at q; exact q t T L (W_ok hW) rfl Tm
/-- way, wayPrice -/
theorem w82 (hW : Wc t M n T L A B) (hI : Iv M n) (hb : b < 5) (q : (∀ j, bwF M n b s = some j → j < 3) → Q (.inl (some (.inl (ov (bwF M n b s))))) t) : X 82 0 [.inr (.inr (10, (some 0))), .inr (.inr (1, (some b))), .inl (bz s), sJk, sJk, sJk, sJk, sJk] [] t Q := by
  refine c82 hW.1 hW.2.1 hW.2.2.1 hW.2.2.2.1 hb ?_
  rw [cbF_e (fun w hw hok => step_ne hI hb hw hok)]
  exact q
def sp109 (M : sM) (n : Nat) (p0 : Int32) (s : Bool) : Rs4 := match ixo p0 5 with
  | none => er M n 1
  | some b => ok (ov (bwF M n b s)) (m0 M) n
theorem C109 (hW : Wc t M n T L A B) (hK : Kv M n) (q : Kc t T A B 0 [0] (sp109 M n p0 s) Q) : X 109 0 [.inr (.inr (11, (some 0))), .inl p0, .inl (bz s)] [] t Q := by
  unfold sp109 at q
  cases e0 : ixo p0 5 with
  | none =>
    simp only [e0] at q
    exact n109_x0 hW e0 (q _ T L (W_er hW) ep_thr Tm)
  | some b =>
    obtain ⟨hb, rfl⟩ := ixo_s e0
    simp only [e0] at q
    refine n109 hW hb ?_
    refine w82 hW hK.1.1 hb (fun _ => ?_)
    refine sK_i (pc' := 13) rfl ?_
    exact n109_n hW hb (q t T L (W_ok hW) rfl Tm)
def wyP (M : sM) (n b : Nat) (s : Bool) : Int32 := match bwF M n b s with
  | none => -10000
  | some w => wprF M n b s w
def sp110 (M : sM) (n : Nat) (p0 : Int32) (s : Bool) : Rs4 := match ixo p0 5 with
  | none => er M n 1
  | some b => ok (wyP M n b s) (m0 M) n
theorem C110 (hW : Wc t M n T L A B) (hK : Kv M n) (q : Kc t T A B 0 [0] (sp110 M n p0 s) Q) : X 110 0 [.inr (.inr (11, (some 0))), .inl p0, .inl (bz s), sJk] [] t Q := by
  unfold sp110 at q
  cases e0 : ixo p0 5 with
  | none =>
    simp only [e0] at q
    exact n110_x0 hW e0 (q _ T L (W_er hW) ep_thr Tm)
  | some b =>
    obtain ⟨hb, rfl⟩ := ixo_s e0
    simp only [e0] at q
    refine n110 hW hb ?_
    refine w82 hW hK.1.1 hb (fun hlt => ?_)
    refine sK_i (pc' := 20) rfl ?_
    refine n110_n hW hb ?_
    unfold wyP at q
    cases hw : bwF M n b s with
    | none =>
      rw [hw] at q
      refine w81m hW hb ?_
      refine sK_i (pc' := 24) rfl ?_
      exact n110_p hW hb (q t T L (W_ok hW) rfl Tm)
    | some w =>
      rw [hw] at q
      refine c81_g hW.1 hW.2.1 hW.2.2.1 hW.2.2.2.1 hb (hlt w hw) ?_
      rw [(bwF_ok hw).2]
      refine sK_i (pc' := 24) rfl ?_
      exact n110_p hW hb (q t T L (W_ok hW) rfl Tm)
/-- trade -/
def tfg (M : sM) (o : Nat) (p : Int32) : Int32 := if p = 0 then mA M 21 o else if p = 1 then mA M 22 o else if p = 2 then mA M 23 o else if p = 3 then mA M 24 o else if p = 4 then mA M 25 o else bz (mB M 7 o)
def sp115 (M : sM) (n T : Nat) (p0 p : Int32) : Rs4 := match ixo p0 T with
  | none => er M n 1
  | some o => if p < 0 then er M n 2 else if 5 < p then er M n 2 else ok (tfg M o p) (m0 M) n
theorem i5_cases (h0 : ¬ p < 0) (h5 : ¬ 5 < p) : p = 0 ∨ p = 1 ∨ p = 2 ∨ p = 3 ∨ p = 4 ∨ p = 5 := by
  rw [Int32.lt_iff_toInt_lt] at h0 h5
  have e0 : (0 : Int32).toInt = 0 := rfl
  have e1 : (1 : Int32).toInt = 1 := rfl
  have e2 : (2 : Int32).toInt = 2 := rfl
  have e3 : (3 : Int32).toInt = 3 := rfl
  have e4 : (4 : Int32).toInt = 4 := rfl
  have e5 : (5 : Int32).toInt = 5 := rfl
  have g : p.toInt = 0 ∨ p.toInt = 1 ∨ p.toInt = 2 ∨ p.toInt = 3 ∨ p.toInt = 4 ∨ p.toInt = 5 := by omega
  rcases g with g | g | g | g | g | g
  · exact Or.inl (Int32.toInt_inj.mp (g.trans e0.symm))
  · exact Or.inr (Or.inl (Int32.toInt_inj.mp (g.trans e1.symm)))
  · exact Or.inr (Or.inr (Or.inl (Int32.toInt_inj.mp (g.trans e2.symm))))
  · exact Or.inr (Or.inr (Or.inr (Or.inl (Int32.toInt_inj.mp (g.trans e3.symm)))))
  · exact Or.inr (Or.inr (Or.inr (Or.inr (Or.inl (Int32.toInt_inj.mp (g.trans e4.symm))))))
  · exact Or.inr (Or.inr (Or.inr (Or.inr (Or.inr (Int32.toInt_inj.mp (g.trans e5.symm))))))
theorem C115 (hW : Wc t M n T L A B) (q : Kc t T A B 0 [0, 1] (sp115 M n T p0 p) Q) : X 115 0 [.inr (.inr (11, (some 0))), .inl p0, .inl p, sJk] [] t Q := by
  unfold sp115 at q
  cases e0 : ixo p0 T with
  | none =>
    simp only [e0] at q
    exact n115_x0 hW e0 (q _ T L (W_er hW) ep_thr Tm)
  | some o =>
    obtain ⟨ho, rfl⟩ := ixo_s e0
    simp only [e0] at q
    refine n115 hW ho (fun h0 => ?_) (fun h0 h1 => ?_) (fun h0 h1 => ?_)
    · rw [if_pos h0] at q; exact q _ T L (W_er hW) ep_thr Tm
    · rw [if_neg h0, if_neg h1] at q
      have q9 := q t T L (W_ok hW) rfl Tm
      obtain ⟨t1, t2, t3, t4⟩ := hW.2.1.2.2.2.2.2.1.2.2 o ho
      rcases i5_cases h0 h1 with e | e | e | e | e | e <;> subst e
      · refine n115_0 hW ho ?_
        rw [← t1.1]; exact q9
      · refine n115_1 hW ho ?_
        rw [← t2.1]; exact q9
      · refine n115_2 hW ho ?_
        rw [← t3]; exact q9
      · exact n115_3 hW ho q9
      · exact n115_4 hW ho q9
      · have q8 : Q (.inl (some (.inl (bz (mB M 7 o))))) t := q9
        refine n115_5 hW ho (fun g => ?_) (fun g => ?_)
        · rw [g] at q8; exact q8
        · rw [g] at q8; exact q8
    · rw [if_neg h0, if_pos h1] at q; exact q _ T L (W_er hW) ep_thr Tm
/-- positionByTrades -/
theorem cq_rq : ∀ k, cqL M n m c a k = rqL M n m c a k
  | 0 => rfl
  | k + 1 => by
    show cqS M n m c k (cqL M n m c a k) = rqS M n m c k (rqL M n m c a k)
    rw [cq_rq k]
    unfold cqS rqS
    generalize rqL M n m c a k = g
    cases decide (tK M k = c) <;> cases mB M 7 k <;> cases decide (tB M k = m) <;> cases decide (tS M k = m) <;> simp [Int32.sub_eq_add_neg, Int32.add_assoc, Int32.add_right_neg]
theorem j_rq {F : Nat} {v : Int32} : ∀ k, rqL (mIw M F v) n m c a k = rqL M n m c a k
  | 0 => rfl
  | k + 1 => by
    show rqS (mIw M F v) n m c k (rqL (mIw M F v) n m c a k) = rqS M n m c k (rqL M n m c a k)
    rw [j_rq k]; rfl
def sp117 (M : sM) (n T : Nat) (p0 p1 : Int32) : Rs4 := match ixo p0 6 with
  | none => er M n 1
  | some m => match ixo p1 3 with
    | none => er M n 1
    | some c => ok (rqL M n m c 0 T) (m0 M) n
theorem C117 (hW : Wc t M n T L A B) (q : Kc t T A B 0 [0] (sp117 M n T p0 p1) Q) : X 117 0 [.inr (.inr (11, (some 0))), .inl p0, .inl p1, sJk] [] t Q := by
  unfold sp117 at q
  cases e0 : ixo p0 6 with
  | none =>
    simp only [e0] at q
    exact n117_x0 hW e0 (q _ T L (W_er hW) ep_thr Tm)
  | some m =>
    obtain ⟨hm, rfl⟩ := ixo_s e0
    simp only [e0] at q
    cases e1 : ixo p1 3 with
    | none =>
      simp only [e1] at q
      exact n117_x1 hW hm e1 (q _ T L (W_er hW) ep_thr Tm)
    | some c =>
      obtain ⟨hc, rfl⟩ := ixo_s e1
      simp only [e1] at q
      refine n117 hW hm hc ?_
      refine n48_0 hW hm hc ?_
      refine c48_5 (a := 0) hW.1 hW.2.1 hW.2.2.1 hm hc (fun e0 => ?_)
      refine n48_e hW hm hc ?_
      refine sK_i (pc' := 19) rfl ?_
      rw [cq_rq]
      exact n117_n hW hm hc (q t T L (W_ok hW) rfl Tm)
end S99g
