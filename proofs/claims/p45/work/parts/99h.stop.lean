/-! stop: the class and the reference answer alike -/
section S99h
variable {t t' t0 u : sT} {M M' M0 N Y : sM} {n T A B b c m o k x y K w v j F e f : Nat} {p a h d sz p0 p1 : Int32} {s z : Bool} {L L' l : List Nat} {r r0 : Option Nat} {y0 y1 y2 : sV} {Q : sRs → sT → Prop}
theorem W_518 {v : Int32} (hx : x < n) (hW : Wc t M n T L A B) : Wc (sIw t 518 x v) (mAw M 20 x v) n T L A B := by
  obtain ⟨g1, g2, g3, g4, ⟨⟨d, w, g5⟩, g7⟩, g6⟩ := hW
  have eI : ∀ F k, ¬ F = 518 → sI (sIw t 518 x v) F k = sI t F k := fun F k hF => if_neg (fun z => hF z.1)
  refine ⟨Rl_I rfl g1, Sf_fc (Fc_A rfl (Fc.refl M)) (sf_gen g2 (Cn.I rfl g2.1) (fun F k hF => eI F k (by omega)) rfl rfl (fun _ _ => rfl) rfl), (Fr_A rfl (Fr.refl M)).ri g3, rlC_fr g4 rfl rfl rfl rfl rfl rfl, ⟨⟨d, w, LLd_w g5 (fun _ => rfl) (fun _ => eI _ _ (by decide)) rfl rfl rfl (Nat.le_refl _) (Nat.le_refl _)⟩, fun o ho => ?_, fun k hk => g7.2 k hk⟩, g6⟩
  have e : sI (sIw t 518 x v) 518 o = sI t 518 o := if_neg (fun z => by have := z.2; omega)
  rw [e, eI 525 o (by decide)]
  exact g7.1 o ho
theorem W_522 {v : Int32} (hs : ¬ mA M 19 x = 1) (hv : ¬ v = 1) (hW : Wc t M n T L A B) : Wc (sIw t 522 x v) (mAw (mAw M 19 x v) 17 x 0) n T L A B :=
  W_np hW (Rl_st hv hW.1) (np_I rfl) (rlC_st hW.2.2.2.1 hs hv) (Fc_A rfl (Fc_A rfl (Fc.refl M)))
theorem aw_id {q : Nat} {v : Int32} (h : mA M q x = v) : mAw M q x v = M := by
  refine sM_ext (fun q' k => ?_) (fun _ _ => rfl) (fun _ => rfl)
  show (if q' = q ∧ k = x then v else mA M q' k) = mA M q' k
  by_cases e : q' = q ∧ k = x
  · rw [if_pos e, e.1, e.2, h]
  · rw [if_neg e]
/-- the halt of a stop is looked at by none of these -/
theorem s_cdL {c : Nat} {a v : Int32} : ∀ k, cdL (mAw M 20 x v) n m c s a k = cdL M n m c s a k
  | 0 => rfl
  | k + 1 => by
    show cdS (mAw M 20 x v) n m c s k (cdL (mAw M 20 x v) n m c s a k) = cdS M n m c s k (cdL M n m c s a k)
    rw [s_cdL k]; rfl
theorem s_cd {c : Nat} {v : Int32} : cdF (mAw M 20 x v) n m c s = cdF M n m c s := s_cdL n
theorem s_nm {v : Int32} : nmF (mAw M 20 x v) n m = nmF M n m := by
  have e1 : ndF (mAw M 20 x v) n m = ndF M n m := by
    unfold ndF
    simp only [s_cd]
    rfl
  unfold nmF
  rw [e1]; rfl
noncomputable def stpY (Y : sM) (n m : Nat) (h : Int32) : Rs4 := bif nmF Y (n + 1) m then ok (-1) (mIw (mAw Y 20 n h) 786 (io n)) n else ok (io n) (mAw Y 20 n h) (n + 1)
noncomputable def sp96 (M : sM) (n : Nat) (p0 p1 : Int32) (s : Bool) (p a h : Int32) : Rs4 := match ixo p0 6 with
  | none => er M n 1
  | some m => match ixo p1 5 with
    | none => er M n 1
    | some b => bif okS b p a h then (bif stO M n m b then stpY (layM (m0 M) n m b s p a a) n m h else er M n 3) else er M n 2
theorem Ag_20 {v : Int32} (h : Ag M (mIw Y 786 (io n)) n) : Ag M (mIw (mAw Y 20 n v) 786 (io n)) n := by
  refine ⟨fun q k hq => ?_, h.2.1, h.2.2⟩
  have e : mA (mIw (mAw Y 20 n v) 786 (io n)) q k = mA (mIw Y 786 (io n)) q k := if_neg (fun g => by have := g.1; have := g.2; omega)
  rw [e]; exact h.1 q k hq
theorem C96 (hz : Zr t) (hW : Wc t M n T L A B) (hK : Kv M n) (hP : Pv M) (q : Kc t T A B 0 [0, 1, 2] (sp96 M n p0 p1 s p a h) Q) :
    X 96 0 [.inr (.inr (11, (some 0))), .inl p0, .inl p1, .inl (bz s), .inl p, .inl a, .inl h, sJk, sJk, sJk] [] t Q := by
  unfold sp96 at q
  cases e0 : ixo p0 6 with
  | none =>
    simp only [e0] at q
    exact n96_x0 hW e0 (q _ T L (W_er hW) ep_thr Tm)
  | some m =>
    obtain ⟨hm, rfl⟩ := ixo_s e0
    simp only [e0] at q
    cases e1 : ixo p1 5 with
    | none =>
      simp only [e1] at q
      exact n96_x1 hW hm e1 (q _ T L (W_er hW) ep_thr Tm)
    | some b =>
      obtain ⟨hb, rfl⟩ := ixo_s e1
      simp only [e1] at q
      refine n96q hW hm hb (fun h1 => ?_) (fun h1 h2 => ?_) (fun h1 h2 => ?_)
      · rw [h1] at q; exact q _ T L (W_er hW) ep_thr Tm
      · rw [h1, h2] at q; exact q _ T L (W_er hW) ep_thr Tm
      · rw [h1, h2] at q
        have hn : n < 200 := by unfold stO at h2; simp at h2; exact h2.2.2
        have ho := h1
        unfold okS at ho
        simp only [Bool.and_eq_true] at ho
        obtain ⟨ho1, ho2, ho3⟩ := ho
        obtain ⟨hX, h19, hB5, hlf, hag, hnm⟩ := lay_facts (s := s) hK hP hn hm hb ho2 (inB_100 ho2) ho1
        have h17 : mA (layM (m0 M) n m b s p a a) 17 n = 0 := lay_17
        refine w138 hz hW hm hb (fun u1 W1 ep1 => ?_)
        refine sK_i (pc' := 70) rfl ?_
        unfold stpY at q
        rw [hnm] at q
        refine n96_138 W1 hm hb (fun hz1 => ?_) (fun hz1 => ?_)
        · rw [hz1] at q
          refine w27 (M := m0 M) (W_768 (v := 0) W1) hm hb hn (fun u2 W2 ep2 => ?_)
          refine sK_i (pc' := 91) rfl ?_
          refine n96_27 W2 hm hb (Nat.lt_succ_self n) ?_
          unfold la4 at W2
          clear hnm hag
          generalize layM (m0 M) n m b s p a a = Y at *
          have W3 := W_518 (v := h) (Nat.lt_succ_self n) W2
          have W4 := W_522 (x := n) (v := 0) (by rw [aw_f (by decide), aw_s]; decide) (by decide) W3
          have e : mAw (mAw (mAw (mAw Y 19 n 4) 20 n h) 19 n 0) 17 n 0 = mAw Y 20 n h := by
            rw [mAw_comm (A := 19) (B := 20) (by decide), mAw_over, mAw_comm (A := 20) (B := 19) (by decide), aw_id h19]
            have e17 : mA (mAw Y 20 n h) 17 n = 0 := by rw [aw_q (by decide)]; exact h17
            exact aw_id e17
          exact q _ T L (W_mono (by omega) (by omega) (W_eq e W4)) ((ep_I rfl).trans ((ep_I rfl).trans (ep2.trans ep1))) Tm
        · rw [hz1] at q
          exact q u1 T L (W_mono (by omega) (by omega) (W_ag (W_768 (v := 0) W1) (Ag_20 hag))) ep1 Tm
end S99h
