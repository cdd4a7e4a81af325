/-! order and now: the class and the reference answer alike -/
section S99e
variable {t t' t0 u : sT} {M M' M0 N Y : sM} {n T A B b c m o k x y K w v j F e f : Nat} {p a h d sz : Int32} {s z : Bool} {L L' l : List Nat} {r r0 : Option Nat} {y0 y1 y2 : sV} {p0 p1 : Int32} {Q : sRs → sT → Prop}
theorem inB_io {lo hi : Nat} (h1 : lo < 2 ^ 31) (h2 : hi < 2 ^ 31) (h : inB a (io lo) (io hi) = true) : ∃ e, a = io e ∧ lo ≤ e ∧ e ≤ hi := by
  unfold inB at h
  simp only [Bool.and_eq_true, Bool.not_eq_true', decide_eq_false_iff_not] at h
  rw [Int32.lt_iff_toInt_lt, Int32.lt_iff_toInt_lt, io_int h1, io_int h2] at h
  refine ⟨a.toInt.toNat, ?_, by omega, by omega⟩
  apply Int32.toInt_inj.mp
  rw [io_int (by omega)]; omega
theorem inB_100 (h : inB a 1 100 = true) : ∃ e, a = io e ∧ 1 ≤ e ∧ e ≤ 100 := inB_io (lo := 1) (hi := 100) (by decide) (by decide) h
theorem prB_1000 (h : prB b p = true) : -1000 ≤ p.toInt ∧ p.toInt ≤ 1000 := by
  unfold prB inB at h
  have e1 : (1 : Int32).toInt = 1 := rfl
  have e2 : (999 : Int32).toInt = 999 := rfl
  have e3 : (-500 : Int32).toInt = -500 := rfl
  have e4 : (500 : Int32).toInt = 500 := rfl
  cases hb : decide (b < 3) <;> rw [hb] at h <;> simp only [cond_true, cond_false, Bool.and_eq_true, Bool.not_eq_true', decide_eq_false_iff_not] at h <;> rw [Int32.lt_iff_toInt_lt, Int32.lt_iff_toInt_lt] at h <;> omega
theorem Kv_m0 (hK : Kv M n) : Kv (m0 M) n := Kv_cg (fun _ _ _ => rfl) (fun _ _ => rfl) (jI (by decide)) (jI (by decide)) (jI (by decide)) hK
theorem Kv_nq (hK : Kv M n) : Kv (nqF M) n := Kv_cg (fun q k hq => by rw [nq_A (by omega)]) (fun _ _ => rfl) rfl rfl rfl hK
theorem Kv_5 {v : Bool} (hK : Kv M n) : Kv (mBw M 5 x v) n := Kv_cg (fun _ _ _ => rfl) (fun k _ => bw_q (by decide)) rfl rfl rfl hK
theorem Kv_4 (hK : Kv M n) (ho : o < n) (hs : mA M 19 o = 0 ∨ mA M 19 o = 4) : Kv (mAw M 19 o 4) n := by
  obtain ⟨hJ, hR, hQ, hl, hT⟩ := hK
  refine ⟨Jv_4 hJ ho hs, Ri_19 hR, fun k hk h4 h0 => ?_, fun k hk h0 => ?_, hT⟩
  · by_cases e : k = o
    · rw [e, w4_19] at h0; exact absurd h0 (by decide)
    · rw [aw_o e] at h0; exact hQ k hk h4 h0
  · by_cases e : k = o
    · rw [e, w4_19] at h0; exact absurd h0 (by decide)
    · rw [aw_o e] at h0; exact hl k hk h0
theorem wt0_n : ∀ n, wt0 M n ≤ n
  | 0 => Nat.le_refl 0
  | n + 1 => by
    have := wt0_n n
    have e : wt0 M (n + 1) = wt0 M n + (if mA M 19 n = 0 then 1 else 0) := rfl
    rw [e]
    split <;> omega
theorem w52 (hW : Wc t M n T L A B) (q : ∀ t', Wc t' (nqF M) n T L A B → ep t' = ep t → Q (.inl none) t') :
    X 52 0 [.inr (.inr (5, (some 0))), sJk, sJk, sJk, sJk] [] t Q := by
  refine c52 hW.1 hW.2.1 hW.2.2.1 (fun t' h1 h2 h3 => ?_)
  exact q t' (W_np hW h1 h2 (rlC_fr hW.2.2.2.1 h3 (nq_A (by decide)) (nq_A (by decide)) (nq_A (by decide)) (nq_A (by decide)) rfl) (Fc_cnqF (Fc.refl M))) (ep_np h2)
theorem W_517 {v : Int32} (hW : Wc t M n T L A B) : Wc (sIw t 517 x v) (mAw M 16 x v) n T L A B := by
  have g : np (sIw t 517 x v) = np t ∨ True := Or.inr trivial
  obtain ⟨g1, g2, g3, g4, g5, g6⟩ := hW
  refine ⟨Rl_I rfl g1, ?_, (Fr_A rfl (Fr.refl M)).ri g3, rlC_fr g4 rfl rfl rfl rfl rfl rfl, LL_gen g5 (fun F k hF => ?_) rfl rfl rfl rfl rfl (Nat.le_refl _) (Nat.le_refl _), g6⟩
  · exact Sf_fc (Fc_A rfl (Fc.refl M)) (sf_gen g2 (Cn.I rfl g2.1) (fun F k hF => if_neg (fun z => by rcases hF with e | e <;> rw [e] at z <;> cases z.1)) rfl rfl (fun _ _ => rfl) rfl)
  · exact if_neg (fun z => by rcases hF with e | e | e <;> rw [e] at z <;> cases z.1)
theorem W_519 {v : Bool} (hx : x < n) (hW : Wc t M n T L A B) : Wc (sZw t 519 x v) (mBw M 5 x v) n T L A B := by
  obtain ⟨g1, g2, g3, g4, ⟨⟨d, w, g5⟩, g7⟩, g6⟩ := hW
  refine ⟨Rl_Z rfl g1, Sf_fc (Fc_B rfl (Fc.refl M)) (sf_gen g2 (Cn.Z g2.1) (fun _ _ _ => rfl) rfl rfl (fun _ _ => rfl) rfl), (Fr_B rfl (Fr.refl M)).ri g3, rlC_fr g4 rfl rfl rfl rfl rfl (funext fun k => bw_q (by decide)), ⟨⟨d, w, LLd_w g5 (fun _ => rfl) (fun _ => rfl) rfl rfl rfl (Nat.le_refl _) (Nat.le_refl _)⟩, fun o ho => ?_, fun k hk => ?_⟩, g6⟩
  · have e : ∀ F, sZ (sZw t 519 x v) F o = sZ t F o := fun F => if_neg (fun z => by have := z.2; omega)
    rw [e, e, e]; exact g7.1 o ho
  · have e : sZ (sZw t 519 x v) 581 k = sZ t 581 k := by
      show (if (581 : Nat) = 519 ∧ k = x then v else sZ t 581 k) = sZ t 581 k
      exact if_neg (fun z => by cases z.1)
    rw [e]; exact g7.2 k hk
theorem W_520 {v : Bool} (hx : x < n) (hW : Wc t M n T L A B) : Wc (sZw t 520 x v) (mBw M 4 x v) n T L A B := by
  obtain ⟨g1, g2, g3, g4, ⟨⟨d, w, g5⟩, g7⟩, g6⟩ := hW
  refine ⟨Rl_Z rfl g1, Sf_fc (Fc_B rfl (Fc.refl M)) (sf_gen g2 (Cn.Z g2.1) (fun _ _ _ => rfl) rfl rfl (fun _ _ => rfl) rfl), (Fr_B rfl (Fr.refl M)).ri g3, rlC_fr g4 rfl rfl rfl rfl rfl (funext fun k => bw_q (by decide)), ⟨⟨d, w, LLd_w g5 (fun _ => rfl) (fun _ => rfl) rfl rfl rfl (Nat.le_refl _) (Nat.le_refl _)⟩, fun o ho => ?_, fun k hk => ?_⟩, g6⟩
  · have e : ∀ F, sZ (sZw t 520 x v) F o = sZ t F o := fun F => if_neg (fun z => by have := z.2; omega)
    rw [e, e, e]; exact g7.1 o ho
  · have e : sZ (sZw t 520 x v) 581 k = sZ t 581 k := by
      show (if (581 : Nat) = 520 ∧ k = x then v else sZ t 581 k) = sZ t 581 k
      exact if_neg (fun z => by cases z.1)
    rw [e]; exact g7.2 k hk
/-- what an order leads to -/
noncomputable def sndY (Y : sM) (n m : Nat) (z : Bool) : Rs4 := bif nmF Y (n + 1) m then ok (-1) (mIw Y 786 (io n)) n else ok (io n) (folF (n + 1) (n + 1) (comF (mBw (nqF Y) 5 n z) (n + 1) n)) (n + 1)
noncomputable def sndR (M : sM) (n m b : Nat) (s : Bool) (p a h : Int32) (z : Bool) : Rs4 := sndY (layM (m0 M) n m b s p a h) n m z
noncomputable def sp94 (M : sM) (n : Nat) (p0 p1 : Int32) (s : Bool) (p a h : Int32) : Rs4 := match ixo p0 6 with
  | none => er M n 1
  | some m => match ixo p1 5 with
    | none => er M n 1
    | some b => bif okO b p a h then (bif stO M n m b then sndR M n m b s p a h false else er M n 3) else er M n 2
noncomputable def sp95 (M : sM) (n : Nat) (p0 p1 : Int32) (s : Bool) (p a : Int32) : Rs4 := match ixo p0 6 with
  | none => er M n 1
  | some m => match ixo p1 5 with
    | none => er M n 1
    | some b => bif okN b p a then (bif stN' M n m b then sndR M n m b s p a a true else er M n 3) else er M n 2
theorem l4_16 : mAw (la4 M n m b s p a) 16 n h = mAw (layM M n m b s p a h) 19 n 4 := by
  unfold la4
  rw [lay_h (h := h), mAw_comm (A := 19) (B := 16) (by decide)]
theorem nq_19 {v : Int32} : nqF (mAw M 19 x v) = mAw (nqF M) 19 x v := nq_aw (by decide)
theorem lay_Kv (hK : Kv M n) (hn : n < 200) (hm : m < 6) (hb : b < 5) (ha : inB a 1 100 = true) (hh : ∃ f, h = io f ∧ 1 ≤ f ∧ f ≤ 100) (hp : prB b p = true) : Kv (layM (m0 M) n m b s p a h) (n + 1) := by
  obtain ⟨e, ha, he1, he⟩ := inB_100 ha
  obtain ⟨f, hh, hf1, hf⟩ := hh
  exact lay_K (Kv_m0 hK) hn hm hb ha he1 he hh hf1 hf (prB_1000 hp)
theorem lay_lf (ha : inB a 1 100 = true) : 1 ≤ lfN (layM M n m b s p a h) n := by
  obtain ⟨e, ha, he1, he⟩ := inB_100 ha
  unfold lfN
  rw [lay_15, ha, nn_io (by omega)]; exact he1
/-- the class: an order that is laid comes, and all that follows -/
theorem w140_new (hW : Wc t (mAw (nqF (mBw Y 5 n z)) 19 n 4) (n + 1) T L A B) (hX : Kv Y (n + 1)) (h19 : mA Y 19 n = 0) (hn : n < 200)
    (q : ∀ t' T' L', Wc t' (folF (n + 1) (n + 1) (comF (mBw (nqF Y) 5 n z) (n + 1) n)) (n + 1) T' L' A B → (T' ≤ T ∨ T' ≤ 1899) → ep t' = ep t → Q (.inl none) t') :
    X 140 0 [.inr (.inr (11, (some 0))), .inr (.inr (8, (some n))), sJk, sJk] [] t Q := by
  have hK2 : Kv (mAw (nqF (mBw Y 5 n z)) 19 n 4) (n + 1) := by
    refine Kv_4 (Kv_nq (Kv_5 hX)) (Nat.lt_succ_self n) (Or.inl ?_)
    rw [nq_A (by decide)]; exact h19
  refine w140 (f := n + 1) hW hK2 (Nat.lt_succ_self n) w4_19 (wt0_n _) (by omega) (fun t' T' L' h1 h2 h3 h4 h5 => ?_)
  rw [com_4] at h1
  exact q t' T' L' h1 h4 h5
/-- all that is needed of an order laid -/
theorem lay_facts (hK : Kv M n) (hP : Pv M) (hn : n < 200) (hm : m < 6) (hb : b < 5) (ha : inB a 1 100 = true) (hh : ∃ f, h = io f ∧ 1 ≤ f ∧ f ≤ 100) (hp : prB b p = true) :
    Kv (layM (m0 M) n m b s p a h) (n + 1) ∧ mA (layM (m0 M) n m b s p a h) 19 n = 0 ∧ mB (layM (m0 M) n m b s p a h) 5 n = false ∧ 1 ≤ lfN (layM (m0 M) n m b s p a h) n ∧ Ag (m0 M) (mIw (layM (m0 M) n m b s p a h) 786 (io n)) n ∧ nmF (layM (m0 M) n m b s p a h) (n + 1) m = decide (cfdF M n m < cndG M m (oaF (opL M m none n) b s a)) := by
  have h0 := Kv_m0 hK
  obtain ⟨e, ha2, he1, he⟩ := inB_100 ha
  refine ⟨lay_Kv hK hn hm hb ha hh hp, lay_19, lay_B5, lay_lf ha, Ag_of lay_fA lay_fB (fun F g => lay_I g) h0.2.1, ?_⟩
  rw [nm_lay h0.2.1 h0.1.1 (Pv_cg rfl rfl hP) hm hb hn ha2 he]
  have e1 : cfdF (m0 M) n m = cfdF M n m := rfl
  have e2 : opL (m0 M) m none n = opL M m none n := opL_cg (M := M) (M' := m0 M) (n := n) (fun _ _ _ => rfl) (fun _ _ _ => rfl) n (Nat.le_refl n)
  rw [e1, e2, cndG_cg (M := M) (M' := m0 M) rfl rfl]
theorem C94 (hz : Zr t) (hW : Wc t M n T L A B) (hK : Kv M n) (hP : Pv M) (q : Kc t T A B 0 [0, 1, 2] (sp94 M n p0 p1 s p a h) Q) :
    X 94 0 [.inr (.inr (11, (some 0))), .inl p0, .inl p1, .inl (bz s), .inl p, .inl a, .inl h, sJk, sJk, sJk] [] t Q := by
  unfold sp94 at q
  cases e0 : ixo p0 6 with
  | none =>
    simp only [e0] at q
    exact n94_x0 hW e0 (q _ T L (W_er hW) ep_thr Tm)
  | some m =>
    obtain ⟨hm, rfl⟩ := ixo_s e0
    simp only [e0] at q
    cases e1 : ixo p1 5 with
    | none =>
      simp only [e1] at q
      exact n94_x1 hW hm e1 (q _ T L (W_er hW) ep_thr Tm)
    | some b =>
      obtain ⟨hb, rfl⟩ := ixo_s e1
      simp only [e1] at q
      refine n94q hW hm hb (fun h1 => ?_) (fun h1 h2 => ?_) (fun h1 h2 => ?_)
      · rw [h1] at q; exact q _ T L (W_er hW) ep_thr Tm
      · rw [h1, h2] at q; exact q _ T L (W_er hW) ep_thr Tm
      · rw [h1, h2] at q
        have hn : n < 200 := by unfold stO at h2; simp at h2; exact h2.2.2
        have ho := h1
        unfold okO at ho
        simp only [Bool.and_eq_true] at ho
        obtain ⟨ho1, ho2, ho3⟩ := ho
        have hh : ∃ f, h = io f ∧ 1 ≤ f ∧ f ≤ 100 := by
          obtain ⟨e, ha, he1, he⟩ := inB_100 ho2
          rw [ha] at ho3
          obtain ⟨f, h3, h4, h5⟩ := inB_io (lo := 1) (by decide) (by omega) ho3
          exact ⟨f, h3, h4, by omega⟩
        obtain ⟨hX, h19, hB5, hlf, hag, hnm⟩ := lay_facts (s := s) hK hP hn hm hb ho2 hh ho1
        refine w138 hz hW hm hb (fun u1 W1 ep1 => ?_)
        refine sK_i (pc' := 71) rfl ?_
        unfold sndR sndY at q
        rw [hnm] at q
        refine n94_138 W1 hm hb (fun hz1 => ?_) (fun hz1 => ?_)
        · rw [hz1] at q
          refine w27 (M := m0 M) (W_768 (v := 0) W1) hm hb hn (fun u2 W2 ep2 => ?_)
          refine sK_i (pc' := 92) rfl ?_
          refine n94_27 W2 hm hb (Nat.lt_succ_self n) ?_
          have W3 := W_eq l4_16 (W_517 (x := n) (v := h) W2)
          generalize layM (m0 M) n m b s p a h = Y at *
          refine w52 W3 (fun u3 W4 ep3 => ?_)
          refine sK_v (pc' := 108) rfl ?_
          refine n94_52 W4 hm hb (Nat.lt_succ_self n) ?_
          have eN : nqF (mAw Y 19 n 4) = mAw (nqF (mBw Y 5 n false)) 19 n 4 := by
            rw [nq_19, bw_id hB5]
          rw [eN] at W4
          refine w140_new (z := false) W4 hX h19 hn (fun u4 T4 L4 W5 hT5 ep4 => ?_)
          refine sK_v (pc' := 114) rfl ?_
          refine n94_140 W5 hm hb (Nat.lt_succ_self n) ?_
          exact q u4 T4 L4 (W_mono (by omega) (by omega) W5) (ep4.trans (ep3.trans ((ep_I rfl).trans (ep2.trans ep1)))) (by omega)
        · rw [hz1] at q
          exact q u1 T L (W_mono (by omega) (by omega) (W_ag (W_768 (v := 0) W1) hag)) ep1 Tm
theorem C95 (hz : Zr t) (hW : Wc t M n T L A B) (hK : Kv M n) (hP : Pv M) (q : Kc t T A B 0 [0, 1, 2] (sp95 M n p0 p1 s p a) Q) :
    X 95 0 [.inr (.inr (11, (some 0))), .inl p0, .inl p1, .inl (bz s), .inl p, .inl a, sJk, sJk, sJk] [] t Q := by
  unfold sp95 at q
  cases e0 : ixo p0 6 with
  | none =>
    simp only [e0] at q
    exact n95_x0 hW e0 (q _ T L (W_er hW) ep_thr Tm)
  | some m =>
    obtain ⟨hm, rfl⟩ := ixo_s e0
    simp only [e0] at q
    cases e1 : ixo p1 5 with
    | none =>
      simp only [e1] at q
      exact n95_x1 hW hm e1 (q _ T L (W_er hW) ep_thr Tm)
    | some b =>
      obtain ⟨hb, rfl⟩ := ixo_s e1
      simp only [e1] at q
      refine n95q hW hm hb (fun h1 => ?_) (fun h1 h2 => ?_) (fun h1 h2 => ?_)
      · rw [h1] at q; exact q _ T L (W_er hW) ep_thr Tm
      · rw [h1, h2] at q; exact q _ T L (W_er hW) ep_thr Tm
      · rw [h1, h2] at q
        have hn : n < 200 := by unfold stN' at h2; simp at h2; exact h2.2.2
        have ho := h1
        unfold okN at ho
        simp only [Bool.and_eq_true] at ho
        obtain ⟨ho1, ho2⟩ := ho
        have hh : ∃ f, a = io f ∧ 1 ≤ f ∧ f ≤ 100 := inB_100 ho2
        obtain ⟨hX, h19, hB5, hlf, hag, hnm⟩ := lay_facts (s := s) hK hP hn hm hb ho2 hh ho1
        refine w138 hz hW hm hb (fun u1 W1 ep1 => ?_)
        refine sK_i (pc' := 64) rfl ?_
        unfold sndR sndY at q
        rw [hnm] at q
        refine n95_138 W1 hm hb (fun hz1 => ?_) (fun hz1 => ?_)
        · rw [hz1] at q
          refine w27 (M := m0 M) (W_768 (v := 0) W1) hm hb hn (fun u2 W2 ep2 => ?_)
          refine sK_i (pc' := 85) rfl ?_
          refine n95_27 W2 hm hb (Nat.lt_succ_self n) ?_
          have W3 : Wc (sZw u2 519 n true) (mBw (la4 (m0 M) n m b s p a) 5 n true) (n + 1) T L (A + 1) (B + 6) := W_519 (Nat.lt_succ_self n) W2
          unfold la4 at W3
          generalize layM (m0 M) n m b s p a a = Y at *
          rw [← aw_bw] at W3
          refine w52 W3 (fun u3 W4 ep3 => ?_)
          refine sK_v (pc' := 100) rfl ?_
          refine n95_52 W4 hm hb (Nat.lt_succ_self n) ?_
          rw [nq_19] at W4
          refine w140_new (z := true) W4 hX h19 hn (fun u4 T4 L4 W5 hT5 ep4 => ?_)
          refine sK_v (pc' := 106) rfl ?_
          refine n95_140 W5 hm hb (Nat.lt_succ_self n) ?_
          exact q u4 T4 L4 (W_mono (by omega) (by omega) W5) (ep4.trans (ep3.trans (ep2.trans ep1))) (by omega)
        · rw [hz1] at q
          exact q u1 T L (W_mono (by omega) (by omega) (W_ag (W_768 (v := 0) W1) hag)) ep1 Tm
theorem V_768 {v : Int32} (hV : Vr t M n) : Vr (sIw t 768 0 v) (mIw M 768 v) n := Vr_mk hV (V_er hV) (cp_I rfl) (Fr_I rfl (Fr.refl M))
end S99e
