/-! uncross: the calls -/
section S99w
variable {t t' t0 : sT} {M M' M0 N Y Z R : sM} {n T A B b c m o k K w v e q j i d : Nat} {p a h u g p0 p1 : Int32} {s z : Bool} {L L' l : List Nat} {r r0 : Option Nat} {P P' : Nat → Bool} {y1 y2 y3 y4 : sV} {Q : sRs → sT → Prop}
def du (M : sM) (n : Nat) (Z : sM) : Nat := 2 * (dnN Z n - dnN M n)
noncomputable def d86 (M : sM) (n : Nat) (p0 : Int32) : Nat := match ixo p0 5 with
  | none => 0
  | some b => du M n (unZ (nqF (m0 M)) n b)
theorem rc_nq : rcN (nqF (m0 M)) n = rcN M n := by
  unfold rcN
  rw [nq_A (by decide)]; rfl
theorem dn_nq : dnN (nqF (m0 M)) n = dnN M n := by
  unfold dnN
  rw [nq_A (by decide)]; rfl
theorem un_K (hK : Kv Y n) (hT : mI (unZ Y n b) 801 = io T) (hT4 : T < 4096) : Kv (poF (unG (unS (unZ Y n b) n b) n b K p) n) n := by
  obtain ⟨f1, f2⟩ := un_facts (b := b) hK
  exact Kv_po (unG_K (Kv_un hK f1 f2 hT hT4))
theorem C86 (hW : Wc t M n T L A B) (hK : Kv M n) (hT : T + 2 * rcN M n < 4094) (q : Kc t T A B (d86 M n p0) [0, 2] (sp86 M n p0) Q) : X 86 0 [.inr (.inr (11, (some 0))), .inl p0, sJk, sJk] [] t Q := by
  unfold sp86 d86 at q
  cases e0 : ixo p0 5 with
  | none =>
    simp only [e0] at q
    exact n86_x0 hW e0 (q _ T L (W_er hW) ep_thr Tm)
  | some b =>
    obtain ⟨hb, rfl⟩ := ixo_s e0
    simp only [e0] at q
    have go : Kc t T A B (du M n (unZ (nqF (m0 M)) n b)) [0, 2] (ok (io (usz (nqF (m0 M)) n b)) (unR (nqF (m0 M)) n b) n) Q → X 52 0 [.inr (.inr (5, (some 0))), sJk, sJk, sJk, sJk] [] t (sK 52 86 34 [.inr (.inr (11, (some 0))), .inl (io b), .inr (.inr (1, (some b))), sJk] [] Q) := fun q => by
      refine w52 (W_ok hW) (fun t1 W1 ep1 => ?_)
      refine sK_v (pc' := 37) rfl ?_
      refine n86_1 W1 hb ?_
      have hKY : Kv (nqF (m0 M)) n := Kv_nq (Kv_m0 hK)
      have hTY : T + 2 * rcN (nqF (m0 M)) n < 4094 := by rw [rc_nq]; exact hT
      have hdn : dnN (nqF (m0 M)) n = dnN M n := dn_nq
      unfold du at q
      rw [← hdn] at q
      generalize nqF (m0 M) = Y at *
      refine w4 W1 hKY hb hTY (fun t2 T2 W2 hT2 ep2 => ?_)
      refine sK_i (pc' := 45) rfl ?_
      refine n86_2 W2 hb ?_
      obtain ⟨f1, f2⟩ := un_facts (b := b) hKY
      have hKG : Kv (unG (unS (unZ Y n b) n b) n b (usz Y n b) (auF Y n b)) n := by
        refine unG_K ?_
        refine Kv_un hKY f1 f2 (T := T2) ?_ (W_T W2)
        have e : mI (unG (unS (unZ Y n b) n b) n b (usz Y n b) (auF Y n b)) 801 = mI (unZ Y n b) 801 := by
          unfold unG
          split
          · cases decide (b < 3)
            · rw [cond_false, reF_eq]; rfl
            · rw [cond_true, mI_aw, reF_eq]; rfl
          · rfl
        rw [← e]; exact W_801 W2
      unfold unR at q
      generalize unG (unS (unZ Y n b) n b) n b (usz Y n b) (auF Y n b) = G at *
      refine w141 W2 hKG.2.2.1 (fun t3 W3 ep3 => ?_)
      refine sK_v (pc' := 50) rfl ?_
      refine n86_3 W3 hb ?_
      refine c37 W3.1 W3.2.1 W3.2.2.1 ?_
      refine sK_i (pc' := 58) rfl ?_
      refine n86_4 W3 hb ?_
      refine w140_f (f := n) W3 (Kv_po hKG) (wt0_n n) (W_n W3) (fun t4 T4 L4 W4 _ _ hT4 ep4 => ?_)
      refine sK_v (pc' := 61) rfl ?_
      refine n86_5 W4 hb ?_
      exact q t4 T4 L4 W4 (ep4.trans (ep3.trans (ep2.trans ep1))) (by omega)
    refine n86 hW hb (fun g => ?_) (fun g g2 => ?_) (fun g g2 => ?_)
    · rw [if_pos (Or.inl g)] at q; exact go q
    · rw [if_neg (fun z => z.elim g g2)] at q; exact q _ T L (W_er hW) ep_thr Tm
    · rw [if_pos (Or.inr g2)] at q; exact go q
theorem dn_rc (h : Uw M0 Z n b) : dnN Z n ≤ dnN M0 n + rcN M0 n := by
  have key : ∀ N, sumN (fun k => if mA Z 19 k = 2 then 1 else 0) N ≤ sumN (fun k => if mA M0 19 k = 2 then 1 else 0) N + sumN (fun k => if mA M0 19 k = 1 then 1 else 0) N := fun N => by
    induction N with
    | zero => exact Nat.le_refl 0
    | succ N ih =>
      have e1 : ∀ f : Nat → Nat, sumN f (N + 1) = sumN f N + f N := fun f => rfl
      rw [e1, e1, e1]
      have hk : (if mA Z 19 N = 2 then 1 else 0) ≤ (if mA M0 19 N = 2 then 1 else 0) + (if mA M0 19 N = 1 then 1 else 0) := by
        rcases h.2.2.2.2.2.1 N with e | ⟨e, e2⟩
        · rw [e]; omega
        · rw [e, e2]; decide
      omega
  exact key n
/-- the reference: behind the trades -/
theorem r192_end (hV : Vr t Z n) (hb : b < 5) (hK9 : K < 2 ^ 31) (hKG : Kv (poF (unG (unS Z n b) n b K p) n) n) (q : ∀ t', Vr t' (folF n n (poF (unG (unS Z n b) n b K p) n)) n → cp t' = cp t → Q (.inl (some (.inl (io K)))) t') :
    X 192 223 [.inr (.inr (12, (some 0))), .inl (io b), .inl (bz z), .inl p, .inl (io K), .inl a, .inl (io 0), y1, y2] [] t Q := by
  have V0 : Vr t (saF Z (fun j => decide (j < 0) && rsB Z b j)) n := by
    rw [sa_no (fun k => by rw [decide_eq_false (Nat.not_lt_zero k)]; rfl)]; exact hV
  refine r192_sh hb hK9 n 0 t _ _ (by omega) V0 (fun t1 e1 e2 V1 c1 => ?_)
  have V1' : Vr t1 (unS Z n b) n := V1
  clear V1 V0
  unfold unG at q hKG
  generalize unS Z n b = S at *
  have last : ∀ G t2 (x1 x2 x3 x4 : sV), Kv (poF G n) n → Vr t2 G n → cp t2 = cp t → (∀ t', Vr t' (folF n n (poF G n)) n → cp t' = cp t → Q (.inl (some (.inl (io K)))) t') → X 177 0 [.inr (.inr (12, (some 0))), sJk, sJk, sJk] [] t2 (sK 177 192 298 [.inr (.inr (12, (some 0))), .inl (io b), .inl (bz z), .inl p, .inl (io K), x1, x2, x3, x4] [] Q) := fun G t2 x1 x2 x3 x4 hG V2 c2 q => by
    refine v177 V2 (fun t3 V3 c3 _ => ?_)
    refine sK_v (pc' := 301) rfl ?_
    refine r192_10 V3 hb hK9 ?_
    refine v178 (f := n) V3 hG (wt0_n n) (fun t4 V4 c4 => ?_)
    refine sK_v (pc' := 305) rfl ?_
    refine r192_11 V4 hb hK9 ?_
    exact q t4 V4 (c4.trans (c3.trans c2))
  have V2 : Vr (sAw t1 21 0 b 2) (mAw S 0 b 2) n := Vr_mk V1' (by rw [rp_A rfl, V1'.1]) cp_A (Fr_A rfl (Fr.refl _))
  have c2 : cp (sAw t1 21 0 b 2) = cp t := cp_A.trans c1
  refine r192_e V1' hb hK9 (fun g => ?_) (fun g => ?_)
  · rw [if_neg g] at q hKG
    exact last _ _ _ _ _ _ hKG V2 c2 q
  · rw [if_pos g] at q hKG
    refine r166 V2.1 V2.2.1 V2.2.2 hb (fun t3 h3 c3 _ => ?_)
    have V3 : Vr t3 (reF (mAw S 0 b 2) n b p) n := Vr_mk V2 h3 c3 (Fr_reF (Fr.refl _))
    refine sK_v (pc' := 285) rfl ?_
    refine r192_9 V3 hb hK9 (fun g3 => ?_) (fun g3 => ?_)
    · rw [decide_eq_false g3, cond_false] at q hKG
      exact last _ _ _ _ _ _ hKG V3 (c3.trans c2) q
    · rw [decide_eq_true g3, cond_true] at q hKG
      have V4 : Vr (sAw t3 21 2 b p) (mAw (reF (mAw S 0 b 2) n b p) 2 b p) n := Vr_mk V3 (by rw [rp_A rfl, V3.1]) cp_A (Fr_A rfl (Fr.refl _))
      exact last _ _ _ _ _ _ hKG V4 (cp_A.trans (c3.trans c2)) q
theorem R192 (hV : Vr t M n) (hK : Kv M n) (hT : mI M 801 = io T) (hT4 : T + 2 * rcN M n < 4094) (q : Kr t (sp86 M n p0) Q) : X 192 0 [.inr (.inr (12, (some 0))), .inl p0, sJk, sJk, sJk, sJk, sJk, sJk, sJk] [] t Q := by
  unfold sp86 at q
  cases e0 : ixo p0 5 with
  | none =>
    simp only [e0] at q
    exact r192_x0 hV e0 (q _ (V_er hV) (cp_I rfl))
  | some b =>
    obtain ⟨hb, rfl⟩ := ixo_s e0
    simp only [e0] at q
    have go : Kr t (ok (io (usz (nqF (m0 M)) n b)) (unR (nqF (m0 M)) n b) n) Q → X 179 0 [.inr (.inr (12, (some 0))), sJk] [] (sIw t 768 0 0) (sK 179 192 48 [.inr (.inr (12, (some 0))), .inl (io b), .inl (bz true), sJk, sJk, sJk, sJk, sJk, sJk] [] Q) := fun q => by
      have V0 : Vr (sIw t 768 0 0) (m0 M) n := V_768 hV
      refine r179 V0.1 V0.2.1 V0.2.2 (fun t1 h1 c1 _ => ?_)
      have V1 : Vr t1 (nqF (m0 M)) n := Vr_mk V0 h1 c1 (Fr_nqF (Fr.refl _))
      have c1' : cp t1 = cp t := c1.trans (cp_I rfl)
      refine sK_v (pc' := 51) rfl ?_
      have hKY : Kv (nqF (m0 M)) n := Kv_nq (Kv_m0 hK)
      have hTY : T + 2 * rcN (nqF (m0 M)) n < 4094 := by rw [rc_nq]; exact hT4
      have hT1 : mI (nqF (m0 M)) 801 = io T := hT
      clear h1 V0
      generalize nqF (m0 M) = Y at *
      refine r192_1 V1 hb ?_
      refine r191 V1.1 V1.2.1 V1.2.2 hb ?_
      refine sK_i (pc' := 56) rfl ?_
      have hI := hKY.1.1
      have hsz := usz_le (b := b) hI
      unfold unR at q
      have tail : ∀ t2 T2 (x1 x2 : sV), Vr t2 (unZ Y n b) n → mI (unZ Y n b) 801 = io T2 → T2 < 4096 → cp t2 = cp t → X 192 223 [.inr (.inr (12, (some 0))), .inl (io b), .inl (bz true), .inl (auF Y n b), .inl (io (usz Y n b)), .inl (io (usz Y n b)), .inl (io 0), x1, x2] [] t2 Q := fun t2 T2 x1 x2 V2 g1 g2 c2 => by
        refine r192_end V2 hb (by omega) (un_K hKY g1 g2) (fun t3 V3 c3 => ?_)
        exact q t3 V3.1 (c3.trans c2)
      refine r192_2 V1 hb (fun g => ?_) (fun g => ?_)
      · refine r188 (s := true) V1.1 V1.2.1 V1.2.2 hb ?_
        refine sK_i (pc' := 75) rfl ?_
        refine r192_2a V1 hb ?_
        refine r188 (s := false) V1.1 V1.2.1 V1.2.2 hb ?_
        refine sK_i (pc' := 82) rfl ?_
        rw [waF_e hI, waF_e hI]
        have h1 := waN_le (b := b) (s := true) (p := auF Y n b) hI
        have h2 := waN_le (b := b) (s := false) (p := auF Y n b) hI
        have e : usz Y n b = min (waN Y n b true (auF Y n b)) (waN Y n b false (auF Y n b)) := if_neg g
        have hrn := rcN_le (M := Y) (n := n)
        have run : X 192 90 [.inr (.inr (12, (some 0))), .inl (io b), .inl (bz true), .inl (auF Y n b), .inl (io (usz Y n b)), .inl (io 0), sJk, sJk, sJk] [] t1 Q := by
          refine r192_run hb n Y t1 T 0 (usz Y n b) _ _ _ V1 hT1 ⟨Lv1_of hKY, by rw [Nat.sub_zero]; exact e⟩ (Nat.zero_le _) hsz hrn hTY (fun t2 T2 x1 x2 g1 g2 g3 g4 => ?_)
          rw [Nat.sub_zero] at g1 g2 g3
          have hdn : dnN (unZ Y n b) n ≤ dnN Y n + rcN Y n := by
            obtain ⟨f1, f2⟩ := un_facts (b := b) hKY
            exact dn_rc f1
          exact tail t2 T2 x1 x2 g1 g2 (by
            have : uc n b (auF Y n b) n Y (usz Y n b) = unZ Y n b := rfl
            rw [this] at g3
            omega) (g4.trans c1')
        refine r192_2b V1 hb (fun g3 => ?_) (fun g3 => ?_)
        · rw [io_lt (by omega) (by omega)] at g3
          have e2 : waN Y n b false (auF Y n b) = usz Y n b := by omega
          rw [e2]; exact run
        · rw [io_lt (by omega) (by omega)] at g3
          have e2 : waN Y n b true (auF Y n b) = usz Y n b := by omega
          rw [e2]; exact run
      · have e : usz Y n b = 0 := if_pos g
        have eZ : unZ Y n b = Y := by unfold unZ; rw [e, uc_0]
        rw [eZ, e] at tail
        exact r192_h (d := 0) (K := 0) V1 hb (by decide) (by decide) (fun _ => tail t1 T _ _ V1 hT1 (by omega) c1') (fun h => absurd h (Nat.lt_irrefl 0))
    refine r192 hV hb (fun g => ?_) (fun g g2 => ?_) (fun g g2 => ?_)
    · rw [if_pos (Or.inl g)] at q; exact go q
    · rw [if_pos (Or.inr g2)] at q; exact go q
    · rw [if_neg (fun z => z.elim g g2)] at q; exact q _ (V_er hV) (cp_I rfl)
end S99w
