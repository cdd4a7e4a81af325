/-! uncross: the class and the reference answer alike -/
section S99v
variable {t t' t0 : sT} {M M' M0 N Y Z R : sM} {n T A B b c m o k K w v e q j i d : Nat} {p a h u g p0 p1 : Int32} {s z : Bool} {L L' l : List Nat} {r r0 : Option Nat} {P P' : Nat → Bool} {Q : sRs → sT → Prop}
def usz (Y : sM) (n b : Nat) : Nat := if auF Y n b = -10000 then 0 else min (waN Y n b true (auF Y n b)) (waN Y n b false (auF Y n b))
noncomputable def unZ (Y : sM) (n b : Nat) : sM := uc n b (auF Y n b) n Y (usz Y n b)
def unS (Z : sM) (n b : Nat) : sM := saF Z (fun j => decide (j < n) && rsB Z b j)
def unG (S : sM) (n b K : Nat) (p : Int32) : sM := if 0 < K then (bif decide (b < 3) then mAw (reF (mAw S 0 b 2) n b p) 2 b p else reF (mAw S 0 b 2) n b p) else mAw S 0 b 2
noncomputable def unR (Y : sM) (n b : Nat) : sM := folF n n (poF (unG (unS (unZ Y n b) n b) n b (usz Y n b) (auF Y n b)) n)
noncomputable def sp86 (M : sM) (n : Nat) (p0 : Int32) : Rs4 := match ixo p0 5 with
  | none => er M n 1
  | some b => if mA M 0 b = 1 ∨ mA M 0 b = 3 then ok (io (usz (nqF (m0 M)) n b)) (unR (nqF (m0 M)) n b) n else er M n 2
theorem usz_le (hI : Iv Y n) : usz Y n b ≤ 20000 := by
  unfold usz
  split
  · omega
  · have := waN_le (b := b) (s := true) (p := auF Y n b) hI
    omega
theorem un_facts (hK : Kv Y n) : Uw Y (unZ Y n b) n b ∧ Lv1 (unZ Y n b) n := by
  unfold unZ usz
  by_cases g : auF Y n b = -10000
  · rw [if_pos g, uc_0]; exact ⟨Uw.refl, Lv1_of hK⟩
  · rw [if_neg g]; exact uc_w n Y _ ⟨Lv1_of hK, rfl⟩ Uw.refl
theorem unG_K (hK : Kv Z n) : Kv (unG Z n b K p) n := by
  unfold unG
  split
  · exact Kv_c (Kv_2 (Kv_re (Kv_0 hK))) (Kv_re (Kv_0 hK))
  · exact Kv_0 hK
/-- both sides of a book shown anew -/
theorem w4_sh (hW : Wc t Z n T L A B) (hb : b < 5) (q : ∀ t', Wc t' (unS Z n b) n T L A B → ep t' = ep t → X 4 56 [.inr (.inr (0, (some 0))), .inr (.inr (1, (some b))), .inl p, .inl a] [] t' Q) :
    X 4 40 [.inr (.inr (0, (some 0))), .inr (.inr (1, (some b))), .inl p, .inl a] [] t Q := by
  refine n4_4 hW hb ?_
  obtain ⟨l, h1, h2, h3⟩ := hW.2.2.2.1 b true hb
  rw [(Lk_hd h1).trans (bsF_hd h2 h3).symm] at h1
  refine n6_0 hW ?_
  have W0 : Wc t (saF Z (fun _ => false)) n T L A B := by rw [sa_no (fun _ => rfl)]; exact hW
  refine w6_run l _ _ _ _ W0 h1 (fun x hx => ⟨((h3 x).mp hx).1, ((h3 x).mp hx).2.1⟩) (fun t1 W1 e1 _ => ?_)
  refine sK_v (pc' := 48) rfl ?_
  refine n4_5 W1 hb ?_
  obtain ⟨l', h1', h2', h3'⟩ := W1.2.2.2.1 b false hb
  rw [(Lk_hd h1').trans (bsF_hd h2' h3').symm] at h1'
  have hr : ∀ (P : Nat → Bool) s x, rst (saF Z P) n b s x ↔ rst Z n b s x := fun P s x => by
    unfold rst oB
    rw [sa_f (by decide), sa_f (by decide), sa_B]
  refine n6_0 W1 ?_
  refine w6_run l' _ _ _ _ W1 h1' (fun x hx => ⟨((h3' x).mp hx).1, ((hr _ _ _).mp ((h3' x).mp hx)).2.1⟩) (fun t2 W2 e2 _ => ?_)
  refine sK_v (pc' := 56) rfl ?_
  refine q t2 ?_ (e2.trans e1)
  have e : (fun k => (false || decide (k ∈ l)) || decide (k ∈ l')) = (fun j => decide (j < n) && rsB Z b j) := funext fun k => by
    apply Bool.eq_iff_iff.mpr
    unfold rsB
    simp only [Bool.false_or, Bool.or_eq_true, decide_eq_true_eq, Bool.and_eq_true]
    rw [h3 k, (h3' k).trans (hr _ _ _)]
    constructor
    · rintro (g | g)
      · exact ⟨g.1, g.2.1, g.2.2.1⟩
      · exact ⟨g.1, g.2.1, g.2.2.1⟩
    · rintro ⟨g1, g2, g3⟩
      cases hs : mB Z 3 k with
      | true => exact Or.inl ⟨g1, g2, g3, hs⟩
      | false => exact Or.inr ⟨g1, g2, g3, hs⟩
  unfold unS
  rw [← e]; exact W2
theorem W_67 {v : Int32} (hW : Wc t M n T L A B) : Wc (sIw t 67 b v) (mAw M 0 b v) n T L A B := W_np hW (Rl_I rfl hW.1) (np_I rfl) (rlC_fr hW.2.2.2.1 rfl rfl rfl rfl rfl rfl) (Fc_A rfl (Fc.refl _))
theorem W_130 {v : Int32} (hW : Wc t M n T L A B) : Wc (sIw t 130 b v) (mAw M 2 b v) n T L A B := W_np hW (Rl_I rfl hW.1) (np_I rfl) (rlC_fr hW.2.2.2.1 rfl rfl rfl rfl rfl rfl) (Fc_A rfl (Fc.refl _))
/-- the class: behind the trades -/
theorem w4_end (hW : Wc t Z n T L A B) (hb : b < 5) (hK : K < 2 ^ 31) (q : ∀ t', Wc t' (unG Z n b K p) n T L A B → ep t' = ep t → Q (.inl (some (.inl (io K)))) t') :
    X 4 56 [.inr (.inr (0, (some 0))), .inr (.inr (1, (some b))), .inl p, .inl (io K)] [] t Q := by
  have e0 : (0 : Int32) < io K ↔ 0 < K := io_lt (p := 0) (by decide) hK
  unfold unG at q
  refine n4_6 hW hb (fun g => ?_) (fun g => ?_)
  · rw [e0] at g
    rw [if_neg g] at q
    exact q _ (W_67 hW) (ep_I rfl)
  · rw [e0] at g
    rw [if_pos g, re_a0] at q
    refine w36 hW hb (fun t1 W1 ep1 _ => ?_)
    refine sK_v (pc' := 69) rfl ?_
    rw [cr_re] at W1
    refine n4_7 W1 hb (fun h => ?_) (fun j h => ?_)
    · have hb3 := snd_n hb h
      rw [decide_eq_true hb3, cond_true, mAw_comm (A := 0) (B := 2) (by decide)] at q
      have ef : fst b = b := (snd_lt hb3).2
      rw [ef]
      exact q _ (W_67 (W_130 W1)) ((ep_I rfl).trans ((ep_I rfl).trans ep1))
    · rw [decide_eq_false (snd_s hb h), cond_false] at q
      exact q _ (W_67 W1) ((ep_I rfl).trans ep1)
/-- the class: open -/
theorem w4 (hW : Wc t Y n T L A B) (hK : Kv Y n) (hb : b < 5) (hT : T + 2 * rcN Y n < 4094) (q : ∀ t' T', Wc t' (unG (unS (unZ Y n b) n b) n b (usz Y n b) (auF Y n b)) n T' L A B → T' + 2 * dnN Y n ≤ T + 2 * dnN (unZ Y n b) n → ep t' = ep t → Q (.inl (some (.inl (io (usz Y n b))))) t') :
    X 4 0 [.inr (.inr (0, (some 0))), .inr (.inr (1, (some b))), sJk, sJk] [] t Q := by
  have hI := hK.1.1
  have hsz := usz_le (b := b) hI
  have tail : ∀ t' T', Wc t' (unZ Y n b) n T' L A B → T' + 2 * dnN Y n ≤ T + 2 * dnN (unZ Y n b) n → ep t' = ep t → X 4 40 [.inr (.inr (0, (some 0))), .inr (.inr (1, (some b))), .inl (auF Y n b), .inl (io (usz Y n b))] [] t' Q := fun t' T' g1 g2 g3 => by
    refine w4_sh g1 hb (fun t1 W1 ep1 => ?_)
    exact w4_end W1 hb (by omega) (fun t2 W2 ep2 => q t2 T' W2 g2 (ep2.trans (ep1.trans g3)))
  refine n4_0 hW hb ?_
  refine w1 hW hI hb ?_
  refine sK_i (pc' := 5) rfl ?_
  refine n4_1 hW hb (fun g => ?_) (fun g => ?_)
  · refine w3 (s := true) hW hI hb ?_
    refine sK_i (pc' := 23) rfl ?_
    refine n4_2 hW hb ?_
    refine w3 (s := false) hW hI hb ?_
    refine sK_i (pc' := 29) rfl ?_
    refine n4_3 hW hb ?_
    have e : usz Y n b = min (waN Y n b true (auF Y n b)) (waN Y n b false (auF Y n b)) := if_neg g
    have h1 := waN_le (b := b) (s := true) (p := auF Y n b) hI
    have h2 := waN_le (b := b) (s := false) (p := auF Y n b) hI
    rw [mnc_io (by omega) (by omega), Nat.min_comm, ← e]
    refine n5_0 hW hb ?_
    have hrn := rcN_le (M := Y) (n := n)
    have hn := W_n hW
    refine w5_run (v := 0) hb n Y t T (usz Y n b) _ _ _ hW ⟨Lv1_of hK, e⟩ hsz hrn (by omega) hT (fun t' T' g1 g2 g3 => ?_)
    refine sK_v (pc' := 40) rfl ?_
    exact tail t' T' g1 g2 g3
  · have e : usz Y n b = 0 := if_pos g
    have eZ : unZ Y n b = Y := by unfold unZ; rw [e, uc_0]
    rw [e, eZ] at tail
    refine n5_0 hW hb ?_
    have q1 : sK 5 4 37 [.inr (.inr (0, (some 0))), .inr (.inr (1, (some b))), .inl (auF Y n b), .inl 0] [] Q (.inl none) t := by
      refine sK_v (pc' := 40) rfl ?_
      exact tail t T hW (Nat.le_refl _) rfl
    exact n5_k (K := 0) (v := 0) hW hb (by decide) (by decide) (fun _ => q1) (fun h => absurd h (Nat.lt_irrefl 0)) (fun h => absurd h (Nat.lt_irrefl 0)) (fun h => absurd h (Nat.lt_irrefl 0))
end S99v
