/-! fail: a position passed on, a taker takes over; both sides -/
section S99za
variable {t t' t0 : sT} {M M' M0 N Y Z R : sM} {n T A B b c m o k K w v e q j i d : Nat} {p a h u g p0 p1 : Int32} {s z : Bool} {L L' l : List Nat} {r r0 : Option Nat} {y0 y1 : sV} {Q : sRs → sT → Prop}
def pon (M : sM) (T c m k : Nat) (a : Int32) : sM := mbF M T c (!(decide (0 < mA M 6 ((3 * m) + c)))) m k (mA M 1 c) a false
theorem pon_T : mI (pon M T c m k a) 801 = io (T + 1) := by
  unfold pon mbF
  exact mk_T
theorem Fr_pon : Fr (pon M T c m k a) M := by
  unfold pon mbF
  exact Fr_mkF (Fr.refl M)
/-- the class -/
theorem w18 (hW : Wc t M n T L A B) (hm : m < 6) (hk : k < 6) (hc3 : c < 3) (hT4 : T + 1 < 4096)
    (q0 : ¬ 0 < a → Q (.inl none) t) (q1 : 0 < a → ∀ t', Wc t' (pon M T c m k a) n (T + 1) L A B → ep t' = ep t → Q (.inl none) t') :
    X 18 0 [.inr (.inr (3, (some 0))), .inr (.inr (7, (some m))), .inr (.inr (7, (some k))), .inr (.inr (2, (some c))), .inl a, sJk] [] t Q := by
  refine n18 hW hm hk hc3 (fun _ h => q0 h) (fun g h => ?_) (fun _ h => q0 h) (fun g h => ?_)
  · refine w45 hW hc3 hm hk hT4 (fun t1 W1 e1 _ => ?_)
    refine sK_v (pc' := 54) rfl ?_
    refine n18_e W1 hm hk hc3 (q1 h t1 ?_ e1)
    have e : pon M T c m k a = mkF M T c m k (mA M 1 c) a false := by unfold pon mbF; rw [decide_eq_false g]; rfl
    rw [e]; exact W1
  · refine w45 hW hc3 hk hm hT4 (fun t1 W1 e1 _ => ?_)
    refine sK_v (pc' := 54) rfl ?_
    refine n18_e W1 hm hk hc3 (q1 h t1 ?_ e1)
    have e : pon M T c m k a = mkF M T c k m (mA M 1 c) a false := by unfold pon mbF; rw [decide_eq_true g]; rfl
    rw [e]; exact W1
/-- a taker takes over all positions -/
def toS (M : sM) (m k c : Nat) : sM := if 0 < ab (mA M 6 ((3 * m) + c)) then pon M (tN M) c m k (ab (mA M 6 ((3 * m) + c))) else M
def toL (M : sM) (m k : Nat) : Nat → sM
  | 0 => M
  | c + 1 => toS (toL M m k c) m k c
theorem w17_run (hm : m < 6) (hk : k < 6) : ∀ (d c : Nat) (t : sT) (T : Nat) (y0 : sV), c + d = 3 → Wc t (toL M m k c) n T L A B → T + d + 1 < 4096 →
    (∀ t' T' e0, Wc t' (toL M m k 3) n T' L A B → T' ≤ T + d → ep t' = ep t → X 17 15 [.inr (.inr (3, (some 0))), .inr (.inr (7, (some m))), .inr (.inr (7, (some k))), .inr (.inr (25, (some 0))), .inl 3, .inl 3, e0] [] t' Q) →
    X 17 15 [.inr (.inr (3, (some 0))), .inr (.inr (7, (some m))), .inr (.inr (7, (some k))), .inr (.inr (25, (some 0))), .inl 3, .inl (io c), y0] [] t Q
  | 0, c, t, T, y0, hc, hW, hT, q => by
    have e : c = 3 := by omega
    subst e
    exact q t T _ hW (Nat.le_refl _) rfl
  | d + 1, c, t, T, y0, hc, hW, hT, q => by
    have hc3 : c < 3 := by omega
    have e : toL M m k (c + 1) = toS (toL M m k c) m k c := rfl
    have ih : ∀ t' T' (x0 : sV), Wc t' (toS (toL M m k c) m k c) n T' L A B → T' ≤ T + 1 → ep t' = ep t → X 17 15 [.inr (.inr (3, (some 0))), .inr (.inr (7, (some m))), .inr (.inr (7, (some k))), .inr (.inr (25, (some 0))), .inl 3, .inl (io (c + 1)), x0] [] t' Q := fun t' T' x0 W1 h1 e1 =>
      w17_run hm hk d (c + 1) t' T' x0 (by omega) (by rw [e]; exact W1) (by omega) (fun t2 T2 e0 g1 g2 g3 => q t2 T2 e0 g1 (by omega) (g3.trans e1))
    have hTN := W_tN hW
    generalize toL M m k c = Y at *
    refine n17_k hW hm hk hc3 ?_
    unfold toS at ih
    refine w18 hW hm hk hc3 (by omega) (fun g => ?_) (fun g t1 W1 e1 => ?_)
    · rw [if_neg g] at ih
      refine sK_v (pc' := 45) rfl ?_
      exact n17_t hW hm hk hc3 (ih t T _ hW (Nat.le_succ T) rfl)
    · rw [if_pos g, hTN] at ih
      refine sK_v (pc' := 45) rfl ?_
      exact n17_t W1 hm hk hc3 (ih t1 (T + 1) _ W1 (Nat.le_refl _) e1)
theorem ab_n (h : ¬ a < 0) : ab a = a := if_pos (by rw [Int32.lt_iff_toInt_lt] at h; rw [Int32.le_iff_toInt_le]; omega)
theorem ab_m (h : a < 0) : ab a = -a := by
  rw [← ab_abc]
  unfold abc
  rw [decide_eq_true h]; rfl
end S99za
