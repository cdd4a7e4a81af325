/-! each call of the class, as the law sees it (printed by genxb.py) -/
section Sxb
variable {t t' t0 : sT} {M M' N N' : sM} {n n' T T' A A' B B' g L d e k K b m c E j : Nat} {xs pA : Nat → Int32} {c0 c1 c2 v w x y p a u : Int32} {Q : sRs → sT → Prop} {s z : Bool}
theorem q102 (h : La t M n T A B xs L pA c0 c1 c2) (hb : b < 5) (q : ∀ t', La t' M n T (A + 2) (B + 12) xs L pA c0 c1 c2 → Q (.inl (some (.inl (mA M 0 b)))) t') : X 102 0 [.inr (.inr (11, (some 0))), .inl (io b)] [] t Q :=
  La_q (r := (sp102 M n (io b))) h (fun Ls Q' hW k => C102 hW k) (by unfold sp102; rw [ixo_in (by decide) hb]) q
theorem q103 (h : La t M n T A B xs L pA c0 c1 c2)  (q : ∀ t', La t' M n T (A + 2) (B + 12) xs L pA c0 c1 c2 → Q (.inl (some (.inl (io n)))) t') : X 103 0 [.inr (.inr (11, (some 0)))] [] t Q :=
  La_q (r := (sp103 M n)) h (fun Ls Q' hW k => C103 hW k) (by unfold sp103; rfl) q
theorem q104 (h : La t M n T A B xs L pA c0 c1 c2) (hk : k < n) (q : ∀ t', La t' M n T (A + 2) (B + 12) xs L pA c0 c1 c2 → Q (.inl (some (.inl (mA M 19 k)))) t') : X 104 0 [.inr (.inr (11, (some 0))), .inl (io k)] [] t Q :=
  La_q (r := (sp104 M n (io k))) h (fun Ls Q' hW k => C104 hW k) (by unfold sp104; rw [ixo_in (by have := La_n h; omega) hk]) q
theorem q105 (h : La t M n T A B xs L pA c0 c1 c2) (hk : k < n) (q : ∀ t', La t' M n T (A + 2) (B + 12) xs L pA c0 c1 c2 → Q (.inl (some (.inl (mA M 15 k)))) t') : X 105 0 [.inr (.inr (11, (some 0))), .inl (io k)] [] t Q :=
  La_q (r := (sp105 M n (io k))) h (fun Ls Q' hW k => C105 hW k) (by unfold sp105; rw [ixo_in (by have := La_n h; omega) hk]) q
theorem q106 (h : La t M n T A B xs L pA c0 c1 c2) (hk : k < n) (q : ∀ t', La t' M n T (A + 2) (B + 12) xs L pA c0 c1 c2 → Q (.inl (some (.inl (mA M 17 k)))) t') : X 106 0 [.inr (.inr (11, (some 0))), .inl (io k), sJk] [] t Q :=
  La_q (r := (sp106 M n (io k))) h (fun Ls Q' hW k => C106 hW k) (by unfold sp106; rw [ixo_in (by have := La_n h; omega) hk]) q
theorem q107 (h : La t M n T A B xs L pA c0 c1 c2) (hb : b < 5) (q : ∀ t', La t' M n T (A + 2) (B + 12) xs L pA c0 c1 c2 → Q (.inl (some (.inl (ov (bsF M n b s))))) t') : X 107 0 [.inr (.inr (11, (some 0))), .inl (io b), .inl (bz s)] [] t Q :=
  La_q (r := (sp107 M n (io b) s)) h (fun Ls Q' hW k => C107 hW k) (by unfold sp107; rw [ixo_in (by decide) hb]) q
theorem q108 (h : La t M n T A B xs L pA c0 c1 c2) (hb : b < 5) (q : ∀ t', La t' M n T (A + 2) (B + 12) xs L pA c0 c1 c2 → Q (.inl (some (.inl (ov (bsF M n b s))))) t') : X 108 0 [.inr (.inr (11, (some 0))), .inl (io b), .inl (bz s)] [] t Q :=
  La_q (r := (sp107 M n (io b) s)) h (fun Ls Q' hW k => C108 hW k) (by unfold sp107; rw [ixo_in (by decide) hb]) q
theorem q109 (h : La t M n T A B xs L pA c0 c1 c2) (hK : Kv M n) (hb : b < 5) (q : ∀ t', La t' M n T (A + 2) (B + 12) xs L pA c0 c1 c2 → Q (.inl (some (.inl (ov (bwF M n b s))))) t') : X 109 0 [.inr (.inr (11, (some 0))), .inl (io b), .inl (bz s)] [] t Q :=
  La_q (r := (sp109 M n (io b) s)) h (fun Ls Q' hW k => C109 hW hK k) (by unfold sp109; rw [ixo_in (by decide) hb]) q
theorem q110 (h : La t M n T A B xs L pA c0 c1 c2) (hK : Kv M n) (hb : b < 5) (q : ∀ t', La t' M n T (A + 2) (B + 12) xs L pA c0 c1 c2 → Q (.inl (some (.inl (wyP M n b s)))) t') : X 110 0 [.inr (.inr (11, (some 0))), .inl (io b), .inl (bz s), sJk] [] t Q :=
  La_q (r := (sp110 M n (io b) s)) h (fun Ls Q' hW k => C110 hW hK k) (by unfold sp110; rw [ixo_in (by decide) hb]) q
theorem au_m0 (h : La t M n T A B xs L pA c0 c1 c2) : auF (m0 M) n b = auF M n b := by rw [h.2.2.1]
theorem q111 (h : La t M n T A B xs L pA c0 c1 c2) (hK : Kv M n) (hb : b < 5) (q : ∀ t', La t' M n T (A + 2) (B + 12) xs L pA c0 c1 c2 → Q (.inl (some (.inl (auF M n b)))) t') : X 111 0 [.inr (.inr (11, (some 0))), .inl (io b)] [] t Q :=
  La_q (r := (sp111 M n (io b))) h (fun Ls Q' hW k => C111 hW hK k) (by unfold sp111; rw [ixo_in (by decide) hb]; show ok (auF (m0 M) n b) (m0 M) n = _; rw [au_m0 h]) q
theorem q113 (h : La t M n T A B xs L pA c0 c1 c2) (hc : c < 3) (q : ∀ t', La t' M n T (A + 2) (B + 12) xs L pA c0 c1 c2 → Q (.inl (some (.inl (mA M 2 c)))) t') : X 113 0 [.inr (.inr (11, (some 0))), .inl (io c)] [] t Q :=
  La_q (r := (sp113 M n (io c))) h (fun Ls Q' hW k => C113 hW k) (by unfold sp113; rw [ixo_in (by decide) hc]) q
theorem q114 (h : La t M n T A B xs L pA c0 c1 c2)  (q : ∀ t', La t' M n T (A + 2) (B + 12) xs L pA c0 c1 c2 → Q (.inl (some (.inl (io T)))) t') : X 114 0 [.inr (.inr (11, (some 0)))] [] t Q :=
  La_q (r := (sp114 M n T)) h (fun Ls Q' hW k => C114 hW k) (by unfold sp114; rfl) q
theorem tr_in (h : La t M n T A B xs L pA c0 c1 c2) : T < 4096 := (La_Ti h).2.1
theorem q115 (h : La t M n T A B xs L pA c0 c1 c2) (hk : k < T) (hj : j < 6) (q : ∀ t', La t' M n T (A + 2) (B + 12) xs L pA c0 c1 c2 → Q (.inl (some (.inl (tfg M k (io j))))) t') : X 115 0 [.inr (.inr (11, (some 0))), .inl (io k), .inl (io j), sJk] [] t Q :=
  La_q (r := (sp115 M n T (io k) (io j))) h (fun Ls Q' hW k => C115 hW k) (by unfold sp115; rw [ixo_in (Nat.lt_trans (tr_in h) (by decide)) hk]; show (if io j < 0 then er M n 2 else if 5 < io j then er M n 2 else ok (tfg M k (io j)) (m0 M) n) = _; rw [if_neg (io_n0 (by omega)), if_neg (show ¬ (5 : Int32) < io j from io_ltn (k := 5) (K := j) (by omega) (by decide) (by omega))]) q
theorem q116 (h : La t M n T A B xs L pA c0 c1 c2) (hm : m < 6) (hc : c < 3) (q : ∀ t', La t' M n T (A + 2) (B + 12) xs L pA c0 c1 c2 → Q (.inl (some (.inl (mA M 6 (3 * m + c))))) t') : X 116 0 [.inr (.inr (11, (some 0))), .inl (io m), .inl (io c), sJk] [] t Q :=
  La_q (r := (sp116 M n (io m) (io c))) h (fun Ls Q' hW k => C116 hW k) (by unfold sp116; rw [ixo_in (by decide) hm]; show (match ixo (io c) 3 with | none => er M n 1 | some c => ok (mA M 6 (3 * m + c)) (m0 M) n) = _; rw [ixo_in (by decide) hc]) q
theorem q117 (h : La t M n T A B xs L pA c0 c1 c2) (hm : m < 6) (hc : c < 3) (q : ∀ t', La t' M n T (A + 2) (B + 12) xs L pA c0 c1 c2 → Q (.inl (some (.inl (rqL M n m c 0 T)))) t') : X 117 0 [.inr (.inr (11, (some 0))), .inl (io m), .inl (io c), sJk] [] t Q :=
  La_q (r := (sp117 M n T (io m) (io c))) h (fun Ls Q' hW k => C117 hW k) (by unfold sp117; rw [ixo_in (by decide) hm]; show (match ixo (io c) 3 with | none => er M n 1 | some c => ok (rqL M n m c 0 T) (m0 M) n) = _; rw [ixo_in (by decide) hc]) q
theorem q118 (h : La t M n T A B xs L pA c0 c1 c2) (hm : m < 6) (q : ∀ t', La t' M n T (A + 2) (B + 12) xs L pA c0 c1 c2 → Q (.inl (some (.inl (mA M 5 m)))) t') : X 118 0 [.inr (.inr (11, (some 0))), .inl (io m)] [] t Q :=
  La_q (r := (sp118 M n (io m))) h (fun Ls Q' hW k => C118 hW k) (by unfold sp118; rw [ixo_in (by decide) hm]) q
theorem q119 (h : La t M n T A B xs L pA c0 c1 c2) (hm : m < 6) (q : ∀ t', La t' M n T (A + 2) (B + 12) xs L pA c0 c1 c2 → Q (.inl (some (.inl (fdF M n m)))) t') : X 119 0 [.inr (.inr (11, (some 0))), .inl (io m)] [] t Q :=
  La_q (r := (sp119 M n (io m))) h (fun Ls Q' hW k => C119 hW k) (by unfold sp119; rw [ixo_in (by decide) hm]) q
theorem q120 (h : La t M n T A B xs L pA c0 c1 c2) (hm : m < 6) (q : ∀ t', La t' M n T (A + 2) (B + 12) xs L pA c0 c1 c2 → Q (.inl (some (.inl (maF M n m)))) t') : X 120 0 [.inr (.inr (11, (some 0))), .inl (io m)] [] t Q :=
  La_q (r := (sp120 M n (io m))) h (fun Ls Q' hW k => C120 hW k) (by unfold sp120; rw [ixo_in (by decide) hm]) q
theorem q122 (h : La t M n T A B xs L pA c0 c1 c2) (hm : m < 6) (q : ∀ t', La t' M n T (A + 2) (B + 12) xs L pA c0 c1 c2 → Q (.inl (some (.inl (mA M 7 m)))) t') : X 122 0 [.inr (.inr (11, (some 0))), .inl (io m)] [] t Q :=
  La_q (r := (sp122 M n (io m))) h (fun Ls Q' hW k => C122 hW k) (by unfold sp122; rw [ixo_in (by decide) hm]) q
theorem q123 (h : La t M n T A B xs L pA c0 c1 c2) (hm : m < 6) (q : ∀ t', La t' M n T (A + 2) (B + 12) xs L pA c0 c1 c2 → Q (.inl (some (.inl (bz (mB M 2 m))))) t') : X 123 0 [.inr (.inr (11, (some 0))), .inl (io m)] [] t Q :=
  La_q (r := (sp123 M n (io m))) h (fun Ls Q' hW k => C123 hW k) (by unfold sp123; rw [ixo_in (by decide) hm]) q
theorem q121 (h : La t M n T A B xs L pA c0 c1 c2) (hK : Kv M n) (hP : Pv M) (hm : m < 6) (q : ∀ t', La t' M n T (A + 2) (B + 12) xs L pA c0 c1 c2 → Q (.inl (some (.inl (ndF M n m)))) t') : X 121 0 [.inr (.inr (11, (some 0))), .inl (io m)] [] t Q :=
  La_q (r := (sp121 M n (io m))) h (fun Ls Q' hW k => C121 h.2.1 hW hK hP k) (by unfold sp121; rw [ixo_in (by decide) hm]) q
theorem q125 (h : La t M n T A B xs L pA c0 c1 c2)  (q : ∀ t', La t' M n T (A + 2) (B + 12) xs L pA c0 c1 c2 → Q (.inl (some (.inl (mI M 785)))) t') : X 125 0 [.inr (.inr (11, (some 0)))] [] t Q :=
  La_q (r := (sp125 M n)) h (fun Ls Q' hW k => C125 hW k) (by unfold sp125; rfl) q
theorem q84 (h : La t M n T A B xs L pA c0 c1 c2) (hb : b < 5) (h1 : ¬ mA M 0 b = 1) (q : ∀ t' T', La t' (m0 (mAw (m0 M) 0 b 1)) n T' (A + 2) (B + 12) xs L pA c0 c1 c2 → T' ≤ max T 1899 + 0 → Q (.inl (some (.inl (mA M 0 b)))) t') : X 84 0 [.inr (.inr (11, (some 0))), .inl (io b), sJk, sJk] [] t Q :=
  La_ok (r := (sp84 M n (io b))) h (fun Ls Q' hW k => C84 hW k) (by unfold sp84; rw [ixo_in (by decide) hb]; show (if mA M 0 b = 1 then er M n 2 else ok (mA M 0 b) (mAw (m0 M) 0 b 1) n) = _; rw [if_neg h1]) q
theorem q85 (h : La t M n T A B xs L pA c0 c1 c2) (hb : b < 5) (h1 : ¬ mA M 0 b = 0) (q : ∀ t' T', La t' (m0 (mAw (m0 M) 0 b 0)) n T' (A + 2) (B + 12) xs L pA c0 c1 c2 → T' ≤ max T 1899 + 0 → Q (.inl (some (.inl (mA M 0 b)))) t') : X 85 0 [.inr (.inr (11, (some 0))), .inl (io b), sJk, sJk] [] t Q :=
  La_ok (r := (sp85 M n (io b))) h (fun Ls Q' hW k => C85 hW k) (by unfold sp85; rw [ixo_in (by decide) hb]; show (if mA M 0 b = 0 then er M n 2 else ok (mA M 0 b) (mAw (m0 M) 0 b 0) n) = _; rw [if_neg h1]) q
theorem q87 (h : La t M n T A B xs L pA c0 c1 c2) (hb : b < 5) (q : ∀ t' T', La t' (m0 (mBw (m0 M) 0 b s)) n T' (A + 2) (B + 12) xs L pA c0 c1 c2 → T' ≤ max T 1899 + 0 → Q (.inl (some (.inl (bz (mB M 0 b))))) t') : X 87 0 [.inr (.inr (11, (some 0))), .inl (io b), .inl (bz s), sJk, sJk] [] t Q :=
  La_ok (r := (sp87 M n (io b) s)) h (fun Ls Q' hW k => C87 hW k) (by unfold sp87; rw [ixo_in (by decide) hb]) q
theorem q88 (h : La t M n T A B xs L pA c0 c1 c2) (hc : c < 3) (h1 : ¬ p < 1) (h2 : ¬ 999 < p) (h3 : ¬ u < 0) (h4 : ¬ 999 < u) (q : ∀ t' T', La t' (m0 (mAw (mAw (m0 M) 2 c p) 3 c u)) n T' (A + 2) (B + 12) xs L pA c0 c1 c2 → T' ≤ max T 1899 + 0 → Q (.inl none) t') : X 88 0 [.inr (.inr (11, (some 0))), .inl (io c), .inl p, .inl u, sJk] [] t Q :=
  La_okv (r := (sp88 M n (io c) p u)) h (fun Ls Q' hW k => C88 hW k) (by unfold sp88; rw [ixo_in (by decide) hc]; show (if p < 1 then er M n 2 else if 999 < p then er M n 2 else if u < 0 then er M n 2 else if 999 < u then er M n 2 else ok 0 (mAw (mAw (m0 M) 2 c p) 3 c u) n) = _; rw [if_neg h1, if_neg h2, if_neg h3, if_neg h4]) q
theorem q90 (h : La t M n T A B xs L pA c0 c1 c2) (hm : m < 6) (h1 : ¬ p < 0) (h2 : ¬ 1000000 < p) (h3 : mB M 2 m = false) (q : ∀ t' T', La t' (m0 (mAw (m0 M) 7 m p)) n T' (A + 2) (B + 12) xs L pA c0 c1 c2 → T' ≤ max T 1899 + 0 → Q (.inl (some (.inl (mA M 7 m)))) t') : X 90 0 [.inr (.inr (11, (some 0))), .inl (io m), .inl p, sJk, sJk] [] t Q :=
  La_ok (r := (sp90 M n (io m) p)) h (fun Ls Q' hW k => C90 hW k) (by unfold sp90; rw [ixo_in (by decide) hm]; show (if p < 0 then er M n 2 else if 1000000 < p then er M n 2 else if mB M 2 m = true then er M n 3 else ok (mA M 7 m) (mAw (m0 M) 7 m p) n) = _; rw [if_neg h1, if_neg h2, if_neg (by rw [h3]; decide)]) q
theorem q91 (h : La t M n T A B xs L pA c0 c1 c2) (h1 : ¬ p < 0) (h2 : ¬ 1000000 < p) (q : ∀ t' T', La t' (m0 (mIw (m0 M) 784 p)) n T' (A + 2) (B + 12) xs L pA c0 c1 c2 → T' ≤ max T 1899 + 0 → Q (.inl (some (.inl (mI M 784)))) t') : X 91 0 [.inr (.inr (11, (some 0))), .inl p, sJk] [] t Q :=
  La_ok (r := (sp91 M n p)) h (fun Ls Q' hW k => C91 hW k) (by unfold sp91; rw [if_neg h1, if_neg h2]) q
theorem q92 (h : La t M n T A B xs L pA c0 c1 c2) (hm : m < 6) (h1 : ¬ p < 0) (h2 : ¬ 1000 < p) (q : ∀ t' T', La t' (m0 (mAw (m0 M) 8 m p)) n T' (A + 2) (B + 12) xs L pA c0 c1 c2 → T' ≤ max T 1899 + 0 → Q (.inl (some (.inl (mA M 8 m)))) t') : X 92 0 [.inr (.inr (11, (some 0))), .inl (io m), .inl p, sJk, sJk] [] t Q :=
  La_ok (r := (sp92 M n (io m) p)) h (fun Ls Q' hW k => C92 hW k) (by unfold sp92; rw [ixo_in (by decide) hm]; show (if p < 0 then er M n 2 else if 1000 < p then er M n 2 else ok (mA M 8 m) (mAw (m0 M) 8 m p) n) = _; rw [if_neg h1, if_neg h2]) q
theorem q93 (h : La t M n T A B xs L pA c0 c1 c2) (hj : j < 6) (hc : c < 3) (h1 : ¬ p < -500) (h2 : ¬ 500 < p) (q : ∀ t' T', La t' (m0 (mAw (m0 M) 11 (3 * j + c) p)) n T' (A + 2) (B + 12) xs L pA c0 c1 c2 → T' ≤ max T 1899 + 0 → Q (.inl (some (.inl (mA M 11 (3 * j + c))))) t') : X 93 0 [.inr (.inr (11, (some 0))), .inl (io j), .inl (io c), .inl p, sJk] [] t Q :=
  La_ok (r := (sp93 M n (io j) (io c) p)) h (fun Ls Q' hW k => C93 hW k) (by unfold sp93; rw [ixo_in (by decide) hj]; show (match ixo (io c) 3 with | none => er M n 1 | some c => if p < -500 then er M n 2 else if 500 < p then er M n 2 else ok (mA M 11 (3 * j + c)) (mAw (m0 M) 11 (3 * j + c) p) n) = _; rw [ixo_in (by decide) hc]; show (if p < -500 then er M n 2 else if 500 < p then er M n 2 else ok (mA M 11 (3 * j + c)) (mAw (m0 M) 11 (3 * j + c) p) n) = _; rw [if_neg h1, if_neg h2]) q
/-- a call that answers, or throws E0 and is told c for it -/
def oF (c : Int32) (E0 : Nat) (Q : sRs → sT → Prop) (r : sRs) (t : sT) : Prop := match r with
  | .inl (some (.inl v)) => Q (.inl (some (.inl v))) t
  | .inr E => E = E0 ∧ Q (.inl (some (.inl c))) t
  | _ => False
theorem w_260 {x1 : Int32} (k : X 86 0 [.inr (.inr (11, (some 0))), .inl x1, sJk, sJk] [] t (oF (-2) 2 Q)) : X 260 0 [.inr (.inr (11, (some 0))), .inl x1, sJk] [] t Q := by
  refine x_aload_n (pc' := 1) rfl rfl rfl rfl rfl ?_
  refine x_iload_n (pc' := 2) rfl rfl rfl ?_
  refine x_cv (ls0 := [_, _, sJk, sJk]) (rest := []) rfl rfl rfl rfl rfl ?_
  refine X.imp k (fun r t' h => ?_)
  match r, h with
  | .inl (some (.inl v)), h =>
    refine sK_i (pc' := 5) rfl ?_
    refine x_reti rfl rfl ?_
    exact h
  | .inl none, h => exact False.elim h
  | .inl (some (.inr _)), h => exact False.elim h
  | .inr E, h =>
    obtain ⟨rfl, h⟩ := h
    refine sK_h (h := 6) (by decide +kernel) rfl ?_
    refine x_catch_n (pc' := 7) (ls' := [_, _, _]) rfl rfl rfl rfl ?_
    refine x_bipush (pc' := 9) rfl rfl ?_
    refine x_reti rfl rfl ?_
    exact h
theorem w_261 {x1 x2 x3 x4 x5 x6 : Int32} (k : X 94 0 [.inr (.inr (11, (some 0))), .inl x1, .inl x2, .inl x3, .inl x4, .inl x5, .inl x6, sJk, sJk, sJk] [] t (oF (-2) 2 Q)) : X 261 0 [.inr (.inr (11, (some 0))), .inl x1, .inl x2, .inl x3, .inl x4, .inl x5, .inl x6, sJk] [] t Q := by
  refine x_aload_n (pc' := 1) rfl rfl rfl rfl rfl ?_
  refine x_iload_n (pc' := 2) rfl rfl rfl ?_
  refine x_iload_n (pc' := 3) rfl rfl rfl ?_
  refine x_iload_n (pc' := 4) rfl rfl rfl ?_
  refine x_iload (pc' := 6) rfl rfl rfl ?_
  refine x_iload (pc' := 8) rfl rfl rfl ?_
  refine x_iload (pc' := 10) rfl rfl rfl ?_
  refine x_cv (ls0 := [_, _, _, _, _, _, _, sJk, sJk, sJk]) (rest := []) rfl rfl rfl rfl rfl ?_
  refine X.imp k (fun r t' h => ?_)
  match r, h with
  | .inl (some (.inl v)), h =>
    refine sK_i (pc' := 13) rfl ?_
    refine x_reti rfl rfl ?_
    exact h
  | .inl none, h => exact False.elim h
  | .inl (some (.inr _)), h => exact False.elim h
  | .inr E, h =>
    obtain ⟨rfl, h⟩ := h
    refine sK_h (h := 14) (by decide +kernel) rfl ?_
    refine x_catch (pc' := 16) (ls' := [_, _, _, _, _, _, _, _]) rfl rfl rfl rfl ?_
    refine x_bipush (pc' := 18) rfl rfl ?_
    refine x_reti rfl rfl ?_
    exact h
theorem w_262 {x1 x2 x3 x4 x5 : Int32} (k : X 95 0 [.inr (.inr (11, (some 0))), .inl x1, .inl x2, .inl x3, .inl x4, .inl x5, sJk, sJk, sJk] [] t (oF (-2) 2 Q)) : X 262 0 [.inr (.inr (11, (some 0))), .inl x1, .inl x2, .inl x3, .inl x4, .inl x5, sJk] [] t Q := by
  refine x_aload_n (pc' := 1) rfl rfl rfl rfl rfl ?_
  refine x_iload_n (pc' := 2) rfl rfl rfl ?_
  refine x_iload_n (pc' := 3) rfl rfl rfl ?_
  refine x_iload_n (pc' := 4) rfl rfl rfl ?_
  refine x_iload (pc' := 6) rfl rfl rfl ?_
  refine x_iload (pc' := 8) rfl rfl rfl ?_
  refine x_cv (ls0 := [_, _, _, _, _, _, sJk, sJk, sJk]) (rest := []) rfl rfl rfl rfl rfl ?_
  refine X.imp k (fun r t' h => ?_)
  match r, h with
  | .inl (some (.inl v)), h =>
    refine sK_i (pc' := 11) rfl ?_
    refine x_reti rfl rfl ?_
    exact h
  | .inl none, h => exact False.elim h
  | .inl (some (.inr _)), h => exact False.elim h
  | .inr E, h =>
    obtain ⟨rfl, h⟩ := h
    refine sK_h (h := 12) (by decide +kernel) rfl ?_
    refine x_catch (pc' := 14) (ls' := [_, _, _, _, _, _, _]) rfl rfl rfl rfl ?_
    refine x_bipush (pc' := 16) rfl rfl ?_
    refine x_reti rfl rfl ?_
    exact h
theorem w_263 {x1 x2 x3 x4 x5 x6 : Int32} (k : X 96 0 [.inr (.inr (11, (some 0))), .inl x1, .inl x2, .inl x3, .inl x4, .inl x5, .inl x6, sJk, sJk, sJk] [] t (oF (-2) 2 Q)) : X 263 0 [.inr (.inr (11, (some 0))), .inl x1, .inl x2, .inl x3, .inl x4, .inl x5, .inl x6, sJk] [] t Q := by
  refine x_aload_n (pc' := 1) rfl rfl rfl rfl rfl ?_
  refine x_iload_n (pc' := 2) rfl rfl rfl ?_
  refine x_iload_n (pc' := 3) rfl rfl rfl ?_
  refine x_iload_n (pc' := 4) rfl rfl rfl ?_
  refine x_iload (pc' := 6) rfl rfl rfl ?_
  refine x_iload (pc' := 8) rfl rfl rfl ?_
  refine x_iload (pc' := 10) rfl rfl rfl ?_
  refine x_cv (ls0 := [_, _, _, _, _, _, _, sJk, sJk, sJk]) (rest := []) rfl rfl rfl rfl rfl ?_
  refine X.imp k (fun r t' h => ?_)
  match r, h with
  | .inl (some (.inl v)), h =>
    refine sK_i (pc' := 13) rfl ?_
    refine x_reti rfl rfl ?_
    exact h
  | .inl none, h => exact False.elim h
  | .inl (some (.inr _)), h => exact False.elim h
  | .inr E, h =>
    obtain ⟨rfl, h⟩ := h
    refine sK_h (h := 14) (by decide +kernel) rfl ?_
    refine x_catch (pc' := 16) (ls' := [_, _, _, _, _, _, _, _]) rfl rfl rfl rfl ?_
    refine x_bipush (pc' := 18) rfl rfl ?_
    refine x_reti rfl rfl ?_
    exact h
theorem w_264 {x1 x2 x3 x4 x5 : Int32} (k : X 97 0 [.inr (.inr (11, (some 0))), .inl x1, .inl x2, .inl x3, .inl x4, .inl x5, sJk, sJk, sJk, sJk] [] t (oF (-2) 2 Q)) : X 264 0 [.inr (.inr (11, (some 0))), .inl x1, .inl x2, .inl x3, .inl x4, .inl x5, sJk] [] t Q := by
  refine x_aload_n (pc' := 1) rfl rfl rfl rfl rfl ?_
  refine x_iload_n (pc' := 2) rfl rfl rfl ?_
  refine x_iload_n (pc' := 3) rfl rfl rfl ?_
  refine x_iload_n (pc' := 4) rfl rfl rfl ?_
  refine x_iload (pc' := 6) rfl rfl rfl ?_
  refine x_iload (pc' := 8) rfl rfl rfl ?_
  refine x_cv (ls0 := [_, _, _, _, _, _, sJk, sJk, sJk, sJk]) (rest := []) rfl rfl rfl rfl rfl ?_
  refine X.imp k (fun r t' h => ?_)
  match r, h with
  | .inl (some (.inl v)), h =>
    refine sK_i (pc' := 11) rfl ?_
    refine x_reti rfl rfl ?_
    exact h
  | .inl none, h => exact False.elim h
  | .inl (some (.inr _)), h => exact False.elim h
  | .inr E, h =>
    obtain ⟨rfl, h⟩ := h
    refine sK_h (h := 12) (by decide +kernel) rfl ?_
    refine x_catch (pc' := 14) (ls' := [_, _, _, _, _, _, _]) rfl rfl rfl rfl ?_
    refine x_bipush (pc' := 16) rfl rfl ?_
    refine x_reti rfl rfl ?_
    exact h
theorem w_265 {x1 : Int32} (k : X 98 0 [.inr (.inr (11, (some 0))), .inl x1, sJk] [] t (oF (-2) 2 Q)) : X 265 0 [.inr (.inr (11, (some 0))), .inl x1, sJk] [] t Q := by
  refine x_aload_n (pc' := 1) rfl rfl rfl rfl rfl ?_
  refine x_iload_n (pc' := 2) rfl rfl rfl ?_
  refine x_cv (ls0 := [_, _, sJk]) (rest := []) rfl rfl rfl rfl rfl ?_
  refine X.imp k (fun r t' h => ?_)
  match r, h with
  | .inl (some (.inl v)), h =>
    refine sK_i (pc' := 5) rfl ?_
    refine x_reti rfl rfl ?_
    exact h
  | .inl none, h => exact False.elim h
  | .inl (some (.inr _)), h => exact False.elim h
  | .inr E, h =>
    obtain ⟨rfl, h⟩ := h
    refine sK_h (h := 6) (by decide +kernel) rfl ?_
    refine x_catch_n (pc' := 7) (ls' := [_, _, _]) rfl rfl rfl rfl ?_
    refine x_bipush (pc' := 9) rfl rfl ?_
    refine x_reti rfl rfl ?_
    exact h
theorem w_266 {x1 : Int32} (k : X 99 0 [.inr (.inr (11, (some 0))), .inl x1, sJk] [] t (oF (-2) 2 Q)) : X 266 0 [.inr (.inr (11, (some 0))), .inl x1, sJk] [] t Q := by
  refine x_aload_n (pc' := 1) rfl rfl rfl rfl rfl ?_
  refine x_iload_n (pc' := 2) rfl rfl rfl ?_
  refine x_cv (ls0 := [_, _, sJk]) (rest := []) rfl rfl rfl rfl rfl ?_
  refine X.imp k (fun r t' h => ?_)
  match r, h with
  | .inl (some (.inl v)), h =>
    refine sK_i (pc' := 5) rfl ?_
    refine x_reti rfl rfl ?_
    exact h
  | .inl none, h => exact False.elim h
  | .inl (some (.inr _)), h => exact False.elim h
  | .inr E, h =>
    obtain ⟨rfl, h⟩ := h
    refine sK_h (h := 6) (by decide +kernel) rfl ?_
    refine x_catch_n (pc' := 7) (ls' := [_, _, _]) rfl rfl rfl rfl ?_
    refine x_bipush (pc' := 9) rfl rfl ?_
    refine x_reti rfl rfl ?_
    exact h
theorem w_267 {x1 : Int32} (k : X 101 0 [.inr (.inr (11, (some 0))), .inl x1, sJk, sJk] [] t (oF (-2) 2 Q)) : X 267 0 [.inr (.inr (11, (some 0))), .inl x1, sJk] [] t Q := by
  refine x_aload_n (pc' := 1) rfl rfl rfl rfl rfl ?_
  refine x_iload_n (pc' := 2) rfl rfl rfl ?_
  refine x_cv (ls0 := [_, _, sJk, sJk]) (rest := []) rfl rfl rfl rfl rfl ?_
  refine X.imp k (fun r t' h => ?_)
  match r, h with
  | .inl (some (.inl v)), h =>
    refine sK_i (pc' := 5) rfl ?_
    refine x_reti rfl rfl ?_
    exact h
  | .inl none, h => exact False.elim h
  | .inl (some (.inr _)), h => exact False.elim h
  | .inr E, h =>
    obtain ⟨rfl, h⟩ := h
    refine sK_h (h := 6) (by decide +kernel) rfl ?_
    refine x_catch_n (pc' := 7) (ls' := [_, _, _]) rfl rfl rfl rfl ?_
    refine x_bipush (pc' := 9) rfl rfl ?_
    refine x_reti rfl rfl ?_
    exact h
theorem w_268 {x1 x2 : Int32} (k : X 89 0 [.inr (.inr (11, (some 0))), .inl x1, .inl x2, sJk, sJk] [] t (oF (-2) 2 Q)) : X 268 0 [.inr (.inr (11, (some 0))), .inl x1, .inl x2, sJk] [] t Q := by
  refine x_aload_n (pc' := 1) rfl rfl rfl rfl rfl ?_
  refine x_iload_n (pc' := 2) rfl rfl rfl ?_
  refine x_iload_n (pc' := 3) rfl rfl rfl ?_
  refine x_cv (ls0 := [_, _, _, sJk, sJk]) (rest := []) rfl rfl rfl rfl rfl ?_
  refine X.imp k (fun r t' h => ?_)
  match r, h with
  | .inl (some (.inl v)), h =>
    refine sK_i (pc' := 6) rfl ?_
    refine x_reti rfl rfl ?_
    exact h
  | .inl none, h => exact False.elim h
  | .inl (some (.inr _)), h => exact False.elim h
  | .inr E, h =>
    obtain ⟨rfl, h⟩ := h
    refine sK_h (h := 7) (by decide +kernel) rfl ?_
    refine x_catch_n (pc' := 8) (ls' := [_, _, _, _]) rfl rfl rfl rfl ?_
    refine x_bipush (pc' := 10) rfl rfl ?_
    refine x_reti rfl rfl ?_
    exact h
theorem w_269 {x1 x2 : Int32} (k : X 100 0 [.inr (.inr (11, (some 0))), .inl x1, .inl x2, sJk] [] t (oF (-2) 2 Q)) : X 269 0 [.inr (.inr (11, (some 0))), .inl x1, .inl x2, sJk] [] t Q := by
  refine x_aload_n (pc' := 1) rfl rfl rfl rfl rfl ?_
  refine x_iload_n (pc' := 2) rfl rfl rfl ?_
  refine x_iload_n (pc' := 3) rfl rfl rfl ?_
  refine x_cv (ls0 := [_, _, _, sJk]) (rest := []) rfl rfl rfl rfl rfl ?_
  refine X.imp k (fun r t' h => ?_)
  match r, h with
  | .inl (some (.inl v)), h =>
    refine sK_i (pc' := 6) rfl ?_
    refine x_reti rfl rfl ?_
    exact h
  | .inl none, h => exact False.elim h
  | .inl (some (.inr _)), h => exact False.elim h
  | .inr E, h =>
    obtain ⟨rfl, h⟩ := h
    refine sK_h (h := 7) (by decide +kernel) rfl ?_
    refine x_catch_n (pc' := 8) (ls' := [_, _, _, _]) rfl rfl rfl rfl ?_
    refine x_bipush (pc' := 10) rfl rfl ?_
    refine x_reti rfl rfl ?_
    exact h
theorem w_273 (k : X 98 0 [.inr (.inr (11, (some 0))), .inl 0, sJk] [] t (oF (-3) 0 Q)) : X 273 0 [.inr (.inr (11, (some 0))), sJk] [] t Q := by
  refine x_aload_n (pc' := 1) rfl rfl rfl rfl rfl ?_
  refine x_iconst (pc' := 2) rfl rfl ?_
  refine x_cv (ls0 := [_, _, sJk]) (rest := []) rfl rfl rfl rfl rfl ?_
  refine X.imp k (fun r t' h => ?_)
  match r, h with
  | .inl (some (.inl v)), h =>
    refine sK_i (pc' := 5) rfl ?_
    refine x_reti rfl rfl ?_
    exact h
  | .inl none, h => exact False.elim h
  | .inl (some (.inr _)), h => exact False.elim h
  | .inr E, h =>
    obtain ⟨rfl, h⟩ := h
    refine sK_h (h := 6) (by decide +kernel) rfl ?_
    refine x_catch_n (pc' := 7) (ls' := [_, _]) rfl rfl rfl rfl ?_
    refine x_bipush (pc' := 9) rfl rfl ?_
    refine x_reti rfl rfl ?_
    exact h
end Sxb
