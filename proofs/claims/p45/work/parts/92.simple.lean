/-! what calls answer: a code (0: none thrown), a value, a state, how many orders -/
abbrev Rs4 : Type := Nat × Int32 × sM × Nat
def er (M : sM) (n e : Nat) : Rs4 := (e, 0, mIw M 768 (io e), n)
def ok (v : Int32) (M : sM) (n : Nat) : Rs4 := (0, v, M, n)
def m0 (M : sM) : sM := mIw M 768 0
def rsV (es : List Nat) (r : Rs4) : sRs := match r.1 with
  | 0 => .inl (some (.inl r.2.1))
  | e + 1 => .inr (es.getD e 3)
def rsU (es : List Nat) (r : Rs4) : sRs := match r.1 with
  | 0 => .inl none
  | e + 1 => .inr (es.getD e 3)
/-- the class: it answers as told, and goes on with the state told -/
def Kc (t : sT) (T A B d : Nat) (es : List Nat) (r : Rs4) (Q : sRs → sT → Prop) : Prop := ∀ t' T' L', Wc t' r.2.2.1 r.2.2.2 T' L' (A + 2) (B + 12) → ep t' = ep t → T' ≤ max T 1899 + d → Q (rsV es r) t'
def Kn (t : sT) (T A B d : Nat) (es : List Nat) (r : Rs4) (Q : sRs → sT → Prop) : Prop := ∀ t' T' L', Wc t' r.2.2.1 r.2.2.2 T' L' (A + 2) (B + 12) → ep t' = ep t → T' ≤ max T 1899 + d → Q (rsU es r) t'
/-- the reference -/
def Kr (t : sT) (r : Rs4) (Q : sRs → sT → Prop) : Prop := ∀ t', rp t' = r.2.2.1 → cp t' = cp t → Q (.inl (some (.inl r.2.1))) t'
def Kq (t : sT) (r : Rs4) (Q : sRs → sT → Prop) : Prop := ∀ t', rp t' = r.2.2.1 → cp t' = cp t → Q (.inl none) t'
section S92
variable {d' : Nat} {t t' t0 : sT} {M M' M0 N : sM} {n T A B b c m o k x y K w f v j F e : Nat} {p a h d sz : Int32} {s z : Bool} {L L' l : List Nat} {r r0 : Option Nat} {y0 y1 y2 : sV} {Q : sRs → sT → Prop} {es : List Nat}
theorem zf {z : Bool} (h : z = false) : ¬ z = true := fun e => by rw [h] at e; cases e
theorem W_2 (hW : Wc t M n T L A B) : Wc t M n T L (A + 2) (B + 12) := W_mono (by omega) (by omega) hW
theorem Tm : T ≤ max T 1899 + d' := by omega
theorem ep_thr : ep (sThr t) = ep t := rfl
theorem W_er (hW : Wc t M n T L A B) : Wc (sThr t) (mIw M 768 (io e)) n T L (A + 2) (B + 12) := W_768 (W_mono (by omega) (by omega) (W_thr hW))
theorem W_ok (hW : Wc t M n T L A B) : Wc t (m0 M) n T L (A + 2) (B + 12) := W_768 (W_2 hW)
theorem V_er {e : Int32} (hV : Vr t M n) : rp (sIw t 768 0 e) = mIw M 768 e := by rw [rp_I rfl, hV.1]
theorem V_m0 (hV : Vr t M n) : rp (sIw t 768 0 0) = m0 M := V_er hV
theorem bs_m {F : Nat} {v : Int32} : ∀ k f, bsL (mIw M F v) n b s f k = bsL M n b s f k
  | 0, f => rfl
  | k + 1, f => by
    show bsS (mIw M F v) n b s k (bsL (mIw M F v) n b s f k) = bsS M n b s k (bsL M n b s f k)
    rw [bs_m k f]; rfl
theorem bsF_m {F : Nat} {v : Int32} : bsF (mIw M F v) n b s = bsF M n b s := bs_m n none
end S92

section S92b
variable {t t' t0 : sT} {M M' M0 N : sM} {n T A B b c m o k x y K w f v j F e : Nat} {p u a h d sz q1 q2 q3 q4 : Int32} {s z : Bool} {L L' l : List Nat} {r r0 : Option Nat} {y0 y1 y2 : sV} {Q : sRs → sT → Prop} {es : List Nat}

def sp84 (M : sM) (n : Nat) (p0 : Int32) : Rs4 := match ixo p0 5 with
  | none => er M n 1
  | some b => if mA M 0 b = 1 then er M n 2 else ok (mA M 0 b) (mAw (m0 M) 0 b 1) n
theorem C84 {p0 : Int32} (hW : Wc t M n T L A B) (q : Kc t T A B 0 [0, 2] (sp84 M n p0) Q) : X 84 0 [.inr (.inr (11, (some 0))), .inl p0, sJk, sJk] [] t Q := by
  unfold sp84 at q
  cases e0 : ixo p0 5 with
  | none =>
    simp only [e0] at q
    refine n84_x0 hW e0 (?_)
    · exact q (sThr t) T L (W_er hW) ep_thr Tm
  | some b =>
    obtain ⟨hb, rfl⟩ := ixo_s e0
    simp only [e0] at q
    refine n84 hW hb (fun h0 => ?_) (fun h0 => ?_)
    · rw [if_pos h0] at q; exact q (sThr t) T L (W_er hW) ep_thr Tm
    · rw [if_neg h0] at q; exact q (sIw t 67 b 1) T L (W_np (W_ok hW) (Rl_I rfl (W_ok hW).1) (np_I rfl) (rlC_fr (W_ok hW).2.2.2.1 rfl rfl rfl rfl rfl rfl) (Fc_A rfl (Fc.refl _))) (ep_I rfl) Tm
def sp85 (M : sM) (n : Nat) (p0 : Int32) : Rs4 := match ixo p0 5 with
  | none => er M n 1
  | some b => if mA M 0 b = 0 then er M n 2 else ok (mA M 0 b) (mAw (m0 M) 0 b 0) n
theorem C85 {p0 : Int32} (hW : Wc t M n T L A B) (q : Kc t T A B 0 [0, 2] (sp85 M n p0) Q) : X 85 0 [.inr (.inr (11, (some 0))), .inl p0, sJk, sJk] [] t Q := by
  unfold sp85 at q
  cases e0 : ixo p0 5 with
  | none =>
    simp only [e0] at q
    refine n85_x0 hW e0 (?_)
    · exact q (sThr t) T L (W_er hW) ep_thr Tm
  | some b =>
    obtain ⟨hb, rfl⟩ := ixo_s e0
    simp only [e0] at q
    refine n85 hW hb (fun h0 => ?_) (fun h0 => ?_)
    · rw [if_pos h0] at q; exact q (sThr t) T L (W_er hW) ep_thr Tm
    · rw [if_neg h0] at q; exact q (sIw t 67 b 0) T L (W_np (W_ok hW) (Rl_I rfl (W_ok hW).1) (np_I rfl) (rlC_fr (W_ok hW).2.2.2.1 rfl rfl rfl rfl rfl rfl) (Fc_A rfl (Fc.refl _))) (ep_I rfl) Tm
def sp87 (M : sM) (n : Nat) (p0 : Int32) (s : Bool) : Rs4 := match ixo p0 5 with
  | none => er M n 1
  | some b => ok (bz (mB M 0 b)) (mBw (m0 M) 0 b s) n
theorem C87 {p0 : Int32} {s : Bool} (hW : Wc t M n T L A B) (q : Kc t T A B 0 [0] (sp87 M n p0 s) Q) : X 87 0 [.inr (.inr (11, (some 0))), .inl p0, .inl (bz s), sJk, sJk] [] t Q := by
  unfold sp87 at q
  cases e0 : ixo p0 5 with
  | none =>
    simp only [e0] at q
    refine n87_x0 hW e0 (?_)
    · exact q (sThr t) T L (W_er hW) ep_thr Tm
  | some b =>
    obtain ⟨hb, rfl⟩ := ixo_s e0
    simp only [e0] at q
    refine n87 hW hb (?_)
    · exact q (sZw t 68 b s) T L (W_np (W_ok hW) (Rl_Z rfl (W_ok hW).1) (np_Z rfl) (rlC_fr (W_ok hW).2.2.2.1 rfl rfl rfl rfl rfl rfl) (Fc_B rfl (Fc.refl _))) rfl Tm
def sp88 (M : sM) (n : Nat) (p0 : Int32) (p : Int32) (u : Int32) : Rs4 := match ixo p0 3 with
  | none => er M n 1
  | some c => if p < 1 then er M n 2 else if 999 < p then er M n 2 else if u < 0 then er M n 2 else if 999 < u then er M n 2 else ok 0 (mAw (mAw (m0 M) 2 c p) 3 c u) n
theorem C88 {p0 : Int32} {p : Int32} {u : Int32} (hW : Wc t M n T L A B) (q : Kn t T A B 0 [0, 1] (sp88 M n p0 p u) Q) : X 88 0 [.inr (.inr (11, (some 0))), .inl p0, .inl p, .inl u, sJk] [] t Q := by
  unfold sp88 at q
  cases e0 : ixo p0 3 with
  | none =>
    simp only [e0] at q
    refine n88_x0 hW e0 (?_)
    · exact q (sThr t) T L (W_er hW) ep_thr Tm
  | some c =>
    obtain ⟨hc, rfl⟩ := ixo_s e0
    simp only [e0] at q
    refine n88 hW hc (fun h0 => ?_) (fun h0 h1 h2 => ?_) (fun h0 h1 h2 h3 => ?_) (fun h0 h1 h2 h3 => ?_) (fun h0 h1 => ?_)
    · rw [if_pos h0] at q; exact q (sThr t) T L (W_er hW) ep_thr Tm
    · rw [if_neg h0, if_neg h1, if_pos h2] at q; exact q (sThr t) T L (W_er hW) ep_thr Tm
    · rw [if_neg h0, if_neg h1, if_neg h2, if_neg h3] at q; have W1 : Wc (sIw t 130 c p) (mAw (m0 M) 2 c p) n T L (A + 2) (B + 12) := W_np (W_ok hW) (Rl_I rfl (W_ok hW).1) (np_I rfl) (rlC_fr (W_ok hW).2.2.2.1 rfl rfl rfl rfl rfl rfl) (Fc_A rfl (Fc.refl _)); have W2 : Wc (sIw (sIw t 130 c p) 131 c u) (mAw (mAw (m0 M) 2 c p) 3 c u) n T L (A + 2) (B + 12) := W_np W1 (Rl_I rfl W1.1) (np_I rfl) (rlC_fr W1.2.2.2.1 rfl rfl rfl rfl rfl rfl) (Fc_A rfl (Fc.refl _)); exact q _ T L W2 ((ep_I rfl).trans (ep_I rfl)) Tm
    · rw [if_neg h0, if_neg h1, if_neg h2, if_pos h3] at q; exact q (sThr t) T L (W_er hW) ep_thr Tm
    · rw [if_neg h0, if_pos h1] at q; exact q (sThr t) T L (W_er hW) ep_thr Tm
def sp90 (M : sM) (n : Nat) (p0 : Int32) (p : Int32) : Rs4 := match ixo p0 6 with
  | none => er M n 1
  | some m => if p < 0 then er M n 2 else if 1000000 < p then er M n 2 else if mB M 2 m = true then er M n 3 else ok (mA M 7 m) (mAw (m0 M) 7 m p) n
theorem C90 {p0 : Int32} {p : Int32} (hW : Wc t M n T L A B) (q : Kc t T A B 0 [0, 1, 2] (sp90 M n p0 p) Q) : X 90 0 [.inr (.inr (11, (some 0))), .inl p0, .inl p, sJk, sJk] [] t Q := by
  unfold sp90 at q
  cases e0 : ixo p0 6 with
  | none =>
    simp only [e0] at q
    refine n90_x0 hW e0 (?_)
    · exact q (sThr t) T L (W_er hW) ep_thr Tm
  | some m =>
    obtain ⟨hm, rfl⟩ := ixo_s e0
    simp only [e0] at q
    refine n90 hW hm (fun h0 => ?_) (fun h0 h1 h2 => ?_) (fun h0 h1 h2 => ?_) (fun h0 h1 => ?_)
    · rw [if_pos h0] at q; exact q (sThr t) T L (W_er hW) ep_thr Tm
    · rw [if_neg h0, if_neg h1, if_pos h2] at q; exact q (sThr t) T L (W_er hW) ep_thr Tm
    · rw [if_neg h0, if_neg h1, if_neg (zf h2)] at q; exact q (sIw t 452 m p) T L (W_np (W_ok hW) (Rl_I rfl (W_ok hW).1) (np_I rfl) (rlC_fr (W_ok hW).2.2.2.1 rfl rfl rfl rfl rfl rfl) (Fc_A rfl (Fc.refl _))) (ep_I rfl) Tm
    · rw [if_neg h0, if_pos h1] at q; exact q (sThr t) T L (W_er hW) ep_thr Tm
def sp91 (M : sM) (n : Nat) (p : Int32) : Rs4 := if p < 0 then er M n 1 else if 1000000 < p then er M n 1 else ok (mI M 784) (mIw (m0 M) 784 p) n
theorem C91 {p : Int32} (hW : Wc t M n T L A B) (q : Kc t T A B 0 [1] (sp91 M n p) Q) : X 91 0 [.inr (.inr (11, (some 0))), .inl p, sJk] [] t Q := by
  unfold sp91 at q
  refine n91 hW (fun h0 => ?_) (fun h0 h1 => ?_) (fun h0 h1 => ?_)
  · rw [if_pos h0] at q; exact q (sThr t) T L (W_er hW) ep_thr Tm
  · rw [if_neg h0, if_neg h1] at q; exact q (sIw t 324 0 p) T L (W_np (W_ok hW) (Rl_S rfl (W_ok hW).1) (np_I rfl) (rlC_fr (W_ok hW).2.2.2.1 rfl rfl rfl rfl rfl rfl) (Fc_I rfl (Fc.refl _))) (ep_I rfl) Tm
  · rw [if_neg h0, if_pos h1] at q; exact q (sThr t) T L (W_er hW) ep_thr Tm
def sp92 (M : sM) (n : Nat) (p0 : Int32) (p : Int32) : Rs4 := match ixo p0 6 with
  | none => er M n 1
  | some m => if p < 0 then er M n 2 else if 1000 < p then er M n 2 else ok (mA M 8 m) (mAw (m0 M) 8 m p) n
theorem C92 {p0 : Int32} {p : Int32} (hW : Wc t M n T L A B) (q : Kc t T A B 0 [0, 1] (sp92 M n p0 p) Q) : X 92 0 [.inr (.inr (11, (some 0))), .inl p0, .inl p, sJk, sJk] [] t Q := by
  unfold sp92 at q
  cases e0 : ixo p0 6 with
  | none =>
    simp only [e0] at q
    refine n92_x0 hW e0 (?_)
    · exact q (sThr t) T L (W_er hW) ep_thr Tm
  | some m =>
    obtain ⟨hm, rfl⟩ := ixo_s e0
    simp only [e0] at q
    refine n92 hW hm (fun h0 => ?_) (fun h0 h1 => ?_) (fun h0 h1 => ?_)
    · rw [if_pos h0] at q; exact q (sThr t) T L (W_er hW) ep_thr Tm
    · rw [if_neg h0, if_neg h1] at q; exact q (sIw t 453 m p) T L (W_np (W_ok hW) (Rl_I rfl (W_ok hW).1) (np_I rfl) (rlC_fr (W_ok hW).2.2.2.1 rfl rfl rfl rfl rfl rfl) (Fc_A rfl (Fc.refl _))) (ep_I rfl) Tm
    · rw [if_neg h0, if_pos h1] at q; exact q (sThr t) T L (W_er hW) ep_thr Tm
def sp93 (M : sM) (n : Nat) (p0 : Int32) (p1 : Int32) (p : Int32) : Rs4 := match ixo p0 6 with
  | none => er M n 1
  | some k => (match ixo p1 3 with
  | none => er M n 1
  | some c => if p < -500 then er M n 2 else if 500 < p then er M n 2 else ok (mA M 11 (3 * k + c)) (mAw (m0 M) 11 (3 * k + c) p) n)
theorem C93 {p0 : Int32} {p1 : Int32} {p : Int32} (hW : Wc t M n T L A B) (q : Kc t T A B 0 [0, 1] (sp93 M n p0 p1 p) Q) : X 93 0 [.inr (.inr (11, (some 0))), .inl p0, .inl p1, .inl p, sJk] [] t Q := by
  unfold sp93 at q
  cases e0 : ixo p0 6 with
  | none =>
    simp only [e0] at q
    refine n93_x0 hW e0 (?_)
    · exact q (sThr t) T L (W_er hW) ep_thr Tm
  | some k =>
    obtain ⟨hk, rfl⟩ := ixo_s e0
    simp only [e0] at q
    cases e1 : ixo p1 3 with
    | none =>
      simp only [e1] at q
      refine n93_x1 hW hk e1 (?_)
      · exact q (sThr t) T L (W_er hW) ep_thr Tm
    | some c =>
      obtain ⟨hc, rfl⟩ := ixo_s e1
      simp only [e1] at q
      refine n93 hW hk hc (fun h0 => ?_) (fun h0 h1 => ?_) (fun h0 h1 => ?_)
      · rw [if_pos h0] at q; exact q (sThr t) T L (W_er hW) ep_thr Tm
      · rw [if_neg h0, if_neg h1] at q; rw [show k * 3 + c = 3 * k + c by omega]; exact q (sAw t 20 0 (3 * k + c) p) T L (W_np (W_ok hW) (Rl_V (W_ok hW).1) np_A (rlC_fr (W_ok hW).2.2.2.1 rfl rfl rfl rfl rfl rfl) (Fc_A rfl (Fc.refl _))) (ep_np np_A) Tm
      · rw [if_neg h0, if_pos h1] at q; exact q (sThr t) T L (W_er hW) ep_thr Tm
def sp102 (M : sM) (n : Nat) (p0 : Int32) : Rs4 := match ixo p0 5 with
  | none => er M n 1
  | some b => ok (mA M 0 b) (m0 M) n
theorem C102 {p0 : Int32} (hW : Wc t M n T L A B) (q : Kc t T A B 0 [0] (sp102 M n p0) Q) : X 102 0 [.inr (.inr (11, (some 0))), .inl p0] [] t Q := by
  unfold sp102 at q
  cases e0 : ixo p0 5 with
  | none =>
    simp only [e0] at q
    refine n102_x0 hW e0 (?_)
    · exact q (sThr t) T L (W_er hW) ep_thr Tm
  | some b =>
    obtain ⟨hb, rfl⟩ := ixo_s e0
    simp only [e0] at q
    refine n102 hW hb (?_)
    · exact q t T L (W_ok hW) rfl Tm
def sp103 (M : sM) (n : Nat) : Rs4 := ok (io n) (m0 M) n
theorem C103 (hW : Wc t M n T L A B) (q : Kc t T A B 0 [] (sp103 M n) Q) : X 103 0 [.inr (.inr (11, (some 0)))] [] t Q := by
  unfold sp103 at q
  refine n103 hW (?_)
  · exact q t T L (W_ok hW) rfl Tm
def sp104 (M : sM) (n : Nat) (p0 : Int32) : Rs4 := match ixo p0 n with
  | none => er M n 1
  | some o => ok (mA M 19 o) (m0 M) n
theorem C104 {p0 : Int32} (hW : Wc t M n T L A B) (q : Kc t T A B 0 [0] (sp104 M n p0) Q) : X 104 0 [.inr (.inr (11, (some 0))), .inl p0] [] t Q := by
  unfold sp104 at q
  cases e0 : ixo p0 n with
  | none =>
    simp only [e0] at q
    refine n104_x0 hW e0 (?_)
    · exact q (sThr t) T L (W_er hW) ep_thr Tm
  | some o =>
    obtain ⟨ho, rfl⟩ := ixo_s e0
    simp only [e0] at q
    refine n104 hW ho (?_)
    · exact q t T L (W_ok hW) rfl Tm
def sp105 (M : sM) (n : Nat) (p0 : Int32) : Rs4 := match ixo p0 n with
  | none => er M n 1
  | some o => ok (mA M 15 o) (m0 M) n
theorem C105 {p0 : Int32} (hW : Wc t M n T L A B) (q : Kc t T A B 0 [0] (sp105 M n p0) Q) : X 105 0 [.inr (.inr (11, (some 0))), .inl p0] [] t Q := by
  unfold sp105 at q
  cases e0 : ixo p0 n with
  | none =>
    simp only [e0] at q
    refine n105_x0 hW e0 (?_)
    · exact q (sThr t) T L (W_er hW) ep_thr Tm
  | some o =>
    obtain ⟨ho, rfl⟩ := ixo_s e0
    simp only [e0] at q
    refine n105 hW ho (?_)
    · exact q t T L (W_ok hW) rfl Tm
def sp106 (M : sM) (n : Nat) (p0 : Int32) : Rs4 := match ixo p0 n with
  | none => er M n 1
  | some o => ok (mA M 17 o) (m0 M) n
theorem C106 {p0 : Int32} (hW : Wc t M n T L A B) (q : Kc t T A B 0 [0] (sp106 M n p0) Q) : X 106 0 [.inr (.inr (11, (some 0))), .inl p0, sJk] [] t Q := by
  unfold sp106 at q
  cases e0 : ixo p0 n with
  | none =>
    simp only [e0] at q
    refine n106_x0 hW e0 (?_)
    · exact q (sThr t) T L (W_er hW) ep_thr Tm
  | some o =>
    obtain ⟨ho, rfl⟩ := ixo_s e0
    simp only [e0] at q
    refine n106 hW ho (fun h0 => ?_) (fun h0 => ?_)
    · rw [W_17 hW ho h0] at q; exact q _ T L (W_ok hW) rfl Tm
    · exact q _ T L (W_ok hW) rfl Tm
def sp107 (M : sM) (n : Nat) (p0 : Int32) (s : Bool) : Rs4 := match ixo p0 5 with
  | none => er M n 1
  | some b => ok (ov (bsF M n b s)) (m0 M) n
theorem C107 {p0 : Int32} {s : Bool} (hW : Wc t M n T L A B) (q : Kc t T A B 0 [0] (sp107 M n p0 s) Q) : X 107 0 [.inr (.inr (11, (some 0))), .inl p0, .inl (bz s)] [] t Q := by
  unfold sp107 at q
  cases e0 : ixo p0 5 with
  | none =>
    simp only [e0] at q
    refine n107_x0 hW e0 (?_)
    · exact q (sThr t) T L (W_er hW) ep_thr Tm
  | some b =>
    obtain ⟨hb, rfl⟩ := ixo_s e0
    simp only [e0] at q
    refine n107 hW hb (fun h0 j1 h1 => ?_) (fun h0 h1 => ?_) (fun h0 j1 h1 => ?_) (fun h0 h1 => ?_)
    · rw [h0, h1] at q; exact q _ T L (W_ok hW) rfl Tm
    · rw [h0, h1] at q; exact q _ T L (W_ok hW) rfl Tm
    · rw [h0, h1] at q; exact q _ T L (W_ok hW) rfl Tm
    · rw [h0, h1] at q; exact q _ T L (W_ok hW) rfl Tm
def sp112 (M : sM) (n : Nat) (p0 : Int32) : Rs4 := match ixo p0 3 with
  | none => er M n 1
  | some c => ok (mA M 1 c) (m0 M) n
def sp113 (M : sM) (n : Nat) (p0 : Int32) : Rs4 := match ixo p0 3 with
  | none => er M n 1
  | some c => ok (mA M 2 c) (m0 M) n
theorem C113 {p0 : Int32} (hW : Wc t M n T L A B) (q : Kc t T A B 0 [0] (sp113 M n p0) Q) : X 113 0 [.inr (.inr (11, (some 0))), .inl p0] [] t Q := by
  unfold sp113 at q
  cases e0 : ixo p0 3 with
  | none =>
    simp only [e0] at q
    refine n113_x0 hW e0 (?_)
    · exact q (sThr t) T L (W_er hW) ep_thr Tm
  | some c =>
    obtain ⟨hc, rfl⟩ := ixo_s e0
    simp only [e0] at q
    refine n113 hW hc (?_)
    · exact q t T L (W_ok hW) rfl Tm
def sp114 (M : sM) (n : Nat) (T : Nat) : Rs4 := ok (io T) (m0 M) n
theorem C114 (hW : Wc t M n T L A B) (q : Kc t T A B 0 [] (sp114 M n T) Q) : X 114 0 [.inr (.inr (11, (some 0)))] [] t Q := by
  unfold sp114 at q
  refine n114 hW (?_)
  · exact q t T L (W_ok hW) rfl Tm
def sp116 (M : sM) (n : Nat) (p0 : Int32) (p1 : Int32) : Rs4 := match ixo p0 6 with
  | none => er M n 1
  | some m => (match ixo p1 3 with
  | none => er M n 1
  | some c => ok (mA M 6 (3 * m + c)) (m0 M) n)
theorem C116 {p0 : Int32} {p1 : Int32} (hW : Wc t M n T L A B) (q : Kc t T A B 0 [0] (sp116 M n p0 p1) Q) : X 116 0 [.inr (.inr (11, (some 0))), .inl p0, .inl p1, sJk] [] t Q := by
  unfold sp116 at q
  cases e0 : ixo p0 6 with
  | none =>
    simp only [e0] at q
    refine n116_x0 hW e0 (?_)
    · exact q (sThr t) T L (W_er hW) ep_thr Tm
  | some m =>
    obtain ⟨hm, rfl⟩ := ixo_s e0
    simp only [e0] at q
    cases e1 : ixo p1 3 with
    | none =>
      simp only [e1] at q
      refine n116_x1 hW hm e1 (?_)
      · exact q (sThr t) T L (W_er hW) ep_thr Tm
    | some c =>
      obtain ⟨hc, rfl⟩ := ixo_s e1
      simp only [e1] at q
      refine n116 hW hm hc (?_)
      · exact q t T L (W_ok hW) rfl Tm
def sp118 (M : sM) (n : Nat) (p0 : Int32) : Rs4 := match ixo p0 6 with
  | none => er M n 1
  | some m => ok (mA M 5 m) (m0 M) n
theorem C118 {p0 : Int32} (hW : Wc t M n T L A B) (q : Kc t T A B 0 [0] (sp118 M n p0) Q) : X 118 0 [.inr (.inr (11, (some 0))), .inl p0] [] t Q := by
  unfold sp118 at q
  cases e0 : ixo p0 6 with
  | none =>
    simp only [e0] at q
    refine n118_x0 hW e0 (?_)
    · exact q (sThr t) T L (W_er hW) ep_thr Tm
  | some m =>
    obtain ⟨hm, rfl⟩ := ixo_s e0
    simp only [e0] at q
    refine n118 hW hm (?_)
    · exact q t T L (W_ok hW) rfl Tm
def sp119 (M : sM) (n : Nat) (p0 : Int32) : Rs4 := match ixo p0 6 with
  | none => er M n 1
  | some m => ok (fdF M n m) (m0 M) n
theorem C119 {p0 : Int32} (hW : Wc t M n T L A B) (q : Kc t T A B 0 [0] (sp119 M n p0) Q) : X 119 0 [.inr (.inr (11, (some 0))), .inl p0] [] t Q := by
  unfold sp119 at q
  cases e0 : ixo p0 6 with
  | none =>
    simp only [e0] at q
    refine n119_x0 hW e0 (?_)
    · exact q (sThr t) T L (W_er hW) ep_thr Tm
  | some m =>
    obtain ⟨hm, rfl⟩ := ixo_s e0
    simp only [e0] at q
    refine n119 hW hm (?_)
    · exact q t T L (W_ok hW) rfl Tm
def sp122 (M : sM) (n : Nat) (p0 : Int32) : Rs4 := match ixo p0 6 with
  | none => er M n 1
  | some m => ok (mA M 7 m) (m0 M) n
theorem C122 {p0 : Int32} (hW : Wc t M n T L A B) (q : Kc t T A B 0 [0] (sp122 M n p0) Q) : X 122 0 [.inr (.inr (11, (some 0))), .inl p0] [] t Q := by
  unfold sp122 at q
  cases e0 : ixo p0 6 with
  | none =>
    simp only [e0] at q
    refine n122_x0 hW e0 (?_)
    · exact q (sThr t) T L (W_er hW) ep_thr Tm
  | some m =>
    obtain ⟨hm, rfl⟩ := ixo_s e0
    simp only [e0] at q
    refine n122 hW hm (?_)
    · exact q t T L (W_ok hW) rfl Tm
def sp123 (M : sM) (n : Nat) (p0 : Int32) : Rs4 := match ixo p0 6 with
  | none => er M n 1
  | some m => ok (bz (mB M 2 m)) (m0 M) n
theorem C123 {p0 : Int32} (hW : Wc t M n T L A B) (q : Kc t T A B 0 [0] (sp123 M n p0) Q) : X 123 0 [.inr (.inr (11, (some 0))), .inl p0] [] t Q := by
  unfold sp123 at q
  cases e0 : ixo p0 6 with
  | none =>
    simp only [e0] at q
    refine n123_x0 hW e0 (?_)
    · exact q (sThr t) T L (W_er hW) ep_thr Tm
  | some m =>
    obtain ⟨hm, rfl⟩ := ixo_s e0
    simp only [e0] at q
    refine n123 hW hm (?_)
    · exact q t T L (W_ok hW) rfl Tm
def sp124 (M : sM) (n : Nat) : Rs4 := ok (mI M 784) (m0 M) n
def sp125 (M : sM) (n : Nat) : Rs4 := ok (mI M 785) (m0 M) n
theorem C125 (hW : Wc t M n T L A B) (q : Kc t T A B 0 [] (sp125 M n) Q) : X 125 0 [.inr (.inr (11, (some 0)))] [] t Q := by
  unfold sp125 at q
  refine n125 hW (?_)
  · exact q t T L (W_ok hW) rfl Tm
end S92b
