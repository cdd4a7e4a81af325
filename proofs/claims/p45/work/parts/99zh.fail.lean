/-! fail: the loss; the call on both sides -/
section S99zh
variable {t t' t0 : sT} {M M' M0 N Y Z : sM} {n T A B b c m o k x K w v e i d R H C D : Nat} {p a h u p0 p1 : Int32} {s z : Bool} {L L' l V : List Nat} {f f2 : Nat → Nat} {g g2 : Nat → Int32} {y0 y1 : sV} {r : Option Nat} {Q : sRs → sT → Prop}
/-- the loss; what is left of it behind the own share; what the house bears; what the others bear -/
def lsN (M : sM) (n m : Nat) : Nat := (-(fdF M n m)).toNatClampNeg
def l1N (M : sM) (n m : Nat) : Nat := lsN M n m - min (mA M 7 m).toNatClampNeg (lsN M n m)
def hsN (M : sM) (n m : Nat) : Nat := min (mI M 784).toNatClampNeg (l1N M n m)
def kN (M : sM) (n m : Nat) : Nat := l1N M n m - hsN M n m
def cN (M : sM) (n m : Nat) : Nat := min (kN M n m) (fl (qN M m) 0 6).sum
def enM (M : sM) (m : Nat) : sM := mAw (mAw (mAw (mBw M 2 m true) 5 m 0) 4 m 0) 7 m 0
def clM (M : sM) (n m : Nat) : sM := enM (mIw M 784 (io ((mI M 784).toNatClampNeg - hsN M n m))) m
def clF (M : sM) (n m : Nat) : sM := mIw (coF (clM M n m) (qN M m) (cN M n m)) 785 (mI M 785 + io (kN M n m - cN M n m))
def cvM (M : sM) (n m : Nat) : sM := mIw (coF (mIw M 784 (io ((mI M 784).toNatClampNeg - hsN M n m))) (qN M m) (cN M n m)) 785 (mI M 785 + io (kN M n m - cN M n m))
theorem nn_lt {p : Int32} : p.toNatClampNeg < 2 ^ 31 := by
  have h1 := p.toInt_lt
  have e : p.toNatClampNeg = p.toInt.toNat := rfl
  omega
theorem mx0 : mx 0 p = io p.toNatClampNeg := by
  unfold mx
  have e0 : (0 : Int32).toInt = 0 := rfl
  by_cases h : 0 < p
  · rw [if_pos h]
    rw [Int32.lt_iff_toInt_lt, e0] at h
    exact io_nn (by omega)
  · rw [if_neg h]
    rw [Int32.lt_iff_toInt_lt, e0] at h
    have e : p.toNatClampNeg = p.toInt.toNat := rfl
    rw [e, show p.toInt.toNat = 0 by omega]
    rfl
theorem oN_cl : oN (clM M n m) = qN M m := funext fun x => by
  by_cases e : x = m
  · rw [e, qN_m]
    exact oN_t (show mB (clM M n m) 2 m = true from mB_s)
  · rw [qN_o e]
    have h1 : mB (clM M n m) 2 x = mB M 2 x := if_neg (fun z => e z.2)
    have h2 : mA (clM M n m) 7 x = mA M 7 x := if_neg (fun z => e z.2)
    unfold oN
    rw [h1, h2]
theorem Hs_cl (hS : Hs M) : Hs (clM M n m) := fun k hk => by
  by_cases e : k = m
  · have h2 : mA (clM M n m) 7 k = 0 := if_pos ⟨rfl, e⟩
    rw [h2]
    exact ⟨by decide, by decide⟩
  · have h2 : mA (clM M n m) 7 k = mA M 7 k := if_neg (fun z => e z.2)
    rw [h2]
    exact hS k hk
/-- the class -/
theorem w23 (hW : Wc t M n T L A B) (hm : m < 6) (hS : Hs M) (hc : 0 ≤ (mI M 784).toInt) (q : ∀ t', Wc t' (clF M n m) n T L A B → ep t' = ep t → Q (.inl none) t') :
    X 23 0 [.inr (.inr (3, (some 0))), .inr (.inr (7, (some m))), sJk, sJk] [] t Q := by
  have e1 : mx 0 (-(cfdF M n m)) = io (lsN M n m) := mx0
  have e2 : mA M 7 m = io (mA M 7 m).toNatClampNeg := io_nn (hS m hm).1
  have e3 : mI M 784 = io (mI M 784).toNatClampNeg := io_nn hc
  have b1 : lsN M n m < 2 ^ 31 := nn_lt
  have b2 : (mA M 7 m).toNatClampNeg < 2 ^ 31 := nn_lt
  have b3 : (mI M 784).toNatClampNeg < 2 ^ 31 := nn_lt
  have e4 : mnc (mA M 7 m) (mx 0 (-(cfdF M n m))) = io (min (mA M 7 m).toNatClampNeg (lsN M n m)) := by
    rw [e1]
    have := mnc_io b2 b1
    rw [← e2] at this
    exact this
  have e5 : mx 0 (-(cfdF M n m)) - mnc (mA M 7 m) (mx 0 (-(cfdF M n m))) = io (l1N M n m) := by
    rw [e4, e1]
    exact io_sub (Nat.min_le_right _ _)
  have b4 : l1N M n m < 2 ^ 31 := Nat.lt_of_le_of_lt (Nat.sub_le _ _) b1
  have e6 : mnc (mI M 784) (io (l1N M n m)) = io (hsN M n m) := by
    have := mnc_io b3 b4
    rw [← e3] at this
    exact this
  have e7 : io (l1N M n m) - io (hsN M n m) = io (kN M n m) := io_sub (Nat.min_le_right _ _)
  have e8 : mI M 784 - io (hsN M n m) = io ((mI M 784).toNatClampNeg - hsN M n m) := by
    have := io_sub (p := (mI M 784).toNatClampNeg) (q := hsN M n m) (Nat.min_le_left _ _)
    rw [← e3] at this
    exact this
  have b5 : kN M n m < 2 ^ 31 := Nat.lt_of_le_of_lt (Nat.sub_le _ _) b4
  refine n23 hW hm ?_
  rw [e5, e6, e7, e8]
  have W1 : Wc (sIw t 324 0 (io ((mI M 784).toNatClampNeg - hsN M n m))) (mIw M 784 (io ((mI M 784).toNatClampNeg - hsN M n m))) n T L A B := W_np hW (Rl_S rfl hW.1) (np_I rfl) (rlC_fr hW.2.2.2.1 rfl rfl rfl rfl rfl rfl) (Fc_I rfl (Fc.refl _))
  have W2 : ∀ {u : sT} {Y : sM}, Wc u Y n T L A B → Wc (sZw u 458 m true) (mBw Y 2 m true) n T L A B := fun W => W_np W (Rl_Z rfl W.1) (np_Z rfl) (rlC_fr W.2.2.2.1 rfl rfl rfl rfl rfl rfl) (Fc_B rfl (Fc.refl _))
  have W3 : ∀ {u : sT} {Y : sM}, Wc u Y n T L A B → Wc (sIw u 451 m 0) (mAw Y 5 m 0) n T L A B := fun W => W_np W (Rl_I rfl W.1) (np_I rfl) (rlC_fr W.2.2.2.1 rfl rfl rfl rfl rfl rfl) (Fc_A rfl (Fc.refl _))
  have W4 : ∀ {u : sT} {Y : sM}, Wc u Y n T L A B → Wc (sIw u 450 m 0) (mAw Y 4 m 0) n T L A B := fun W => W_np W (Rl_I rfl W.1) (np_I rfl) (rlC_fr W.2.2.2.1 rfl rfl rfl rfl rfl rfl) (Fc_A rfl (Fc.refl _))
  have W5 : ∀ {u : sT} {Y : sM}, Wc u Y n T L A B → Wc (sIw u 452 m 0) (mAw Y 7 m 0) n T L A B := fun W => W_np W (Rl_I rfl W.1) (np_I rfl) (rlC_fr W.2.2.2.1 rfl rfl rfl rfl rfl rfl) (Fc_A rfl (Fc.refl _))
  have W6 : Wc (sIw (sIw (sIw (sZw (sIw t 324 0 (io ((mI M 784).toNatClampNeg - hsN M n m))) 458 m true) 451 m 0) 450 m 0) 452 m 0) (clM M n m) n T L A B := W5 (W4 (W3 (W2 W1)))
  have E6 : ep (sIw (sIw (sIw (sZw (sIw t 324 0 (io ((mI M 784).toNatClampNeg - hsN M n m))) 458 m true) 451 m 0) 450 m 0) 452 m 0) = ep t := (ep_I rfl).trans ((ep_I rfl).trans ((ep_I rfl).trans (Eq.trans (b := ep (sIw t 324 0 (io ((mI M 784).toNatClampNeg - hsN M n m)))) rfl (ep_I rfl))))
  refine w24 W6 (Hs_cl hS) b5 (fun t1 g1 g2 => ?_) hm
  rw [oN_cl] at g1 ⊢
  refine sK_i (pc' := 85) rfl ?_
  refine n23b g1 hm (q _ ?_ ((ep_I rfl).trans (g2.trans E6)))
  exact W_np g1 (Rl_S rfl g1.1) (np_I rfl) (rlC_fr g1.2.2.2.1 rfl rfl rfl rfl rfl rfl) (Fc_I rfl (Fc.refl _))
/-- the reference -/
theorem qN_I {F : Nat} {v : Int32} : qN (mIw M F v) m = qN M m := rfl
theorem Hs_I {F : Nat} {v : Int32} (hS : Hs M) : Hs (mIw M F v) := hS
theorem co_I785 : mI (coF M f C) 785 = mI M 785 := rfl
/-! the ends are the same -/
theorem en_cv (hm : m < 6) (hS : Hs M) : enM (cvM M n m) m = clF M n m := by
  have hle := pt_get (f := qN M m) (R := cN M n m) (Nat.min_le_right _ _) hm
  rw [qN_m] at hle
  have h0 : (ptN (qN M m) (cN M n m)).getD m 0 = 0 := Nat.le_zero.mp hle
  refine Prod.ext (funext fun q => funext fun k => ?_) rfl
  show (if q = 7 ∧ k = m then 0 else if q = 4 ∧ k = m then 0 else if q = 5 ∧ k = m then 0 else if q = 7 ∧ k < 6 then mA M 7 k - io ((ptN (qN M m) (cN M n m)).getD k 0) else mA M q k) = if q = 7 ∧ k < 6 then (if 7 = 7 ∧ k = m then 0 else mA M 7 k) - io ((ptN (qN M m) (cN M n m)).getD k 0) else if q = 7 ∧ k = m then 0 else if q = 4 ∧ k = m then 0 else if q = 5 ∧ k = m then 0 else mA M q k
  by_cases h1 : q = 7 ∧ k < 6
  · by_cases h2 : k = m
    · refine Eq.trans (if_pos (⟨h1.1, h2⟩ : q = 7 ∧ k = m)) (Eq.symm (Eq.trans (if_pos h1) ?_))
      rw [if_pos (⟨rfl, h2⟩ : 7 = 7 ∧ k = m), h2, h0]; rfl
    · refine Eq.trans (if_neg (fun z : q = 7 ∧ k = m => h2 z.2)) (Eq.trans (if_neg (fun z : q = 4 ∧ k = m => h2 z.2)) (Eq.trans (if_neg (fun z : q = 5 ∧ k = m => h2 z.2)) (Eq.trans (if_pos h1) (Eq.symm (Eq.trans (if_pos h1) ?_)))))
      rw [if_neg (fun z : 7 = 7 ∧ k = m => h2 z.2)]
  · rw [if_neg h1, if_neg h1]
theorem en_no (hc : 0 ≤ (mI M 784).toInt) (hf : ¬ fdF M n m < 0) : enM M m = clF M n m := by
  have e0 : (0 : Int32).toInt = 0 := rfl
  have h1 : lsN M n m = 0 := by
    rw [Int32.lt_iff_toInt_lt, e0] at hf
    have h2 : lsN M n m = (-(fdF M n m)).toInt.toNat := rfl
    have h3 := (fdF M n m).toInt_lt
    rw [Int32.toInt_neg, Int.bmod_eq_of_le (by omega) (by omega)] at h2
    omega
  have h2 : l1N M n m = 0 := by unfold l1N; rw [h1, Nat.zero_sub]
  have h3 : hsN M n m = 0 := by unfold hsN; rw [h2, Nat.min_zero]
  have h4 : kN M n m = 0 := by unfold kN; rw [h2, Nat.zero_sub]
  have h5 : cN M n m = 0 := by unfold cN; rw [h4, Nat.zero_min]
  have e3 : mI M 784 = io (mI M 784).toNatClampNeg := io_nn hc
  have h6 : clM M n m = enM M m := by
    unfold clM
    rw [h3, Nat.sub_zero, ← e3]
    have : mIw M 784 (mI M 784) = M := Prod.ext rfl (Prod.ext rfl (funext fun F => by
      show (if F = 784 then mI M 784 else mI M F) = mI M F
      by_cases e : F = 784
      · rw [if_pos e, e]
      · rw [if_neg e]))
    rw [this]
  unfold clF
  rw [h5, h6, co_0, h4]
  refine Prod.ext rfl (Prod.ext rfl (funext fun F => ?_))
  show mI M F = if F = 785 then mI M 785 + io (0 - 0) else mI M F
  by_cases e : F = 785
  · rw [if_pos e, e]
    exact (Int32.add_zero _).symm
  · rw [if_neg e]
/-- who takes over is paid -/
def payF (M : sM) (m k : Nat) : sM := mAw (mAw M 5 m ((mA M 5 m) - (mA M 9 k))) 5 k ((mA (mAw M 5 m ((mA M 5 m) - (mA M 9 k))) 5 k) + (mA M 9 k))
/-- the one in default closed: by a taker, or by nobody -/
def ffF (M : sM) (n m : Nat) (r : Option Nat) : sM := match r with
  | none => clF (cnbF (teA M m 3)) n m
  | some k => clF (cnbF (payF (toL M m k 3) m k)) n m
def sp101 (M : sM) (n : Nat) (p0 : Int32) : Rs4 := match ixo p0 6 with
  | none => er M n 1
  | some m => if mB M 2 m = true then er M n 2 else if fdF M n m < maF M n m then ok (ov (tkrL (waF_ (m0 M) n m) n m 6)) (ffF (waF_ (m0 M) n m) n m (tkrL (waF_ (m0 M) n m) n m 6)) n else er M n 2
/-- what the positions must be, the shares and the capital -/
def Fo (M : sM) (n m : Nat) : Prop := (∀ c, c < 3 → Pv (teA M m c) ∧ Zs (teA M m c)) ∧ Hs M ∧ 0 ≤ (mI M 784).toInt
theorem mk_A {q : Nat} {w : Bool} (h : g1A q = false) : mA (mkF M T c m o p a w) q = mA M q := by
  have e := pt1_mk (M := M) (N := M) (T := T) (c := c) (m := m) (o := o) (p := p) (a := a) (s := w)
  rw [pt1_self] at e
  rw [e]
  exact funext fun k => pt1_rA h
theorem mk_B {q : Nat} {w : Bool} (h : Nat.beq q 7 = false) : mB (mkF M T c m o p a w) q = mB M q := by
  have e := pt1_mk (M := M) (N := M) (T := T) (c := c) (m := m) (o := o) (p := p) (a := a) (s := w)
  rw [pt1_self] at e
  rw [e]
  exact funext fun k => pt1_rB h
theorem mk_I {F : Nat} {w : Bool} (h : Nat.beq F 801 = false) : mI (mkF M T c m o p a w) F = mI M F := by
  have e := pt1_mk (M := M) (N := M) (T := T) (c := c) (m := m) (o := o) (p := p) (a := a) (s := w)
  rw [pt1_self] at e
  rw [e]
  exact pt1_rI h
theorem pon_A {q : Nat} (h : g1A q = false) : mA (pon M T c m k a) q = mA M q := mk_A h
theorem pon_B {q : Nat} (h : Nat.beq q 7 = false) : mB (pon M T c m k a) q = mB M q := mk_B h
theorem pon_I {F : Nat} (h : Nat.beq F 801 = false) : mI (pon M T c m k a) F = mI M F := mk_I h
theorem teS_A {q : Nat} (h : g1A q = false) : mA (teS M c m k v) q = mA M q := by unfold teS; split; exact pon_A h; rfl
theorem teS_B {q : Nat} (h : Nat.beq q 7 = false) : mB (teS M c m k v) q = mB M q := by unfold teS; split; exact pon_B h; rfl
theorem teS_I {F : Nat} (h : Nat.beq F 801 = false) : mI (teS M c m k v) F = mI M F := by unfold teS; split; exact pon_I h; rfl
theorem teL_A {q : Nat} (h : g1A q = false) : ∀ k, mA (teL M c m V k) q = mA M q
  | 0 => rfl
  | k + 1 => (teS_A h).trans (teL_A h k)
theorem teL_B {q : Nat} (h : Nat.beq q 7 = false) : ∀ k, mB (teL M c m V k) q = mB M q
  | 0 => rfl
  | k + 1 => (teS_B h).trans (teL_B h k)
theorem teL_I {F : Nat} (h : Nat.beq F 801 = false) : ∀ k, mI (teL M c m V k) F = mI M F
  | 0 => rfl
  | k + 1 => (teS_I h).trans (teL_I h k)
theorem teF_A {q : Nat} (h : g1A q = false) : mA (teF M c m) q = mA M q := by unfold teF; split; rfl; exact teL_A h 6
theorem teF_B {q : Nat} (h : Nat.beq q 7 = false) : mB (teF M c m) q = mB M q := by unfold teF; split; rfl; exact teL_B h 6
theorem teF_I {F : Nat} (h : Nat.beq F 801 = false) : mI (teF M c m) F = mI M F := by unfold teF; split; rfl; exact teL_I h 6
theorem teA_A {q : Nat} (h : g1A q = false) : ∀ c, mA (teA M m c) q = mA M q
  | 0 => rfl
  | c + 1 => (teF_A h).trans (teA_A h c)
theorem teA_B {q : Nat} (h : Nat.beq q 7 = false) : ∀ c, mB (teA M m c) q = mB M q
  | 0 => rfl
  | c + 1 => (teF_B h).trans (teA_B h c)
theorem teA_I {F : Nat} (h : Nat.beq F 801 = false) : ∀ c, mI (teA M m c) F = mI M F
  | 0 => rfl
  | c + 1 => (teF_I h).trans (teA_I h c)
theorem toS_A {q : Nat} (h : g1A q = false) : mA (toS M m k c) q = mA M q := by unfold toS; split; exact pon_A h; rfl
theorem toS_B {q : Nat} (h : Nat.beq q 7 = false) : mB (toS M m k c) q = mB M q := by unfold toS; split; exact pon_B h; rfl
theorem toS_I {F : Nat} (h : Nat.beq F 801 = false) : mI (toS M m k c) F = mI M F := by unfold toS; split; exact pon_I h; rfl
theorem toL_A {q : Nat} (h : g1A q = false) : ∀ c, mA (toL M m k c) q = mA M q
  | 0 => rfl
  | c + 1 => (toS_A h).trans (toL_A h c)
theorem toL_B {q : Nat} (h : Nat.beq q 7 = false) : ∀ c, mB (toL M m k c) q = mB M q
  | 0 => rfl
  | c + 1 => (toS_B h).trans (toL_B h c)
theorem toL_I {F : Nat} (h : Nat.beq F 801 = false) : ∀ c, mI (toL M m k c) F = mI M F
  | 0 => rfl
  | c + 1 => (toS_I h).trans (toL_I h c)
theorem Hs_eq (h : mA N 7 = mA M 7) (hS : Hs M) : Hs N := fun k hk => by rw [h]; exact hS k hk
theorem cnb_A : mA (cnbF M) = mA M := rfl
theorem cnb_I : mI (cnbF M) = mI M := rfl
theorem w54 (hW : Wc t M n T L A B) (q : ∀ t', Wc t' (cnbF M) n T L A B → ep t' = ep t → Q (.inl none) t') : X 54 0 [.inr (.inr (5, (some 0))), sJk, sJk, sJk, sJk] [] t Q :=
  c54 hW.1 hW.2.1 hW.2.2.1 (fun t' h1 h2 h3 => q t' (W_np hW h1 h2 (rlC_fr hW.2.2.2.1 h3 rfl rfl rfl rfl rfl) (Fc_cnbF (Fc.refl M))) (ep_np h2))
end S99zh
