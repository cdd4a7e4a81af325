/-! what holds of orders, and stays so -/
section S66
variable {M M' M0 N : sM} {n T b c m o k x y K w : Nat} {p a d sz : Int32} {s z : Bool} {L L' l : List Nat}
def sumN (f : Nat → Nat) : Nat → Nat
  | 0 => 0
  | k + 1 => sumN f k + f k
theorem sumN_cong {f g : Nat → Nat} : ∀ {n : Nat}, (∀ k, k < n → f k = g k) → sumN f n = sumN g n
  | 0, _ => rfl
  | n + 1, h => by
    show sumN f n + f n = sumN g n + g n
    rw [sumN_cong (n := n) (fun k hk => h k (by omega)), h n (by omega)]
theorem sumN_up {f g : Nat → Nat} : ∀ {n : Nat}, x < n → (∀ k, k < n → ¬ k = x → f k = g k) → sumN f n + g x = sumN g n + f x
  | 0, hx, _ => absurd hx (Nat.not_lt_zero x)
  | n + 1, hx, h => by
    show sumN f n + f n + g x = sumN g n + g n + f x
    by_cases e : x = n
    · subst e
      rw [sumN_cong (f := f) (g := g) (n := x) (fun k hk => h k (by omega) (by omega))]
      omega
    · have ih := sumN_up (f := f) (g := g) (n := n) (by omega) (fun k hk hn => h k (by omega) hn)
      have := h n (by omega) (fun e2 => e e2.symm)
      omega
theorem sumN_le {f : Nat → Nat} {B : Nat} : ∀ {n : Nat}, (∀ k, k < n → f k ≤ B) → sumN f n ≤ B * n
  | 0, _ => Nat.le_refl _
  | n + 1, h => by
    show sumN f n + f n ≤ B * (n + 1)
    have := sumN_le (f := f) (n := n) (fun k hk => h k (by omega))
    have := h n (by omega)
    rw [Nat.mul_succ]
    omega
def lfN (M : sM) (k : Nat) : Nat := (mA M 15 k).toNatClampNeg
def stN (M : sM) : Nat := (mI M 800).toNatClampNeg
def wtN (s : Int32) : Nat := if s = 0 ∨ s = 4 then 1 else 0
def poN (M : sM) (n : Nat) : Nat := sumN (fun k => lfN M k + wtN (mA M 19 k)) n
/-- an order: left, peak, state, shown, stamp; the latest stamp -/
def Io (st : Nat) (l p s h q : Int32) : Prop := ∃ e f : Nat, l = io e ∧ e ≤ 100 ∧ p = io f ∧ 1 ≤ f ∧ f ≤ 100 ∧ q.toInt ≤ st ∧ (s = 1 → 0 < q ∧ ∃ g : Nat, h = io g ∧ 1 ≤ g ∧ g ≤ e)
def Iv (M : sM) (n : Nat) : Prop := (∀ k, k < n → Io (stN M) (mA M 15 k) (mA M 16 k) (mA M 19 k) (mA M 17 k) (mA M 18 k)) ∧ mI M 800 = io (stN M) ∧ stN M + poN M n ≤ 101 * n ∧ (∀ c, c < 3 → 0 ≤ mA M 3 c) ∧ Pb M n ∧ n ≤ 200
theorem Iv_st (h : Iv M n) : stN M ≤ 20200 := by
  have := h.2.2.1
  have := h.2.2.2.2.2
  omega
theorem Iv_lf (h : Iv M n) (hk : k < n) : mA M 15 k = io (lfN M k) ∧ lfN M k ≤ 100 := by
  obtain ⟨e, f, h1, h2, _⟩ := h.1 k hk
  have e1 : lfN M k = e := by unfold lfN; rw [h1]; exact nn_io (by omega)
  rw [e1]; exact ⟨h1, h2⟩
theorem Iv_sh (h : Iv M n) (hk : k < n) (hs : mA M 19 k = 1) : mA M 17 k = io (shN M k) ∧ 1 ≤ shN M k ∧ shN M k ≤ lfN M k ∧ 0 < mA M 18 k := by
  obtain ⟨e, f, h1, h2, _, _, _, _, h6⟩ := h.1 k hk
  obtain ⟨h7, g, h8, h9, h10⟩ := h6 hs
  have e1 : lfN M k = e := by unfold lfN; rw [h1]; exact nn_io (by omega)
  have e2 : shN M k = g := by unfold shN; rw [h8]; exact nn_io (by omega)
  rw [e1, e2]; exact ⟨h8, h9, h10, h7⟩
theorem Iv_Sq (h : Iv M n) : Sq M n (stN M) := by
  have h0 := Iv_st h
  have e : (mI M 800).toInt = (stN M : Int) := by rw [h.2.1]; exact io_int (by omega)
  refine ⟨by rw [e]; exact Int.natCast_nonneg _, by rw [e]; exact Int.le_refl _, fun k hk => ?_⟩
  rw [e]
  obtain ⟨_, _, _, _, _, _, _, h5, _⟩ := h.1 k hk
  exact h5
theorem Iv_Sh (h : Iv M n) (hL : ∀ x, x ∈ L → x < n ∧ mA M 19 x = 1) : Sh M L := fun x hx => by
  obtain ⟨h1, h2, h3, _⟩ := Iv_sh h (hL x hx).1 (hL x hx).2
  have := (Iv_lf h (hL x hx).1).2
  exact ⟨h1, h2, by omega⟩
theorem Iv_same (h : Iv M n) (h15 : mA M' 15 = mA M 15) (h16 : mA M' 16 = mA M 16) (h17 : mA M' 17 = mA M 17) (h18 : mA M' 18 = mA M 18) (h19 : mA M' 19 = mA M 19) (h3 : mA M' 3 = mA M 3) (h14 : mA M' 14 = mA M 14) (h800 : mI M' 800 = mI M 800) : Iv M' n := by
  unfold Iv poN lfN stN Pb at *
  rw [h15, h16, h17, h18, h19, h3, h14, h800]
  exact h
/-- an order changes -/
theorem Iv_up {st' : Nat} (h : Iv M n) (hx : x < n) (hst : mI M' 800 = io st') (hle : stN M ≤ st') (ho : ∀ k, k < n → ¬ k = x → mA M' 15 k = mA M 15 k ∧ mA M' 17 k = mA M 17 k ∧ mA M' 18 k = mA M 18 k ∧ mA M' 19 k = mA M 19 k) (h16 : mA M' 16 = mA M 16) (h3 : mA M' 3 = mA M 3) (h14 : mA M' 14 = mA M 14)
    (hI : Io st' (mA M' 15 x) (mA M' 16 x) (mA M' 19 x) (mA M' 17 x) (mA M' 18 x)) (hp : st' + (lfN M' x + wtN (mA M' 19 x)) ≤ stN M + (lfN M x + wtN (mA M 19 x))) : Iv M' n := by
  have h0 := Iv_st h
  have hsum := sumN_up (f := fun k => lfN M' k + wtN (mA M' 19 k)) (g := fun k => lfN M k + wtN (mA M 19 k)) (n := n) hx (fun k hk hn => by
    obtain ⟨g1, g2, g3, g4⟩ := ho k hk hn
    show lfN M' k + wtN (mA M' 19 k) = lfN M k + wtN (mA M 19 k)
    unfold lfN
    rw [g1, g4])
  have hpo := h.2.2.1
  have hn := h.2.2.2.2.2
  have e1 : poN M' n + (lfN M x + wtN (mA M 19 x)) = poN M n + (lfN M' x + wtN (mA M' 19 x)) := hsum
  have est : stN M' = st' := by unfold stN; rw [hst]; exact nn_io (by omega)
  refine ⟨fun k hk => ?_, by rw [est]; exact hst, by rw [est]; omega, fun c hc => ?_, fun k hk => ?_, hn⟩
  · rw [est]
    by_cases e : k = x
    · rw [e]; exact hI
    · obtain ⟨g1, g2, g3, g4⟩ := ho k hk e
      rw [g1, g2, g3, g4, h16]
      obtain ⟨u, v, k1, k2, k3, k4, k5, k6, k7⟩ := h.1 k hk
      exact ⟨u, v, k1, k2, k3, k4, k5, by omega, k7⟩
  · rw [h3]; exact h.2.2.2.1 c hc
  · rw [h14]; exact h.2.2.2.2.1 k hk
/-! what stays as it is beside an order -/
theorem aw_o {A B : Nat} {v : Int32} (h : ¬ k = x) : mA (mAw M B x v) A k = mA M A k := if_neg (fun z => h z.2)
theorem tk_o {A : Nat} (h : ¬ k = x) (hA : ¬ A = 26) : mA (tkF M x a) A k = mA M A k := by
  show (if A = 26 ∧ k = oM M x then ((mA M 26 (oM M x)) + (bif (mB M 4 x) then a else 0)) else if A = 15 ∧ k = x then mA M 15 x - a else mA M A k) = mA M A k
  rw [if_neg (fun z => hA z.1), if_neg (fun z => h z.2)]
theorem of_o {A : Nat} (h : ¬ k = x) (hA : ¬ A = 26) : mA (ofF M x a) A k = mA M A k := by
  rw [ofF_eq]
  cases decide (mA M 15 x - a = 0)
  · exact tk_o h hA
  · exact (aw_o h).trans ((aw_o h).trans (tk_o h hA))
theorem sh_o {A : Nat} (h : ¬ k = x) : mA (shF M x s) A k = mA M A k := by
  unfold shF
  cases s
  · exact aw_o h
  · exact (aw_o (M := mIw (mAw M 17 x (mnc (mA M 16 x) (mA M 15 x))) 800 ((mI M 800) + 1)) h).trans (aw_o (M := M) h)
theorem fl_o {A : Nat} (h : ¬ k = x) (hA : ¬ A = 26) : mA (flF M x a) A k = mA M A k := by
  have e1 : mA (ofF (mAw M 17 x (mA M 17 x - a)) x a) A k = mA M A k := (of_o h hA).trans (aw_o h)
  unfold flF
  cases decide (0 < mA (ofF (mAw M 17 x (mA M 17 x - a)) x a) 15 x)
  · exact e1
  · cases decide (mA (ofF (mAw M 17 x (mA M 17 x - a)) x a) 17 x = 0)
    · exact e1
    · exact (sh_o (s := true) h).trans e1
theorem fl_I : mI (flF M x a) 800 = mI M 800 ∨ mI (flF M x a) 800 = mI M 800 + 1 := by
  have e1 : mI (ofF (mAw M 17 x (mA M 17 x - a)) x a) 800 = mI M 800 := by
    rw [ofF_eq]
    cases decide (mA (mAw M 17 x (mA M 17 x - a)) 15 x - a = 0) <;> rfl
  unfold flF
  cases decide (0 < mA (ofF (mAw M 17 x (mA M 17 x - a)) x a) 15 x)
  · exact Or.inl e1
  · cases decide (mA (ofF (mAw M 17 x (mA M 17 x - a)) x a) 17 x = 0)
    · exact Or.inl e1
    · right
      show mI (ofF (mAw M 17 x (mA M 17 x - a)) x a) 800 + 1 = mI M 800 + 1
      rw [e1]
theorem io_nn0 {u v : Nat} (h : v ≤ u) (hu : u < 2 ^ 31) : (io u - io v = 0) ↔ u = v := by
  rw [io_sub h]
  constructor
  · intro e
    have := (io_inj (p := u - v) (q := 0) (by omega) (by decide)).mp e
    omega
  · intro e
    rw [show u - v = 0 by omega]; rfl
/-- what a take leaves of an order -/
theorem fl_val {v : Nat} (h : Iv M n) (hx : x < n) (hs : mA M 19 x = 1) (hv1 : 1 ≤ v) (hv : v ≤ shN M x) :
    mA (flF M x (io v)) 15 x = io (lfN M x - v) ∧ ((lfN M x = v ∧ mA (flF M x (io v)) 19 x = 2 ∧ mA (flF M x (io v)) 18 x = mA M 18 x ∧ mI (flF M x (io v)) 800 = mI M 800) ∨ (v < lfN M x ∧ mA (flF M x (io v)) 19 x = 1 ∧ ((v < shN M x ∧ mA (flF M x (io v)) 17 x = io (shN M x - v) ∧ mA (flF M x (io v)) 18 x = mA M 18 x ∧ mI (flF M x (io v)) 800 = mI M 800) ∨ (v = shN M x ∧ mA (flF M x (io v)) 17 x = mnc (mA M 16 x) (io (lfN M x - v)) ∧ mA (flF M x (io v)) 18 x = mI M 800 + 1 ∧ mI (flF M x (io v)) 800 = mI M 800 + 1)))) := by
  obtain ⟨hl, hl1⟩ := Iv_lf h hx
  obtain ⟨hsh, hs1, hs2, hs3⟩ := Iv_sh h hx hs
  have tk15' : mA (tkF M x (io v)) 15 x = io (lfN M x - v) := by rw [tk15, hl, io_sub (by omega)]
  by_cases e : lfN M x = v
  · have e0 : mA M 15 x - io v = 0 := by rw [hl]; exact (io_nn0 (by omega) (by omega)).mpr e
    have ef : flF M x (io v) = mAw (mAw (tkF M x (io v)) 19 x 2) 17 x 0 := by rw [fl_z e0, ofF_eq, decide_eq_true e0]; rfl
    rw [ef]
    exact ⟨tk15', Or.inl ⟨e, if_pos ⟨rfl, rfl⟩, rfl, rfl⟩⟩
  · have e0 : ¬ mA M 15 x - io v = 0 := by rw [hl]; exact fun q => e ((io_nn0 (by omega) (by omega)).mp q)
    have ep : decide (0 < mA M 15 x - io v) = true := by
      rw [hl, io_sub (by omega)]
      exact decide_eq_true ((io_pos (by omega)).mpr (by omega))
    by_cases e2 : v = shN M x
    · have e3 : decide (mA M 17 x - io v = 0) = true := by rw [hsh]; exact decide_eq_true ((io_nn0 (by omega) (by omega)).mpr e2.symm)
      have ef : flF M x (io v) = rsF (mAw (tkF M x (io v)) 17 x (mA M 17 x - io v)) x := by rw [fl_n e0 hs, ep, e3]; rfl
      have eN : mA (mAw (tkF M x (io v)) 17 x (mA M 17 x - io v)) 15 x = io (lfN M x - v) := tk15'
      generalize hN : mAw (tkF M x (io v)) 17 x (mA M 17 x - io v) = N2 at ef eN
      have i8 : mI N2 800 = mI M 800 := by rw [← hN]; rfl
      have i16 : mA N2 16 x = mA M 16 x := by rw [← hN]; rfl
      rw [ef]
      refine ⟨eN, Or.inr ⟨by omega, if_pos ⟨rfl, rfl⟩, Or.inr ⟨e2, ?_, ?_, ?_⟩⟩⟩
      · show (if 17 = 17 ∧ x = x then mnc (mA N2 16 x) (mA N2 15 x) else _) = _
        rw [if_pos ⟨rfl, rfl⟩, eN, i16]
      · show (if 18 = 18 ∧ x = x then mI N2 800 + 1 else _) = _
        rw [if_pos ⟨rfl, rfl⟩, i8]
      · show mI N2 800 + 1 = _
        rw [i8]
    · have e3 : decide (mA M 17 x - io v = 0) = false := by rw [hsh]; exact decide_eq_false (fun q => e2 ((io_nn0 (by omega) (by omega)).mp q).symm)
      have ef : flF M x (io v) = mAw (tkF M x (io v)) 17 x (mA M 17 x - io v) := by rw [fl_n e0 hs, ep, e3]; rfl
      rw [ef]
      refine ⟨tk15', Or.inr ⟨by omega, hs, Or.inl ⟨by omega, ?_, rfl, rfl⟩⟩⟩
      rw [← io_sub (by omega : v ≤ shN M x), ← hsh]
      exact if_pos ⟨rfl, rfl⟩
theorem io_succ {u : Nat} : io u + 1 = io (u + 1) := io_add u 1
theorem Iv_fl {v : Nat} (h : Iv M n) (hx : x < n) (hs : mA M 19 x = 1) (hv1 : 1 ≤ v) (hv : v ≤ shN M x) : Iv (flF M x (io v)) n := by
  obtain ⟨hl, hl1⟩ := Iv_lf h hx
  obtain ⟨hsh, hs1, hs2, hs3⟩ := Iv_sh h hx hs
  have h0 := Iv_st h
  obtain ⟨w15, w⟩ := fl_val h hx hs hv1 hv
  obtain ⟨e, f, h1, h2, h3, h4, h5, h6, h7⟩ := h.1 x hx
  have hlf : lfN (flF M x (io v)) x = lfN M x - v := by
    show (mA (flF M x (io v)) 15 x).toNatClampNeg = _
    rw [w15]; exact nn_io (by omega)
  have hw1 : wtN (mA M 19 x) = 0 := by rw [hs]; rfl
  have o4 : ∀ k, k < n → ¬ k = x → mA (flF M x (io v)) 15 k = mA M 15 k ∧ mA (flF M x (io v)) 17 k = mA M 17 k ∧ mA (flF M x (io v)) 18 k = mA M 18 k ∧ mA (flF M x (io v)) 19 k = mA M 19 k := fun k _ hn => ⟨fl_o hn (by decide), fl_o hn (by decide), fl_o hn (by decide), fl_o hn (by decide)⟩
  have h16 : mA (flF M x (io v)) 16 = mA M 16 := fl_A rfl
  have h63 : mA (flF M x (io v)) 3 = mA M 3 := fl_A rfl
  have h614 : mA (flF M x (io v)) 14 = mA M 14 := fl_A rfl
  rcases w with ⟨u1, u2, u3, u4⟩ | ⟨u1, u2, u3⟩
  · refine Iv_up h hx (u4.trans h.2.1) (Nat.le_refl _) o4 h16 h63 h614 ?_ ?_
    · rw [w15, h16, u2, u3]
      exact ⟨lfN M x - v, f, rfl, by omega, h3, h4, h5, h6, fun q => absurd q (by decide)⟩
    · rw [hlf, u2, hw1]
      show stN M + (lfN M x - v + 0) ≤ _
      omega
  · have hw2 : wtN (mA (flF M x (io v)) 19 x) = 0 := by rw [u2]; rfl
    rcases u3 with ⟨t1, t2, t3, t4⟩ | ⟨t1, t2, t3, t4⟩
    · refine Iv_up h hx (t4.trans h.2.1) (Nat.le_refl _) o4 h16 h63 h614 ?_ (by rw [hlf, hw2, hw1]; omega)
      rw [w15, h16, u2, t2, t3]
      exact ⟨lfN M x - v, f, rfl, by omega, h3, h4, h5, h6, fun _ => ⟨hs3, shN M x - v, rfl, by omega, by omega⟩⟩
    · have e8 : mI M 800 + 1 = io (stN M + 1) := by rw [h.2.1]; exact io_succ
      refine Iv_up (st' := stN M + 1) h hx (t4.trans e8) (Nat.le_succ _) o4 h16 h63 h614 ?_ (by rw [hlf, hw2, hw1]; omega)
      rw [w15, h16, u2, t2, t3, h3, mnc_io (by omega) (by omega), e8]
      refine ⟨lfN M x - v, f, rfl, by omega, rfl, h4, h5, ?_, fun _ => ⟨(io_pos (by omega)).mpr (Nat.succ_pos _), min f (lfN M x - v), rfl, by omega, by omega⟩⟩
      rw [io_int (by omega)]
      exact Int.le_refl _
theorem Iv_cn (h : Iv M n) (hx : x < n) : Iv (cnF M x) n := by
  obtain ⟨e, f, h1, h2, h3, h4, h5, h6, h7⟩ := h.1 x hx
  have e19 : mA (cnF M x) 19 x = 3 := if_pos ⟨rfl, rfl⟩
  refine Iv_up h hx (show mI (cnF M x) 800 = io (stN M) from h.2.1) (Nat.le_refl _) (fun k _ hn => ⟨rfl, aw_o (M := mAw M 19 x 3) hn, rfl, aw_o (M := M) (B := 19) (v := 3) hn⟩) rfl rfl rfl ?_ ?_
  · rw [e19]
    exact ⟨e, f, h1, h2, h3, h4, h5, h6, fun q => absurd q (by decide)⟩
  · rw [e19]
    show stN M + (lfN M x + 0) ≤ _
    omega
theorem Iv_tk {v : Nat} (h : Iv M n) (hx : x < n) (hs : ¬ mA M 19 x = 1) (hv : v ≤ lfN M x) : Iv (tkF M x (io v)) n := by
  obtain ⟨hl, hl1⟩ := Iv_lf h hx
  obtain ⟨e, f, h1, h2, h3, h4, h5, h6, h7⟩ := h.1 x hx
  have w15 : mA (tkF M x (io v)) 15 x = io (lfN M x - v) := by rw [tk15, hl, io_sub hv]
  have hlf : lfN (tkF M x (io v)) x = lfN M x - v := by
    show (mA (tkF M x (io v)) 15 x).toNatClampNeg = _
    rw [w15]; exact nn_io (by omega)
  refine Iv_up h hx (show mI (tkF M x (io v)) 800 = io (stN M) from h.2.1) (Nat.le_refl _) (fun k _ hn => ⟨tk_o hn (by decide), rfl, rfl, rfl⟩) rfl rfl rfl ?_ ?_
  · rw [w15]
    exact ⟨lfN M x - v, f, rfl, by omega, h3, h4, h5, h6, fun q => absurd q hs⟩
  · rw [hlf]
    show stN M + (lfN M x - v + wtN (mA M 19 x)) ≤ _
    omega
theorem Iv_re (h : Iv M n) : Iv (reF M k b p) n := by
  rw [reF_eq]
  exact Iv_same h rfl rfl rfl rfl rfl rfl rfl rfl
theorem Iv_db (h : Iv M n) : Iv (dbF M T b m o p a) n := by
  have e : dbF M T b m o p a = pt1 M (dbF M T b m o p a) := by
    have g := pt1_db (M := M) (N := M) (T := T) (b := b) (m := m) (o := o) (p := p) (a := a)
    rw [pt1_self] at g
    exact g
  rw [e]
  exact Iv_same h rfl rfl rfl rfl rfl rfl rfl rfl
theorem Iv_pt (h : Iv M n) : Iv (pt1 M N) n := Iv_same h rfl rfl rfl rfl rfl rfl rfl rfl
theorem Iv_ph {v : Int32} (h : Iv M n) : Iv (mAw M 0 c v) n := Iv_same h rfl rfl rfl rfl rfl rfl rfl rfl
theorem Iv_own : ∀ {l : List Nat} {M : sM}, Iv M n → (∀ x, x ∈ l → x < n) → Iv (ownF m l M) n
  | [], _, h, _ => h
  | x :: l, M, h, hx => by
    show Iv (ownF m l (bif decide (oM M x = m) then cnF M x else M)) n
    refine Iv_own ?_ (fun y hy => hx y (List.mem_cons_of_mem x hy))
    cases decide (oM M x = m)
    · exact h
    · exact Iv_cn h (hx x List.mem_cons_self)
theorem shN_o (h : ¬ y = x) : shN (flF M x a) y = shN M y := by
  unfold shN
  rw [fl_o h (by decide)]
theorem Iv_flL : ∀ {l V : List Nat} {M : sM}, Iv M n → (∀ x, x ∈ l → x < n ∧ mA M 19 x = 1) → l.Nodup → leL V (l.map (shN M)) → Iv (flL l V M) n
  | [], _, _, h, _, _, _ => h
  | x :: l, [], _, h, _, _, hV => by cases hV
  | x :: l, v :: V, M, h, hx, hN, hV => by
    have hN2 := List.nodup_cons.mp hN
    obtain ⟨h1, h2⟩ := hx x List.mem_cons_self
    have hv : v ≤ shN M x := hV.1
    have hV2 : leL V (l.map (shN M)) := hV.2
    have hne : ∀ y, y ∈ l → ¬ y = x := fun y hy e => hN2.1 (by rw [← e]; exact hy)
    show Iv (flL l V (if 0 < v then flF M x (io v) else M)) n
    by_cases h0 : 0 < v
    · rw [if_pos h0]
      refine Iv_flL (Iv_fl h h1 h2 h0 hv) (fun y hy => ⟨(hx y (List.mem_cons_of_mem x hy)).1, (st_flF (hne y hy)).trans (hx y (List.mem_cons_of_mem x hy)).2⟩) hN2.2 ?_
      rw [List.map_congr_left (g := shN M) (fun y hy => shN_o (hne y hy))]
      exact hV2
    · rw [if_neg h0]
      exact Iv_flL h (fun y hy => hx y (List.mem_cons_of_mem x hy)) hN2.2 hV2
theorem flL_o (hy : ¬ y ∈ L) {A : Nat} (hA : ¬ A = 26) : ∀ (V : List Nat) (M : sM), mA (flL L V M) A y = mA M A y := by
  induction L with
  | nil => intro V M; rfl
  | cons x l ih =>
    intro V M
    cases V with
    | nil => rfl
    | cons v V =>
      have h1 : ¬ y = x := fun e => hy (by rw [e]; exact List.mem_cons_self)
      show mA (flL l V (if 0 < v then flF M x (io v) else M)) A y = mA M A y
      rw [ih (fun e => hy (List.mem_cons_of_mem x e))]
      split
      · exact fl_o h1 hA
      · rfl
/-- a trade by portions keeps it -/
theorem Iv_csh {A : Nat} (h : Iv M n) (ho : o < n) (h19 : mA M 19 o = 4) (hx : ∀ x, x ∈ L → x < n ∧ mA M 19 x = 1) (hN : L.Nodup) (hA : lfN M o = A) : Iv (cshF M n T o p L (portN (L.map (shN M)) A)) n := by
  have hS := Iv_Sh h hx
  have hnl : ¬ o ∈ L := fun e => by have := (hx o e).2; rw [h19] at this; exact absurd this (by decide)
  unfold cshF
  refine Iv_re (Iv_tk ?_ ho ?_ ?_)
  · rw [mkL_self, flL_pt]
    exact Iv_pt (Iv_flL h hx hN (portN_le (Sh_1 hS)))
  · rw [flL_st hnl, mkL_st, h19]; decide
  · rw [portN_sum (Sh_1 hS)]
    have e : lfN (flL L (portN (L.map (shN M)) A) (mkL M o p L (portN (L.map (shN M)) A) M T)) o = A := by
      rw [← hA]
      unfold lfN
      rw [flL_o hnl (by decide), mkL_self]
      exact congrArg Int32.toNatClampNeg (pt1_rA rfl)
    rw [e]
    exact Nat.min_le_right _ _
end S66
