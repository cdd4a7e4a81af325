/-! uncross: all shown anew, on both sides -/
section S99t
variable {t t' t0 : sT} {M M' M0 N Y Z R : sM} {n T A B b c m o k K w v e q j i d : Nat} {p a h u g p0 p1 x y : Int32} {s z : Bool} {L L' l : List Nat} {r r0 : Option Nat} {P P' : Nat → Bool} {Q : sRs → sT → Prop}
/-- some orders shown anew, with no new stamp -/
def saF (M : sM) (P : Nat → Bool) : sM := (fun q k => if q = 17 ∧ P k = true then mnc (mA M 16 k) (mA M 15 k) else mA M q k, mB M, mI M)
theorem sa_cell : mA (saF M P) q k = if q = 17 ∧ P k = true then mnc (mA M 16 k) (mA M 15 k) else mA M q k := rfl
theorem sa_f (h : ¬ q = 17) : mA (saF M P) q = mA M q := funext fun k => by rw [sa_cell, if_neg (fun z => h z.1)]
theorem sa_B : mB (saF M P) = mB M := rfl
theorem sa_I : mI (saF M P) = mI M := rfl
theorem sa_no (h : ∀ k, P k = false) : saF M P = M := sM_ext (fun q k => by rw [sa_cell, if_neg (fun z => by rw [h k] at z; cases z.2)]) (fun _ _ => rfl) (fun _ => rfl)
theorem sa_aw {v : Int32} (hv : v = mnc (mA M 16 o) (mA M 15 o)) : mAw (saF M P) 17 o v = saF M (fun k => P k || decide (k = o)) := by
  refine sM_ext (fun q k => ?_) (fun _ _ => rfl) (fun _ => rfl)
  rw [aw_cell, sa_cell, sa_cell]
  show (if q = 17 ∧ k = o then v else if q = 17 ∧ P k = true then mnc (mA M 16 k) (mA M 15 k) else mA M q k) = if q = 17 ∧ (P k || decide (k = o)) = true then mnc (mA M 16 k) (mA M 15 k) else mA M q k
  by_cases e1 : q = 17
  · by_cases e2 : k = o
    · rw [if_pos ⟨e1, e2⟩, if_pos ⟨e1, by rw [decide_eq_true e2, Bool.or_true]⟩, hv, e2]
    · rw [if_neg (c := q = 17 ∧ k = o) (fun z => e2 z.2), decide_eq_false e2, Bool.or_false]
  · rw [if_neg (fun z => e1 z.1), if_neg (fun z => e1 z.1), if_neg (fun z => e1 z.1)]
theorem mnc_cm {x y : Int32} : mnc x y = mnc y x := by
  unfold mnc
  by_cases h1 : x < y
  · rw [decide_eq_true h1, decide_eq_false (fun g => by rw [Int32.lt_iff_toInt_lt] at h1 g; omega)]; rfl
  · by_cases h2 : y < x
    · rw [decide_eq_false h1, decide_eq_true h2]; rfl
    · rw [decide_eq_false h1, decide_eq_false h2]
      show y = x
      apply Int32.toInt_inj.mp
      rw [Int32.lt_iff_toInt_lt] at h1 h2
      omega
def rsB (M : sM) (b k : Nat) : Bool := decide (mA M 19 k = 1) && decide (oB M k = b)
/-- the class: one side -/
theorem W_sh {v : Int32} (hW : Wc t M n T L A B) (hs : mA M 19 o = 1) : Wc (sIw t 524 o v) (mAw M 17 o v) n T L A B :=
  W_np hW (Rl_sh hs hW.1) (np_I rfl) (rlC_fr hW.2.2.2.1 rfl rfl rfl rfl rfl rfl) (Fc_A rfl (Fc.refl M))
theorem w6_run : ∀ (l : List Nat) (P : Nat → Bool) (t : sT) (r r0 : Option Nat), Wc t (saF M P) n T L A B → Lk t r l → (∀ x, x ∈ l → x < n ∧ mA M 19 x = 1) →
    (∀ t', Wc t' (saF M (fun k => P k || decide (k ∈ l))) n T L A B → ep t' = ep t → (∀ k, sR t' 529 k = sR t 529 k) → Q (.inl none) t') →
    X 6 2 [.inr (.inr (8, r0)), .inr (.inr (8, r))] [] t Q
  | [], P, t, r, r0, hW, hl, _, q => by
    cases hl
    refine n6_n hW (q t ?_ rfl (fun _ => rfl))
    have e : (fun k => P k || decide (k ∈ ([] : List Nat))) = P := funext fun k => by simp
    rw [e]; exact hW
  | o :: l, P, t, r, r0, hW, hl, hx, q => by
    obtain ⟨rfl, hl⟩ := hl
    obtain ⟨ho, hs⟩ := hx o List.mem_cons_self
    refine n6_k hW ho ?_
    rw [sa_f (by decide), sa_f (by decide)]
    have W1 := W_sh (v := mnc (mA M 15 o) (mA M 16 o)) hW (o := o) (by rw [sa_f (by decide)]; exact hs)
    rw [sa_aw mnc_cm] at W1
    have hl1 : Lk (sIw t 524 o (mnc (mA M 15 o) (mA M 16 o))) (sR t 529 o) l := Lk_fr (t := t) (t' := sIw t 524 o (mnc (mA M 15 o) (mA M 16 o))) (fun _ _ => rfl) hl
    refine w6_run l _ _ _ _ W1 hl1 (fun x hx' => hx x (List.mem_cons_of_mem o hx')) (fun t' g1 g2 g3 => q t' ?_ (g2.trans (ep_I rfl)) g3)
    have e : (fun k => (P k || decide (k = o)) || decide (k ∈ l)) = (fun k => P k || decide (k ∈ o :: l)) := funext fun k => by
      by_cases e1 : k = o
      · simp [e1]
      · simp [e1]
    rw [← e]; exact g1
/-- what an uncrossing leaves as it was -/
def Uw (M0 M : sM) (n b : Nat) : Prop := (∀ q k, (q = 3 ∨ q = 12 ∨ q = 13 ∨ q = 14 ∨ q = 16 ∨ q = 18 ∨ q = 20) → mA M q k = mA M0 q k) ∧ (∀ q k, 3 ≤ q → q ≤ 6 → mB M q k = mB M0 q k) ∧ mI M 786 = mI M0 786 ∧ mI M 800 = mI M0 800 ∧ (∀ k, k < n → lfN M k ≤ lfN M0 k) ∧ (∀ k, mA M 19 k = mA M0 19 k ∨ (mA M0 19 k = 1 ∧ mA M 19 k = 2)) ∧ ∀ k, (¬ oB M0 k = b ∨ ¬ mA M0 19 k = 1) → mA M 17 k = mA M0 17 k ∧ mA M 15 k = mA M0 15 k
theorem Uw.refl : Uw M M n b := ⟨fun _ _ _ => rfl, fun _ _ _ _ => rfl, rfl, rfl, fun _ _ => Nat.le_refl _, fun _ => Or.inl rfl, fun _ _ => ⟨rfl, rfl⟩⟩
theorem db_3 : mA (dbF M T b m o p a) 3 = mA M 3 := by
  unfold dbF
  cases snd b <;> rfl
theorem db_8 : mI (dbF M T b m o p a) 800 = mI M 800 := by
  unfold dbF
  cases snd b <;> rfl
theorem Uw_us {i j v : Nat} (h : Uw M0 M n b) (hL : Lv1 (usM M b T p i j (io v)) n) (h15 : ∀ k, k < n → mA M 15 k = io (lfN M k) ∧ lfN M k ≤ 100) (hij : ¬ i = j) (hi : rst M n b true i) (hj : rst M n b false j) (vi : v ≤ lfN M i) (vj : v ≤ lfN M j) : Uw M0 (usM M b T p i j (io v)) n b := by
  obtain ⟨u1, u2, u3, u4, u5, u6, u7⟩ := h
  have hb0 : ∀ k, oB M k = oB M0 k := fun k => by unfold oB; rw [u1 13 k (by omega)]
  refine ⟨fun q k hq => ?_, fun q k h1 h2 => ?_, ?_, ?_, fun k hk => ?_, fun k => ?_, fun k hk => ?_⟩
  · by_cases e : q = 3
    · rw [← u1 q k hq, e]
      unfold usM
      rw [of_r (by decide), of_r (by decide), db_3]
    · rw [us_r (by omega) (by omega)]; exact u1 q k hq
  · rw [us_B ⟨h1, h2⟩]; exact u2 q k h1 h2
  · rw [← u3]
    unfold usM
    rw [of_mI, of_mI]
    exact (Fr_dbF (Fr.refl M)).2.2.1
  · rw [← u4]
    unfold usM
    rw [of_mI, of_mI, db_8]
  · refine Nat.le_trans ?_ (u5 k hk)
    by_cases g1 : k = i
    · have e : mA (usM M b T p i j (io v)) 15 i = io (lfN M i - v) := (us_15i hij).trans (by rw [(h15 i hi.1).1]; exact io_sub vi)
      have := (h15 i hi.1).2
      rw [g1]
      unfold lfN at e this ⊢
      rw [e, nn_io (by omega)]; omega
    · by_cases g2 : k = j
      · have e : mA (usM M b T p i j (io v)) 15 j = io (lfN M j - v) := (us_15j hij).trans (by rw [(h15 j hj.1).1]; exact io_sub vj)
        have := (h15 j hj.1).2
        rw [g2]
        unfold lfN at e this ⊢
        rw [e, nn_io (by omega)]; omega
      · unfold lfN
        rw [us_o (by decide) g1 g2]; exact Nat.le_refl _
  · by_cases g1 : k = i
    · rw [g1, us_19i hij]
      have hi0 : mA M0 19 i = 1 := by
        rcases u6 i with e | ⟨_, e⟩
        · rw [← e]; exact hi.2.1
        · rw [hi.2.1] at e; exact absurd e (by decide)
      by_cases g : mA M 15 i - io v = 0
      · rw [if_pos g]; exact Or.inr ⟨hi0, rfl⟩
      · rw [if_neg g]; exact u6 i
    · by_cases g2 : k = j
      · rw [g2, us_19j hij]
        have hj0 : mA M0 19 j = 1 := by
          rcases u6 j with e | ⟨_, e⟩
          · rw [← e]; exact hj.2.1
          · rw [hj.2.1] at e; exact absurd e (by decide)
        by_cases g : mA M 15 j - io v = 0
        · rw [if_pos g]; exact Or.inr ⟨hj0, rfl⟩
        · rw [if_neg g]; exact u6 j
      · rw [us_o (by decide) g1 g2]; exact u6 k
  · have one : ∀ x, mA M 19 x = 1 → mA M0 19 x = 1 := fun x hx => by
      rcases u6 x with e | ⟨_, e⟩
      · rw [← e]; exact hx
      · rw [hx] at e; exact absurd e (by decide)
    have ki : ¬ k = i := fun e => by
      rcases hk with g | g
      · exact g (by rw [← hb0, e]; exact hi.2.2.1)
      · exact g (by rw [e]; exact one i hi.2.1)
    have kj : ¬ k = j := fun e => by
      rcases hk with g | g
      · exact g (by rw [← hb0, e]; exact hj.2.2.1)
      · exact g (by rw [e]; exact one j hj.2.1)
    rw [us_o (by decide) ki kj, us_o (by decide) ki kj]
    exact u7 k hk
end S99t
