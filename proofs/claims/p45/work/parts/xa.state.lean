/-! what the law sees: the class's state M (n orders, T trades), its own arrays p (pA) and c (c0 c1 c2), its script xs of L ints -/
def La (t : sT) (M : sM) (n T A B : Nat) (xs : Nat → Int32) (L : Nat) (pA : Nat → Int32) (c0 c1 c2 : Int32) : Prop :=
  (∃ Ls, Wc t M n T Ls A B) ∧ Zr t ∧ m0 M = M ∧ (∀ k, sA t 29 0 k = xs k) ∧ sN t 29 0 = L ∧ (∀ k, k < 64 → sA t 21 0 k = pA k) ∧ sA t 21 1 0 = c0 ∧ sA t 21 1 1 = c1 ∧ sA t 21 1 2 = c2
section Sxa
variable {t t' t0 : sT} {M M' N N' : sM} {n n' T T' A A' B B' g L d e k K b m c o E : Nat} {xs pA : Nat → Int32} {c0 c1 c2 v w x y : Int32} {Q : sRs → sT → Prop} {ls : List sV} {es : List Nat} {r : Rs4} {z : Bool} {Ls L' : List Nat}
theorem m0_m0 : m0 (m0 M) = m0 M := by
  refine Prod.ext rfl (Prod.ext rfl (funext fun F => ?_))
  show (if F = 768 then (0 : Int32) else if F = 768 then 0 else mI M F) = if F = 768 then 0 else mI M F
  by_cases h : F = 768
  · rw [if_pos h, if_pos h]
  · rw [if_neg h, if_neg h]
theorem m0_768 : m0 (mIw M 768 v) = m0 M := by
  refine Prod.ext rfl (Prod.ext rfl (funext fun F => ?_))
  show (if F = 768 then (0 : Int32) else if F = 768 then v else mI M F) = if F = 768 then 0 else mI M F
  by_cases h : F = 768
  · rw [if_pos h, if_pos h]
  · rw [if_neg h, if_neg h]; exact (if_neg h).symm
theorem m0_of (h : mI M 768 = 0) : m0 M = M := by
  refine Prod.ext rfl (Prod.ext rfl (funext fun F => ?_))
  show (if F = 768 then (0 : Int32) else mI M F) = mI M F
  by_cases e : F = 768
  · rw [if_pos e, e, h]
  · rw [if_neg e]
theorem La_of (h : La t M n T A B xs L pA c0 c1 c2) (hE : ep t' = ep t) (hz : Zr t') (hW : Wc t' N n' T' L' A' B') : La t' (m0 N) n' T' A' B' xs L pA c0 c1 c2 := by
  obtain ⟨-, -, -, h4, h5, h6, h7, h8, h9⟩ := h
  have a29 : sA t' 29 = sA t 29 := congrFun (congrArg (fun z => z.1) hE) 29
  have a21 : sA t' 21 = sA t 21 := congrFun (congrArg (fun z => z.1) hE) 21
  have a5 : sN t' 29 = sN t 29 := congrArg (fun z => z.2.2.2.2) hE
  refine ⟨⟨L', W_768 hW⟩, hz, m0_m0, fun p => ?_, ?_, fun p hp => ?_, ?_, ?_, ?_⟩
  · rw [a29]; exact h4 p
  · rw [a5]; exact h5
  · rw [a21]; exact h6 p hp
  · rw [a21]; exact h7
  · rw [a21]; exact h8
  · rw [a21]; exact h9
theorem La_mono (h : La t M n T A B xs L pA c0 c1 c2) (hA : A ≤ A') (hB : B ≤ B') : La t M n T A' B' xs L pA c0 c1 c2 := by
  obtain ⟨⟨l, hW⟩, h2⟩ := h
  exact ⟨⟨l, W_mono hA hB hW⟩, h2⟩
theorem La_T (h : La t M n T A B xs L pA c0 c1 c2) : tN M = T := by
  obtain ⟨⟨l, hW⟩, -⟩ := h
  exact W_tN hW
theorem La_Cn (h : La t M n T A B xs L pA c0 c1 c2) : Cn t := by
  obtain ⟨⟨l, hW⟩, -⟩ := h
  exact hW.2.1.1
theorem La_Ti (h : La t M n T A B xs L pA c0 c1 c2) : Ti M T := by
  obtain ⟨⟨l, hW⟩, -⟩ := h
  exact hW.2.1.2.2.2.2.2.1
theorem La_Ri (h : La t M n T A B xs L pA c0 c1 c2) : Ri M n := by
  obtain ⟨⟨l, hW⟩, -⟩ := h
  exact hW.2.2.1
theorem La_n (h : La t M n T A B xs L pA c0 c1 c2) : n ≤ 200 := (La_Ri h).2.1
theorem La_len (h : La t M n T A B xs L pA c0 c1 c2) : sN t 29 0 = L := h.2.2.2.2.1
theorem La_n0 (h : La t M n T A B xs L pA c0 c1 c2) : sN t 21 0 = 64 := kN_21_0 (La_Cn h)
theorem La_n1 (h : La t M n T A B xs L pA c0 c1 c2) : sN t 21 1 = 3 := kN_21_1 (La_Cn h)
theorem La_c0 (h : La t M n T A B xs L pA c0 c1 c2) : sA t 21 1 (0 : Int32).toNatClampNeg = c0 := h.2.2.2.2.2.2.1
theorem La_c1 (h : La t M n T A B xs L pA c0 c1 c2) : sA t 21 1 (1 : Int32).toNatClampNeg = c1 := h.2.2.2.2.2.2.2.1
theorem La_c2 (h : La t M n T A B xs L pA c0 c1 c2) : sA t 21 1 (2 : Int32).toNatClampNeg = c2 := h.2.2.2.2.2.2.2.2
theorem La_p (h : La t M n T A B xs L pA c0 c1 c2) (hk : k < 64) : sA t 21 0 (io k).toNatClampNeg = pA k := by
  rw [nn_io (by omega)]; exact h.2.2.2.2.2.1 k hk
theorem La_xs (h : La t M n T A B xs L pA c0 c1 c2) (hk : k < L) (hL : L < 2 ^ 31) : sA t 29 0 (io k).toNatClampNeg = xs k := by
  rw [nn_io (by omega)]; exact h.2.2.2.1 k
theorem W_21 {p : Nat} (hW : Wc t M n T Ls A B) : Wc (sAw t 21 o p v) M n T Ls A B :=
  W_gen hW (Cn.A rfl hW.2.1.1) (fun _ _ _ => rfl) rfl rfl (fun o' p' _ => rdA_F rfl) rfl (fun _ _ => rfl) rfl (Nat.le_refl _) (Nat.le_refl _)
theorem Zr_21 {p : Nat} (hz : Zr t) : Zr (sAw t 21 o p v) :=
  Zr_e rfl rfl (funext fun o' => funext fun p' => rdA_F rfl) hz
theorem La_wc0 (h : La t M n T A B xs L pA c0 c1 c2) : La (sAw t 21 1 0 v) M n T A B xs L pA v c1 c2 := by
  obtain ⟨⟨l, hW⟩, h2, h3, h4, h5, h6, h7, h8, h9⟩ := h
  exact ⟨⟨l, W_21 hW⟩, Zr_21 h2, h3, fun p => (rdA_F rfl).trans (h4 p), h5, fun p hp => (rdA_o rfl).trans (h6 p hp), sA_s, (rdA_p rfl).trans h8, (rdA_p rfl).trans h9⟩
theorem La_wc1 (h : La t M n T A B xs L pA c0 c1 c2) : La (sAw t 21 1 1 v) M n T A B xs L pA c0 v c2 := by
  obtain ⟨⟨l, hW⟩, h2, h3, h4, h5, h6, h7, h8, h9⟩ := h
  exact ⟨⟨l, W_21 hW⟩, Zr_21 h2, h3, fun p => (rdA_F rfl).trans (h4 p), h5, fun p hp => (rdA_o rfl).trans (h6 p hp), (rdA_p rfl).trans h7, sA_s, (rdA_p rfl).trans h9⟩
theorem La_wc2 (h : La t M n T A B xs L pA c0 c1 c2) : La (sAw t 21 1 2 v) M n T A B xs L pA c0 c1 v := by
  obtain ⟨⟨l, hW⟩, h2, h3, h4, h5, h6, h7, h8, h9⟩ := h
  exact ⟨⟨l, W_21 hW⟩, Zr_21 h2, h3, fun p => (rdA_F rfl).trans (h4 p), h5, fun p hp => (rdA_o rfl).trans (h6 p hp), (rdA_p rfl).trans h7, (rdA_p rfl).trans h8, sA_s⟩
/-- the law's notes, one more -/
def pW (pA : Nat → Int32) (k : Nat) (v : Int32) : Nat → Int32 := fun j => if j = k then v else pA j
theorem La_wp (h : La t M n T A B xs L pA c0 c1 c2) : La (sAw t 21 0 k v) M n T A B xs L (pW pA k v) c0 c1 c2 := by
  obtain ⟨⟨l, hW⟩, h2, h3, h4, h5, h6, h7, h8, h9⟩ := h
  refine ⟨⟨l, W_21 hW⟩, Zr_21 h2, h3, fun p => (rdA_F rfl).trans (h4 p), h5, fun p hp => ?_, (rdA_o rfl).trans h7, (rdA_o rfl).trans h8, (rdA_o rfl).trans h9⟩
  show (if 21 = 21 ∧ 0 = 0 ∧ p = k then v else sA t 21 0 p) = if p = k then v else pA p
  by_cases e : p = k
  · rw [if_pos ⟨rfl, rfl, e⟩, if_pos e]
  · rw [if_neg (fun z => e z.2.2), if_neg e]; exact h6 p hp
theorem La_pge (h : La t M n T A B xs L pA c0 c1 c2) (hk : 64 ≤ k) : La t M n T A B xs L (pW pA k v) c0 c1 c2 := by
  obtain ⟨h1, h2, h3, h4, h5, h6, h7⟩ := h
  exact ⟨h1, h2, h3, h4, h5, fun p hp => (h6 p hp).trans (if_neg (fun z => by omega)).symm, h7⟩
/-! calls, as the law sees them -/
theorem La_ok (h : La t M n T A B xs L pA c0 c1 c2) (hC : ∀ Ls Q', Wc t M n T Ls A B → Kc t T A B d es r Q' → X g 0 ls [] t Q') (e : r = ok v N n')
    (q : ∀ t' T', La t' (m0 N) n' T' (A + 2) (B + 12) xs L pA c0 c1 c2 → T' ≤ max T 1899 + d → Q (.inl (some (.inl v))) t') : X g 0 ls [] t Q := by
  obtain ⟨l, hW⟩ := h.1
  refine X_zr h.2.1 (hC l _ hW (fun t' T' L' W1 e1 b1 z1 => ?_))
  subst e
  exact q t' T' (La_of h e1 z1 W1) b1
theorem La_okv (h : La t M n T A B xs L pA c0 c1 c2) (hC : ∀ Ls Q', Wc t M n T Ls A B → Kn t T A B d es r Q' → X g 0 ls [] t Q') (e : r = ok v N n')
    (q : ∀ t' T', La t' (m0 N) n' T' (A + 2) (B + 12) xs L pA c0 c1 c2 → T' ≤ max T 1899 + d → Q (.inl none) t') : X g 0 ls [] t Q := by
  obtain ⟨l, hW⟩ := h.1
  refine X_zr h.2.1 (hC l _ hW (fun t' T' L' W1 e1 b1 z1 => ?_))
  subst e
  exact q t' T' (La_of h e1 z1 W1) b1
theorem La_fix (h : La t M n T A B xs L pA c0 c1 c2) (h' : La t' (m0 (m0 M)) n T' A' B' xs L pA c0 c1 c2) : La t' M n T A' B' xs L pA c0 c1 c2 := by
  rw [m0_m0, h.2.2.1] at h'
  have e : T' = T := (La_T h').symm.trans (La_T h)
  rw [e] at h'
  exact h'
/-- a question -/
theorem La_q (h : La t M n T A B xs L pA c0 c1 c2) (hC : ∀ Ls Q', Wc t M n T Ls A B → Kc t T A B d es r Q' → X g 0 ls [] t Q') (e : r = ok v (m0 M) n)
    (q : ∀ t', La t' M n T (A + 2) (B + 12) xs L pA c0 c1 c2 → Q (.inl (some (.inl v))) t') : X g 0 ls [] t Q :=
  La_ok h hC e (fun t' T' h' _ => q t' (La_fix h h'))
/-- a call that throws -/
theorem La_er (h : La t M n T A B xs L pA c0 c1 c2) (hC : ∀ Ls Q', Wc t M n T Ls A B → Kc t T A B d es r Q' → X g 0 ls [] t Q') (e : r = er M n (k + 1)) (hE : es.getD k 3 = E)
    (q : ∀ t', La t' M n T (A + 2) (B + 12) xs L pA c0 c1 c2 → Q (.inr E) t') : X g 0 ls [] t Q := by
  obtain ⟨l, hW⟩ := h.1
  refine X_zr h.2.1 (hC l _ hW (fun t' T' L' W1 e1 b1 z1 => ?_))
  subst e hE
  have h' : La t' (m0 (mIw M 768 (io (k + 1)))) n T' (A + 2) (B + 12) xs L pA c0 c1 c2 := La_of h e1 z1 W1
  rw [m0_768, ← m0_m0] at h'
  exact q t' (La_fix h h')
/-! conditions -/
theorem k_eq (h : x = y) : sCond .eq x y = true := decide_eq_true h
theorem k_eqn (h : ¬ x = y) : sCond .eq x y = false := decide_eq_false h
theorem k_ne (h : ¬ x = y) : sCond .ne x y = true := decide_eq_true h
theorem k_nen (h : x = y) : sCond .ne x y = false := decide_eq_false (fun z => z h)
theorem k_lt (h : x < y) : sCond .lt x y = true := decide_eq_true h
theorem k_ltn (h : ¬ x < y) : sCond .lt x y = false := decide_eq_false h
theorem k_ge (h : ¬ x < y) : sCond .ge x y = true := decide_eq_true (Int32.not_lt.mp h)
theorem k_gen (h : x < y) : sCond .ge x y = false := decide_eq_false (fun z => (Int32.not_lt.mpr z) h)
theorem k_gt (h : y < x) : sCond .gt x y = true := decide_eq_true h
theorem k_gtn (h : ¬ y < x) : sCond .gt x y = false := decide_eq_false h
theorem k_le (h : ¬ y < x) : sCond .le x y = true := decide_eq_true (Int32.not_lt.mp h)
theorem k_len (h : y < x) : sCond .le x y = false := decide_eq_false (fun z => (Int32.not_lt.mpr z) h)
theorem bz1 (h : z = true) : bz z = 1 := by rw [h]; rfl
theorem bz0 (h : z = false) : bz z = 0 := by rw [h]; rfl
/-! numbers -/
theorem io_rem (hk : k < 2 ^ 31) (hK : K < 2 ^ 31) : io k - io k / io K * io K = io (k % K) := by
  rw [io_div hk hK, io_mul, io_sub (by have := Nat.div_mul_le_self k K; omega)]
  congr 1
  have := Nat.div_add_mod k K
  rw [Nat.mul_comm] at this
  omega
theorem io_lt' (hk : k < K) (hK : K < 2 ^ 31) : io k < io K := (io_lt (by omega) hK).mpr hk
theorem io_ltn (hk : ¬ k < K) (h1 : k < 2 ^ 31) (hK : K < 2 ^ 31) : ¬ io k < io K := fun z => hk ((io_lt h1 hK).mp z)
theorem io_n0 (hk : k < 2 ^ 31) : ¬ io k < 0 := fun z => Nat.not_lt_zero k ((io_lt (q := 0) hk (by decide)).mp z)
theorem and31 (x : Int32) : ∃ k, k < 2 ^ 31 ∧ x &&& 2147483647 = io k := by
  refine ⟨x.toBitVec.toNat % 2 ^ 31, Nat.mod_lt _ (by decide), ?_⟩
  apply Int32.toBitVec_inj.mp
  apply BitVec.eq_of_toNat_eq
  have h : (x &&& 2147483647).toBitVec = x.toBitVec &&& 2147483647#32 := rfl
  rw [h, BitVec.toNat_and]
  have h2 : (2147483647#32).toNat = 2 ^ 31 - 1 := by decide
  rw [h2, Nat.and_two_pow_sub_one_eq_mod]
  have h3 : (io (x.toBitVec.toNat % 2 ^ 31)).toBitVec.toNat = (x.toBitVec.toNat % 2 ^ 31) % 2 ^ 32 := rfl
  rw [h3]
  exact (Nat.mod_eq_of_lt (Nat.lt_of_lt_of_le (Nat.mod_lt _ (by decide)) (by decide))).symm
end Sxa
