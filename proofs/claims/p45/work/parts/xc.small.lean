/-! the law's small methods (printed by genxc.py) -/
def pf (b x : Nat) : Int32 := if b < 3 then io (96 + x % 9) else io (x % 9) - 4
/-- an order's note: price, size, side -/
def nt (p a : Int32) (s : Bool) : Int32 := p + 600 + 2048 * a + (if s = true then 1048576 else 0)
section Sxc
variable {t t' t0 : sT} {M M' N N' : sM} {n n' T T' A A' B B' g L d e k K b m c E j f n0 : Nat} {xs pA : Nat → Int32} {c0 c1 c2 v w x y p a u : Int32} {Q : sRs → sT → Prop} {s z : Bool} {y4 y5 y6 y7 : sV}
theorem tf0 : tfg M k (io 0) = mA M 21 k := rfl
theorem tf1 : tfg M k (io 1) = mA M 22 k := by unfold tfg; rw [if_neg (by decide), if_pos (by decide)]
theorem tf2 : tfg M k (io 2) = mA M 23 k := by unfold tfg; rw [if_neg (by decide), if_neg (by decide), if_pos (by decide)]
theorem tf4 : tfg M k (io 4) = mA M 25 k := by unfold tfg; rw [if_neg (by decide), if_neg (by decide), if_neg (by decide), if_neg (by decide), if_pos (by decide)]
theorem tf5 : tfg M k (io 5) = bz (mB M 7 k) := by unfold tfg; rw [if_neg (by decide), if_neg (by decide), if_neg (by decide), if_neg (by decide), if_neg (by decide)]
theorem w_draw (h : La t M n T (A) (B) xs L pA c0 c1 c2) (hk : k < L) (hL31 : L < 2 ^ 31) (q : Q (.inl (some (.inl (xs k &&& 2147483647)))) t) : X 259 0 [.inr (.inr (29, (some 0))), .inl (io k)] [] t Q := by
  refine x_iload_n (pc' := 1) rfl rfl rfl ?_
  refine x_aload_n (pc' := 2) rfl rfl rfl rfl rfl ?_
  refine x_alen (pc' := 3) (N := L) rfl rfl rfl (La_len h) ?_
  refine x_icmp (a' := 15) (pc' := 6) (z := false) rfl rfl rfl (k_gen (io_lt' hk hL31)) (fun h => by cases h) (fun _ => ?_)
  refine x_aload_n (pc' := 7) rfl rfl rfl rfl rfl ?_
  refine x_iload_n (pc' := 8) rfl rfl rfl ?_
  refine x_iald (pc' := 9) (N := L) (x := xs k) rfl rfl rfl (La_len h) (io_in (p := k) (N := L) hk hL31) (La_xs h hk hL31) ?_
  refine x_ldc (pc' := 11) rfl rfl ?_
  refine x_iand (pc' := 12) (z := (xs k &&& 2147483647)) rfl rfl rfl ?_
  refine x_goto (pc' := 24) rfl rfl ?_
  exact x_reti rfl rfl q
theorem w_drawo (h : La t M n T (A) (B) xs L pA c0 c1 c2) (hk : ¬ k < L) (hk9 : k < 10) (hL31 : L < 2 ^ 31) (q : Q (.inl (some (.inl (io (104729 * (k + 2) % 65521))))) t) : X 259 0 [.inr (.inr (29, (some 0))), .inl (io k)] [] t Q := by
  refine x_iload_n (pc' := 1) rfl rfl rfl ?_
  refine x_aload_n (pc' := 2) rfl rfl rfl rfl rfl ?_
  refine x_alen (pc' := 3) (N := L) rfl rfl rfl (La_len h) ?_
  refine x_icmp (a' := 15) (pc' := 6) (z := true) rfl rfl rfl (k_ge (io_ltn hk (by omega) hL31)) (fun _ => ?_) (fun h => by cases h)
  refine x_ldc (pc' := 17) rfl rfl ?_
  refine x_iload_n (pc' := 18) rfl rfl rfl ?_
  refine x_iconst (pc' := 19) rfl rfl ?_
  refine x_iadd (pc' := 20) (z := (io (k + 2))) rfl rfl (io_add k 2) ?_
  refine x_imul (pc' := 21) (z := (io (104729 * (k + 2)))) rfl rfl (io_mul 104729 (k + 2)) ?_
  refine x_ldc (pc' := 23) rfl rfl ?_
  refine x_irem (pc' := 24) (z := (io (104729 * (k + 2) % 65521))) rfl rfl (by decide) (io_rem (k := 104729 * (k + 2)) (K := 65521) (by omega) (by decide)) ?_
  exact x_reti rfl rfl q
theorem w_271a (hb : b < 3) (hb5 : b < 5) (hf : f < 2 ^ 31) (q : Q (.inl (some (.inl (pf b f)))) t) : X 271 0 [.inl (io b), .inl (io f)] [] t Q := by
  refine x_iload_n (pc' := 1) rfl rfl rfl ?_
  refine x_iconst (pc' := 2) rfl rfl ?_
  refine x_icmp (a' := 15) (pc' := 5) (z := false) rfl rfl rfl (k_gen (io_lt' (K := 3) hb (by decide))) (fun h => by cases h) (fun _ => ?_)
  refine x_bipush (pc' := 7) rfl rfl ?_
  refine x_iload_n (pc' := 8) rfl rfl rfl ?_
  refine x_bipush (pc' := 10) rfl rfl ?_
  refine x_irem (pc' := 11) (z := (io (f % 9))) rfl rfl (by decide) (io_rem hf (by decide)) ?_
  refine x_iadd (pc' := 12) (z := (io (96 + f % 9))) rfl rfl (io_add 96 (f % 9)) ?_
  refine x_goto (pc' := 21) rfl rfl ?_
  refine x_reti rfl rfl ?_
  unfold pf at q
  rw [if_pos hb] at q
  exact q
theorem w_271b (hb : ¬ b < 3) (hb5 : b < 5) (hf : f < 2 ^ 31) (q : Q (.inl (some (.inl (pf b f)))) t) : X 271 0 [.inl (io b), .inl (io f)] [] t Q := by
  refine x_iload_n (pc' := 1) rfl rfl rfl ?_
  refine x_iconst (pc' := 2) rfl rfl ?_
  refine x_icmp (a' := 15) (pc' := 5) (z := true) rfl rfl rfl (k_ge (io_ltn (K := 3) hb (by omega) (by decide))) (fun _ => ?_) (fun h => by cases h)
  refine x_iload_n (pc' := 16) rfl rfl rfl ?_
  refine x_bipush (pc' := 18) rfl rfl ?_
  refine x_irem (pc' := 19) (z := (io (f % 9))) rfl rfl (by decide) (io_rem hf (by decide)) ?_
  refine x_iconst (pc' := 20) rfl rfl ?_
  refine x_isub (pc' := 21) (z := (io (f % 9) - 4)) rfl rfl rfl ?_
  refine x_reti rfl rfl ?_
  unfold pf at q
  rw [if_neg hb] at q
  exact q
theorem w_271 (hb5 : b < 5) (hf : f < 2 ^ 31) (q : Q (.inl (some (.inl (pf b f)))) t) : X 271 0 [.inl (io b), .inl (io f)] [] t Q := by
  by_cases hb : b < 3
  · exact w_271a hb hb5 hf q
  · exact w_271b hb hb5 hf q
theorem w_270n (h : La t M n T (A) (B) xs L pA c0 c1 c2) (hc : c0 = io n) (hv : v < 0) (q : ∀ t', La t' M n T (A + 2) (B + 12) xs L pA c0 c1 c2 → Q (.inl (some (.inl (bz true)))) t') : X 270 0 [.inr (.inr (11, (some 0))), .inr (.inr (21, (some 0))), .inr (.inr (21, (some 1))), .inl v, .inl p, .inl a, .inl (bz s)] [] t Q := by
  refine x_iload_n (pc' := 1) rfl rfl rfl ?_
  refine x_if (a' := 20) (pc' := 4) (z := false) rfl rfl rfl (k_gen hv) (fun h => by cases h) (fun _ => ?_)
  refine x_aload_n (pc' := 5) rfl rfl rfl rfl rfl ?_
  refine x_cv (ls0 := [_]) (rest := []) rfl rfl rfl rfl rfl ?_
  refine q103 h (fun t1 h1 => ?_)
  refine sK_i (pc' := 8) rfl ?_
  refine x_aload_n (pc' := 9) rfl rfl rfl rfl rfl ?_
  refine x_iconst (pc' := 10) rfl rfl ?_
  refine x_iald (pc' := 11) (N := 3) (x := c0) rfl rfl rfl (La_n1 h1) (by decide) (La_c0 h1) ?_
  rw [hc]
  refine x_icmp (a' := 18) (pc' := 14) (z := false) rfl rfl rfl (k_nen rfl) (fun h => by cases h) (fun _ => ?_)
  refine x_iconst (pc' := 15) rfl rfl ?_
  refine x_goto (pc' := 19) rfl rfl ?_
  exact x_retz (z := true) rfl rfl (q _ h1)
theorem io_s1n : io (n0 + 1) - 1 = io n0 := by
  show Int32.ofNat (n0 + 1) - 1 = _
  rw [Int32.ofNat_add]
  exact Int32.add_sub_cancel _ _
theorem w_270e (h : La t M n T (A) (B) xs L pA (io n0) c1 c2) (hn : n0 < 1000) (q : ∀ t', La t' M n T (A) (B) xs L pA (io (n0 + 1)) c1 c2 → Q (.inl (some (.inl (bz true)))) t') : X 270 54 [.inr (.inr (11, (some 0))), .inr (.inr (21, (some 0))), .inr (.inr (21, (some 1))), .inl (io n0), .inl p, .inl a, .inl (bz s)] [] t Q := by
  refine x_aload_n (pc' := 55) rfl rfl rfl rfl rfl ?_
  refine x_iconst (pc' := 56) rfl rfl ?_
  refine x_dup2 (pc' := 57) rfl rfl rfl rfl ?_
  refine x_iald (pc' := 58) (N := 3) (x := (io n0)) rfl rfl rfl (La_n1 h) (by decide) (La_c0 h) ?_
  refine x_iconst (pc' := 59) rfl rfl ?_
  refine x_iadd (pc' := 60) (z := (io (n0 + 1))) rfl rfl (io_add n0 1) ?_
  refine x_iast (pc' := 61) (N := 3) (p := 0) rfl rfl rfl (La_n1 h) (by decide) (by decide) ?_
  have h1 := La_wc0 (v := (io (n0 + 1))) h
  refine x_iload_n (pc' := 62) rfl rfl rfl ?_
  refine x_aload_n (pc' := 63) rfl rfl rfl rfl rfl ?_
  refine x_iconst (pc' := 64) rfl rfl ?_
  refine x_iald (pc' := 65) (N := 3) (x := (io (n0 + 1))) rfl rfl rfl (La_n1 h1) (by decide) (La_c0 h1) ?_
  refine x_iconst (pc' := 66) rfl rfl ?_
  refine x_isub (pc' := 67) (z := (io n0)) rfl rfl io_s1n ?_
  refine x_icmp (a' := 74) (pc' := 70) (z := false) rfl rfl rfl (k_nen rfl) (fun h => by cases h) (fun _ => ?_)
  refine x_iconst (pc' := 71) rfl rfl ?_
  refine x_goto (pc' := 75) rfl rfl ?_
  exact x_retz (z := true) rfl rfl (q _ h1)
theorem w_270 (h : La t M n T (A) (B) xs L pA (io n0) c1 c2) (hn : n0 < 1000) (q : ∀ t', La t' M n T (A) (B) xs L (pW pA n0 (nt p a s)) (io (n0 + 1)) c1 c2 → Q (.inl (some (.inl (bz true)))) t') : X 270 0 [.inr (.inr (11, (some 0))), .inr (.inr (21, (some 0))), .inr (.inr (21, (some 1))), .inl (io n0), .inl p, .inl a, .inl (bz s)] [] t Q := by
  refine x_iload_n (pc' := 1) rfl rfl rfl ?_
  refine x_if (a' := 20) (pc' := 4) (z := true) rfl rfl rfl (k_ge (io_n0 (by omega))) (fun _ => ?_) (fun h => by cases h)
  refine x_iload_n (pc' := 21) rfl rfl rfl ?_
  refine x_bipush (pc' := 23) rfl rfl ?_
  by_cases hk : n0 < 64
  · skip
    refine x_icmp (a' := 54) (pc' := 26) (z := false) rfl rfl rfl (k_gen (io_lt' hk (by decide))) (fun h => by cases h) (fun _ => ?_)
    refine x_aload_n (pc' := 27) rfl rfl rfl rfl rfl ?_
    refine x_iload_n (pc' := 28) rfl rfl rfl ?_
    refine x_iload (pc' := 30) rfl rfl rfl ?_
    refine x_sipush (pc' := 33) rfl rfl ?_
    refine x_iadd (pc' := 34) (z := (p + 600)) rfl rfl rfl ?_
    refine x_sipush (pc' := 37) rfl rfl ?_
    refine x_iload (pc' := 39) rfl rfl rfl ?_
    refine x_imul (pc' := 40) (z := (2048 * a)) rfl rfl rfl ?_
    refine x_iadd (pc' := 41) (z := (p + 600 + 2048 * a)) rfl rfl rfl ?_
    refine x_iload (pc' := 43) rfl rfl rfl ?_
    have J : X 270 53 [.inr (.inr (11, (some 0))), .inr (.inr (21, (some 0))), .inr (.inr (21, (some 1))), .inl (io n0), .inl p, .inl a, .inl (bz s)] [.inl (p + 600 + 2048 * a + (if s = true then 1048576 else 0)), .inl (io n0), .inr (.inr (21, (some 0)))] t Q := by
      refine x_iast (pc' := 54) (N := 64) (p := n0) rfl rfl rfl (La_n0 h) (io_in (p := n0) (N := 64) hk (by decide)) (nn_io (p := n0) (Nat.lt_trans hk (by decide))) ?_
      have h1 := La_wp (k := n0) (v := (p + 600 + 2048 * a + (if s = true then 1048576 else 0))) h
      exact w_270e h1 hn q
    cases s with
    | false =>
      refine x_if (a' := 51) (pc' := 46) (z := true) rfl rfl rfl (by decide) (fun _ => ?_) (fun h => by cases h)
      refine x_iconst (pc' := 52) rfl rfl ?_
      refine x_iadd (pc' := 53) (z := p + 600 + 2048 * a + (if false = true then 1048576 else 0)) rfl rfl rfl ?_
      exact J
    | true =>
      refine x_if (a' := 51) (pc' := 46) (z := false) rfl rfl rfl (by decide) (fun h => by cases h) (fun _ => ?_)
      refine x_ldc (pc' := 48) rfl rfl ?_
      refine x_goto (pc' := 52) rfl rfl ?_
      refine x_iadd (pc' := 53) (z := p + 600 + 2048 * a + (if true = true then 1048576 else 0)) rfl rfl rfl ?_
      exact J
  · skip
    refine x_icmp (a' := 54) (pc' := 26) (z := true) rfl rfl rfl (k_ge (io_ltn hk (by omega) (by decide))) (fun _ => ?_) (fun h => by cases h)
    exact w_270e (La_pge h (by omega)) hn q
/-- a trade's figures are right -/
def Tok (M : sM) (T : Nat) : Prop := ∀ k, k < T → ((¬ mA M 21 k < 0) ∧ mA M 21 k < 3) ∧ ((¬ mA M 22 k < 0) ∧ mA M 22 k < 6) ∧ ((¬ mA M 23 k < 0) ∧ mA M 23 k < 6) ∧ 0 < mA M 25 k
theorem w_277t (h : La t M n T (A) (B) xs L pA c0 c1 c2) (hO : Tok M T) (hk : k < T) (q : ∀ t', La t' M n T (A + 30) (B + 180) xs L pA c0 c1 c2 → X 277 4 [.inr (.inr (11, (some 0))), .inl (io f), .inl 1, .inl (io (k + 1))] [] t' Q) : X 277 4 [.inr (.inr (11, (some 0))), .inl (io f), .inl 1, .inl (io k)] [] t Q := by
  refine x_iload_n (pc' := 5) rfl rfl rfl ?_
  refine x_aload_n (pc' := 6) rfl rfl rfl rfl rfl ?_
  refine x_cv (ls0 := [_]) (rest := [_]) rfl rfl rfl rfl rfl ?_
  refine q114 h (fun t1 h1 => ?_)
  refine sK_i (pc' := 9) rfl ?_
  have hT := tr_in h
  refine x_icmp (a' := 115) (pc' := 12) (z := false) rfl rfl rfl (k_gen (io_lt' hk (by omega))) (fun h => by cases h) (fun _ => ?_)
  refine x_iload_n (pc' := 13) rfl rfl rfl ?_
  refine x_if (a' := 115) (pc' := 16) (z := false) rfl rfl rfl (by decide) (fun h => by cases h) (fun _ => ?_)
  obtain ⟨⟨a1, a2⟩, ⟨b1, b2⟩, ⟨d1, d2⟩, e1⟩ := hO k hk
  refine x_aload_n (pc' := 17) rfl rfl rfl rfl rfl ?_
  refine x_iload_n (pc' := 18) rfl rfl rfl ?_
  refine x_iconst (pc' := 19) rfl rfl ?_
  refine x_cv (ls0 := [_, _, _, sJk]) (rest := []) rfl rfl rfl rfl rfl ?_
  refine q115 h1 hk (j := 0) (by decide) (fun t2 h2 => ?_)
  refine sK_i (pc' := 22) rfl ?_
  rw [tf0]
  refine x_if (a' := 107) (pc' := 25) (z := false) rfl rfl rfl (k_ltn a1) (fun h => by cases h) (fun _ => ?_)
  refine x_aload_n (pc' := 26) rfl rfl rfl rfl rfl ?_
  refine x_iload_n (pc' := 27) rfl rfl rfl ?_
  refine x_iconst (pc' := 28) rfl rfl ?_
  refine x_cv (ls0 := [_, _, _, sJk]) (rest := []) rfl rfl rfl rfl rfl ?_
  refine q115 h2 hk (j := 0) (by decide) (fun t3 h3 => ?_)
  refine sK_i (pc' := 31) rfl ?_
  rw [tf0]
  refine x_iconst (pc' := 32) rfl rfl ?_
  refine x_icmp (a' := 107) (pc' := 35) (z := false) rfl rfl rfl (k_gen a2) (fun h => by cases h) (fun _ => ?_)
  refine x_aload_n (pc' := 36) rfl rfl rfl rfl rfl ?_
  refine x_iload_n (pc' := 37) rfl rfl rfl ?_
  refine x_iconst (pc' := 38) rfl rfl ?_
  refine x_cv (ls0 := [_, _, _, sJk]) (rest := []) rfl rfl rfl rfl rfl ?_
  refine q115 h3 hk (j := 1) (by decide) (fun t4 h4 => ?_)
  refine sK_i (pc' := 41) rfl ?_
  rw [tf1]
  refine x_if (a' := 107) (pc' := 44) (z := false) rfl rfl rfl (k_ltn b1) (fun h => by cases h) (fun _ => ?_)
  refine x_aload_n (pc' := 45) rfl rfl rfl rfl rfl ?_
  refine x_iload_n (pc' := 46) rfl rfl rfl ?_
  refine x_iconst (pc' := 47) rfl rfl ?_
  refine x_cv (ls0 := [_, _, _, sJk]) (rest := []) rfl rfl rfl rfl rfl ?_
  refine q115 h4 hk (j := 1) (by decide) (fun t5 h5 => ?_)
  refine sK_i (pc' := 50) rfl ?_
  rw [tf1]
  refine x_bipush (pc' := 52) rfl rfl ?_
  refine x_icmp (a' := 107) (pc' := 55) (z := false) rfl rfl rfl (k_gen b2) (fun h => by cases h) (fun _ => ?_)
  refine x_aload_n (pc' := 56) rfl rfl rfl rfl rfl ?_
  refine x_iload_n (pc' := 57) rfl rfl rfl ?_
  refine x_iconst (pc' := 58) rfl rfl ?_
  refine x_cv (ls0 := [_, _, _, sJk]) (rest := []) rfl rfl rfl rfl rfl ?_
  refine q115 h5 hk (j := 2) (by decide) (fun t6 h6 => ?_)
  refine sK_i (pc' := 61) rfl ?_
  rw [tf2]
  refine x_if (a' := 107) (pc' := 64) (z := false) rfl rfl rfl (k_ltn d1) (fun h => by cases h) (fun _ => ?_)
  refine x_aload_n (pc' := 65) rfl rfl rfl rfl rfl ?_
  refine x_iload_n (pc' := 66) rfl rfl rfl ?_
  refine x_iconst (pc' := 67) rfl rfl ?_
  refine x_cv (ls0 := [_, _, _, sJk]) (rest := []) rfl rfl rfl rfl rfl ?_
  refine q115 h6 hk (j := 2) (by decide) (fun t7 h7 => ?_)
  refine sK_i (pc' := 70) rfl ?_
  rw [tf2]
  refine x_bipush (pc' := 72) rfl rfl ?_
  refine x_icmp (a' := 107) (pc' := 75) (z := false) rfl rfl rfl (k_gen d2) (fun h => by cases h) (fun _ => ?_)
  refine x_aload_n (pc' := 76) rfl rfl rfl rfl rfl ?_
  refine x_iload_n (pc' := 77) rfl rfl rfl ?_
  refine x_iconst (pc' := 78) rfl rfl ?_
  refine x_cv (ls0 := [_, _, _, sJk]) (rest := []) rfl rfl rfl rfl rfl ?_
  refine q115 h7 hk (j := 4) (by decide) (fun t8 h8 => ?_)
  refine sK_i (pc' := 81) rfl ?_
  rw [tf4]
  refine x_if (a' := 107) (pc' := 84) (z := false) rfl rfl rfl (k_len e1) (fun h => by cases h) (fun _ => ?_)
  refine x_aload_n (pc' := 85) rfl rfl rfl rfl rfl ?_
  refine x_iload_n (pc' := 86) rfl rfl rfl ?_
  refine x_iconst (pc' := 87) rfl rfl ?_
  refine x_cv (ls0 := [_, _, _, sJk]) (rest := []) rfl rfl rfl rfl rfl ?_
  refine q115 h8 hk (j := 5) (by decide) (fun t9 h9 => ?_)
  refine sK_i (pc' := 90) rfl ?_
  rw [tf5]
  refine x_if (a' := 107) (pc' := 93) (z := false) rfl rfl rfl (k_ltn (by cases mB M 7 k <;> decide)) (fun h => by cases h) (fun _ => ?_)
  refine x_aload_n (pc' := 94) rfl rfl rfl rfl rfl ?_
  refine x_iload_n (pc' := 95) rfl rfl rfl ?_
  refine x_iconst (pc' := 96) rfl rfl ?_
  refine x_cv (ls0 := [_, _, _, sJk]) (rest := []) rfl rfl rfl rfl rfl ?_
  refine q115 h9 hk (j := 5) (by decide) (fun t10 h10 => ?_)
  refine sK_i (pc' := 99) rfl ?_
  rw [tf5]
  refine x_iconst (pc' := 100) rfl rfl ?_
  refine x_icmp (a' := 107) (pc' := 103) (z := false) rfl rfl rfl (k_gen (by cases mB M 7 k <;> decide)) (fun h => by cases h) (fun _ => ?_)
  refine x_iconst (pc' := 104) rfl rfl ?_
  refine x_goto (pc' := 108) rfl rfl ?_
  refine x_istore_n (pc' := 109) (ls' := [_, _, _, _]) rfl rfl rfl rfl ?_
  refine x_iinc (pc' := 112) (y := (io (k + 1))) (ls' := [_, _, _, _]) rfl rfl rfl (io_add k 1) rfl ?_
  refine x_goto (pc' := 4) rfl rfl ?_
  exact q _ (La_mono h10 (by omega) (by omega))
theorem w_277e (h : La t M n T (A) (B) xs L pA c0 c1 c2) (q : ∀ t', La t' M n T (A + 2) (B + 12) xs L pA c0 c1 c2 → Q (.inl (some (.inl (bz true)))) t') : X 277 4 [.inr (.inr (11, (some 0))), .inl (io f), .inl 1, .inl (io T)] [] t Q := by
  refine x_iload_n (pc' := 5) rfl rfl rfl ?_
  refine x_aload_n (pc' := 6) rfl rfl rfl rfl rfl ?_
  refine x_cv (ls0 := [_]) (rest := [_]) rfl rfl rfl rfl rfl ?_
  refine q114 h (fun t1 h1 => ?_)
  refine sK_i (pc' := 9) rfl ?_
  have hT := tr_in h
  refine x_icmp (a' := 115) (pc' := 12) (z := true) rfl rfl rfl (k_ge (io_ltn (Nat.lt_irrefl T) (by omega) (by omega))) (fun _ => ?_) (fun h => by cases h)
  refine x_iload_n (pc' := 116) rfl rfl rfl ?_
  exact x_retz (z := true) rfl rfl (q _ h1)
theorem w_277l (hO : Tok M T) : ∀ (d k : Nat) (t : sT) (A B : Nat), k + d = T → La t M n T (A) (B) xs L pA c0 c1 c2 → (q : ∀ t', La t' M n T (A + 30 * d + 2) (B + 180 * d + 12) xs L pA c0 c1 c2 → Q (.inl (some (.inl (bz true)))) t') → X 277 4 [.inr (.inr (11, (some 0))), .inl (io f), .inl 1, .inl (io k)] [] t Q
  | 0, k, t, A, B, hd, h, q => by
    have e : k = T := hd
    subst e
    exact w_277e h q
  | d + 1, k, t, A, B, hd, h, q => w_277t h hO (by omega) (fun t' h' => w_277l hO d (k + 1) t' _ _ (by omega) h' (fun t2 h2 => q t2 (La_mono h2 (by omega) (by omega))))
theorem w_277 (h : La t M n T (A) (B) xs L pA c0 c1 c2) (hO : Tok M T) (hf : f ≤ T) (q : ∀ t', La t' M n T (A + 30 * (T - f) + 2) (B + 180 * (T - f) + 12) xs L pA c0 c1 c2 → Q (.inl (some (.inl (bz true)))) t') : X 277 0 [.inr (.inr (11, (some 0))), .inl (io f), sJk, sJk] [] t Q := by
  refine x_iconst (pc' := 1) rfl rfl ?_
  refine x_istore_n (pc' := 2) (ls' := [_, _, _, _]) rfl rfl rfl rfl ?_
  refine x_iload_n (pc' := 3) rfl rfl rfl ?_
  refine x_istore_n (pc' := 4) (ls' := [_, _, _, _]) rfl rfl rfl rfl ?_
  exact w_277l hO (T - f) f t A B (by omega) h q
/-- an order is as the law's note of it says -/
def Ook (M : sM) (pA : Nat → Int32) (k : Nat) : Prop := ∃ sz lf sh : Nat, (pA k - pA k / 1048576 * 1048576) / 2048 = io sz ∧ mA M 15 k = io lf ∧ mA M 17 k = io sh ∧ lf ≤ sz ∧ sz ≤ 100 ∧ sh ≤ lf ∧ (mA M 19 k = 2 ↔ lf = 0) ∧ (mA M 19 k = 1 ↔ 0 < sh) ∧ (¬ mA M 19 k < 0) ∧ ¬ 3 < mA M 19 k
theorem w_276t (h : La t M n T (A) (B) xs L pA (io n) c1 c2) (hO : Ook M pA k) (hk : k < n) (hk64 : k < 64) (q : ∀ t' y5 y6 y7, La t' M n T (A + 12) (B + 72) xs L pA (io n) c1 c2 → X 276 5 [.inr (.inr (11, (some 0))), .inr (.inr (21, (some 0))), .inr (.inr (21, (some 1))), .inl 1, .inl (io (k + 1)), y5, y6, y7] [] t' Q) : X 276 5 [.inr (.inr (11, (some 0))), .inr (.inr (21, (some 0))), .inr (.inr (21, (some 1))), .inl 1, .inl (io k), y5, y6, y7] [] t Q := by
  refine x_iload (pc' := 7) rfl rfl rfl ?_
  refine x_aload_n (pc' := 8) rfl rfl rfl rfl rfl ?_
  refine x_iconst (pc' := 9) rfl rfl ?_
  refine x_iald (pc' := 10) (N := 3) (x := (io n)) rfl rfl rfl (La_n1 h) (by decide) (La_c0 h) ?_
  have hn := La_n h
  refine x_icmp (a' := 151) (pc' := 13) (z := false) rfl rfl rfl (k_gen (io_lt' hk (by omega))) (fun h => by cases h) (fun _ => ?_)
  refine x_iload (pc' := 15) rfl rfl rfl ?_
  refine x_bipush (pc' := 17) rfl rfl ?_
  refine x_icmp (a' := 151) (pc' := 20) (z := false) rfl rfl rfl (k_gen (io_lt' hk64 (by decide))) (fun h => by cases h) (fun _ => ?_)
  refine x_iload_n (pc' := 21) rfl rfl rfl ?_
  refine x_if (a' := 151) (pc' := 24) (z := false) rfl rfl rfl (by decide) (fun h => by cases h) (fun _ => ?_)
  obtain ⟨sz, lf, sh, e1, e2, e3, g1, g2, g3, g4, g5, g6, g7⟩ := hO
  refine x_aload_n (pc' := 25) rfl rfl rfl rfl rfl ?_
  refine x_iload (pc' := 27) rfl rfl rfl ?_
  refine x_iald (pc' := 28) (N := 64) (x := pA k) rfl rfl rfl (La_n0 h) (io_in (p := k) (N := 64) hk64 (by decide)) (La_p h hk64) ?_
  refine x_ldc (pc' := 30) rfl rfl ?_
  refine x_irem (pc' := 31) (z := (pA k - pA k / 1048576 * 1048576)) rfl rfl (by decide) rfl ?_
  refine x_sipush (pc' := 34) rfl rfl ?_
  refine x_idiv (pc' := 35) (z := (io sz)) rfl rfl (by decide) e1 ?_
  refine x_istore (pc' := 37) (ls' := [_, _, _, _, _, _, _, _]) rfl rfl rfl rfl ?_
  refine x_aload_n (pc' := 38) rfl rfl rfl rfl rfl ?_
  refine x_iload (pc' := 40) rfl rfl rfl ?_
  refine x_cv (ls0 := [_, _]) (rest := []) rfl rfl rfl rfl rfl ?_
  refine q104 h hk (fun t1 h1 => ?_)
  refine sK_i (pc' := 43) rfl ?_
  refine x_istore (pc' := 45) (ls' := [_, _, _, _, _, _, _, _]) rfl rfl rfl rfl ?_
  refine x_aload_n (pc' := 46) rfl rfl rfl rfl rfl ?_
  refine x_iload (pc' := 48) rfl rfl rfl ?_
  refine x_cv (ls0 := [_, _]) (rest := []) rfl rfl rfl rfl rfl ?_
  refine q105 h1 hk (fun t2 h2 => ?_)
  refine sK_i (pc' := 51) rfl ?_
  rw [e2]
  refine x_istore (pc' := 53) (ls' := [_, _, _, _, _, _, _, _]) rfl rfl rfl rfl ?_
  refine x_iload (pc' := 55) rfl rfl rfl ?_
  refine x_if (a' := 143) (pc' := 58) (z := false) rfl rfl rfl (k_ltn (io_n0 (by omega))) (fun h => by cases h) (fun _ => ?_)
  refine x_iload (pc' := 60) rfl rfl rfl ?_
  refine x_iload (pc' := 62) rfl rfl rfl ?_
  refine x_icmp (a' := 143) (pc' := 65) (z := false) rfl rfl rfl (k_gtn (io_ltn (k := sz) (K := lf) (by omega) (by omega) (by omega))) (fun h => by cases h) (fun _ => ?_)
  have J1 : X 276 89 [.inr (.inr (11, (some 0))), .inr (.inr (21, (some 0))), .inr (.inr (21, (some 1))), .inl 1, .inl (io k), .inl (io sz), .inl (mA M 19 k), .inl (io lf)] [] t2 Q := by
    refine x_aload_n (pc' := 90) rfl rfl rfl rfl rfl ?_
    refine x_iload (pc' := 92) rfl rfl rfl ?_
    refine x_cv (ls0 := [_, _, sJk]) (rest := []) rfl rfl rfl rfl rfl ?_
    refine q106 h2 hk (fun t3 h3 => ?_)
    refine sK_i (pc' := 95) rfl ?_
    rw [e3]
    refine x_iload (pc' := 97) rfl rfl rfl ?_
    refine x_icmp (a' := 143) (pc' := 100) (z := false) rfl rfl rfl (k_gtn (io_ltn (k := lf) (K := sh) (by omega) (by omega) (by omega))) (fun h => by cases h) (fun _ => ?_)
    have J2 : ∀ t4, La t4 M n T (A + 2 + 2 + 2 + 2) (B + 12 + 12 + 12 + 12) xs L pA (io n) c1 c2 → X 276 128 [.inr (.inr (11, (some 0))), .inr (.inr (21, (some 0))), .inr (.inr (21, (some 1))), .inl 1, .inl (io k), .inl (io sz), .inl (mA M 19 k), .inl (io lf)] [] t4 Q := fun t4 h4 => by
      refine x_iload (pc' := 130) rfl rfl rfl ?_
      refine x_if (a' := 143) (pc' := 133) (z := false) rfl rfl rfl (k_ltn g6) (fun h => by cases h) (fun _ => ?_)
      refine x_iload (pc' := 135) rfl rfl rfl ?_
      refine x_iconst (pc' := 136) rfl rfl ?_
      refine x_icmp (a' := 143) (pc' := 139) (z := false) rfl rfl rfl (k_gtn g7) (fun h => by cases h) (fun _ => ?_)
      refine x_iconst (pc' := 140) rfl rfl ?_
      refine x_goto (pc' := 144) rfl rfl ?_
      refine x_istore_n (pc' := 145) (ls' := [_, _, _, _, _, _, _, _]) rfl rfl rfl rfl ?_
      refine x_iinc (pc' := 148) (y := (io (k + 1))) (ls' := [_, _, _, _, _, _, _, _]) rfl rfl rfl (io_add k 1) rfl ?_
      refine x_goto (pc' := 5) rfl rfl ?_
      exact q _ _ _ _ (La_mono h4 (by omega) (by omega))
    refine x_iload (pc' := 102) rfl rfl rfl ?_
    refine x_iconst (pc' := 103) rfl rfl ?_
    by_cases hs : mA M 19 k = 1
    · skip
      refine x_icmp (a' := 110) (pc' := 106) (z := false) rfl rfl rfl (k_nen hs) (fun h => by cases h) (fun _ => ?_)
      refine x_iconst (pc' := 107) rfl rfl ?_
      refine x_goto (pc' := 111) rfl rfl ?_
      refine x_aload_n (pc' := 112) rfl rfl rfl rfl rfl ?_
      refine x_iload (pc' := 114) rfl rfl rfl ?_
      refine x_cv (ls0 := [_, _, sJk]) (rest := [_]) rfl rfl rfl rfl rfl ?_
      refine q106 h3 hk (fun t4 h4 => ?_)
      refine sK_i (pc' := 117) rfl ?_
      rw [e3]
      refine x_if (a' := 124) (pc' := 120) (z := false) rfl rfl rfl (k_len (io_lt' (k := 0) (g5.mp hs) (by omega))) (fun h => by cases h) (fun _ => ?_)
      refine x_iconst (pc' := 121) rfl rfl ?_
      refine x_goto (pc' := 125) rfl rfl ?_
      refine x_icmp (a' := 143) (pc' := 128) (z := false) rfl rfl rfl (by decide) (fun h => by cases h) (fun _ => ?_)
      exact J2 _ h4
    · skip
      refine x_icmp (a' := 110) (pc' := 106) (z := true) rfl rfl rfl (k_ne hs) (fun _ => ?_) (fun h => by cases h)
      refine x_iconst (pc' := 111) rfl rfl ?_
      refine x_aload_n (pc' := 112) rfl rfl rfl rfl rfl ?_
      refine x_iload (pc' := 114) rfl rfl rfl ?_
      refine x_cv (ls0 := [_, _, sJk]) (rest := [_]) rfl rfl rfl rfl rfl ?_
      refine q106 h3 hk (fun t4 h4 => ?_)
      refine sK_i (pc' := 117) rfl ?_
      rw [e3]
      refine x_if (a' := 124) (pc' := 120) (z := true) rfl rfl rfl (k_le (fun z => hs (g5.mpr ((io_lt (p := 0) (q := sh) (by decide) (by omega)).mp z)))) (fun _ => ?_) (fun h => by cases h)
      refine x_iconst (pc' := 125) rfl rfl ?_
      refine x_icmp (a' := 143) (pc' := 128) (z := false) rfl rfl rfl (by decide) (fun h => by cases h) (fun _ => ?_)
      exact J2 _ h4
  refine x_iload (pc' := 67) rfl rfl rfl ?_
  refine x_iconst (pc' := 68) rfl rfl ?_
  by_cases hs : mA M 19 k = 2
  · skip
    refine x_icmp (a' := 75) (pc' := 71) (z := false) rfl rfl rfl (k_nen hs) (fun h => by cases h) (fun _ => ?_)
    refine x_iconst (pc' := 72) rfl rfl ?_
    refine x_goto (pc' := 76) rfl rfl ?_
    refine x_iload (pc' := 78) rfl rfl rfl ?_
    refine x_if (a' := 85) (pc' := 81) (z := false) rfl rfl rfl (k_nen (by rw [g4.mp hs]; rfl)) (fun h => by cases h) (fun _ => ?_)
    refine x_iconst (pc' := 82) rfl rfl ?_
    refine x_goto (pc' := 86) rfl rfl ?_
    refine x_icmp (a' := 143) (pc' := 89) (z := false) rfl rfl rfl (by decide) (fun h => by cases h) (fun _ => ?_)
    exact J1
  · skip
    refine x_icmp (a' := 75) (pc' := 71) (z := true) rfl rfl rfl (k_ne hs) (fun _ => ?_) (fun h => by cases h)
    refine x_iconst (pc' := 76) rfl rfl ?_
    refine x_iload (pc' := 78) rfl rfl rfl ?_
    refine x_if (a' := 85) (pc' := 81) (z := true) rfl rfl rfl (k_ne (fun z => hs (g4.mpr ((io_inj (q := 0) (by omega) (by decide)).mp z)))) (fun _ => ?_) (fun h => by cases h)
    refine x_iconst (pc' := 86) rfl rfl ?_
    refine x_icmp (a' := 143) (pc' := 89) (z := false) rfl rfl rfl (by decide) (fun h => by cases h) (fun _ => ?_)
    exact J1
theorem w_276e (h : La t M n T (A) (B) xs L pA (io n) c1 c2) (hk : ¬ (k < n ∧ k < 64)) (hk9 : k < 1000) (q : Q (.inl (some (.inl (bz true)))) t) : X 276 5 [.inr (.inr (11, (some 0))), .inr (.inr (21, (some 0))), .inr (.inr (21, (some 1))), .inl 1, .inl (io k), y5, y6, y7] [] t Q := by
  refine x_iload (pc' := 7) rfl rfl rfl ?_
  refine x_aload_n (pc' := 8) rfl rfl rfl rfl rfl ?_
  refine x_iconst (pc' := 9) rfl rfl ?_
  refine x_iald (pc' := 10) (N := 3) (x := (io n)) rfl rfl rfl (La_n1 h) (by decide) (La_c0 h) ?_
  have hn := La_n h
  by_cases hk : k < n
  · skip
    refine x_icmp (a' := 151) (pc' := 13) (z := false) rfl rfl rfl (k_gen (io_lt' hk (by omega))) (fun h => by cases h) (fun _ => ?_)
    refine x_iload (pc' := 15) rfl rfl rfl ?_
    refine x_bipush (pc' := 17) rfl rfl ?_
    refine x_icmp (a' := 151) (pc' := 20) (z := true) rfl rfl rfl (k_ge (io_ltn (K := 64) (by omega) (by omega) (by decide))) (fun _ => ?_) (fun h => by cases h)
    refine x_iload_n (pc' := 152) rfl rfl rfl ?_
    exact x_retz (z := true) rfl rfl q
  · skip
    refine x_icmp (a' := 151) (pc' := 13) (z := true) rfl rfl rfl (k_ge (io_ltn hk (by omega) (by omega))) (fun _ => ?_) (fun h => by cases h)
    refine x_iload_n (pc' := 152) rfl rfl rfl ?_
    exact x_retz (z := true) rfl rfl q
theorem w_276l (hO : ∀ k, k < n → k < 64 → Ook M pA k) : ∀ (d k : Nat) (t : sT) (A B : Nat) (y5 y6 y7 : sV), k + d = 64 → La t M n T (A) (B) xs L pA (io n) c1 c2 → (q : ∀ t', La t' M n T (A + 12 * d) (B + 72 * d) xs L pA (io n) c1 c2 → Q (.inl (some (.inl (bz true)))) t') → X 276 5 [.inr (.inr (11, (some 0))), .inr (.inr (21, (some 0))), .inr (.inr (21, (some 1))), .inl 1, .inl (io k), y5, y6, y7] [] t Q
  | 0, k, t, A, B, y5, y6, y7, hd, h, q => w_276e h (by omega) (by omega) (q _ (La_mono h (by omega) (by omega)))
  | d + 1, k, t, A, B, y5, y6, y7, hd, h, q => by
    by_cases hk : k < n
    · exact w_276t h (hO k hk (by omega)) hk (by omega) (fun t' z5 z6 z7 h' => w_276l hO d (k + 1) t' _ _ z5 z6 z7 (by omega) h' (fun t2 h2 => q t2 (La_mono h2 (by omega) (by omega))))
    · exact w_276e h (by omega) (by omega) (q _ (La_mono h (by omega) (by omega)))
theorem w_276 (h : La t M n T (A) (B) xs L pA (io n) c1 c2) (hO : ∀ k, k < n → k < 64 → Ook M pA k) (q : ∀ t', La t' M n T (A + 768) (B + 4608) xs L pA (io n) c1 c2 → Q (.inl (some (.inl (bz true)))) t') : X 276 0 [.inr (.inr (11, (some 0))), .inr (.inr (21, (some 0))), .inr (.inr (21, (some 1))), sJk, sJk, sJk, sJk, sJk] [] t Q := by
  refine x_iconst (pc' := 1) rfl rfl ?_
  refine x_istore_n (pc' := 2) (ls' := [_, _, _, _, _, _, _, _]) rfl rfl rfl rfl ?_
  refine x_iconst (pc' := 3) rfl rfl ?_
  refine x_istore (pc' := 5) (ls' := [_, _, _, _, _, _, _, _]) rfl rfl rfl rfl ?_
  exact w_276l hO 64 0 t A B sJk sJk sJk rfl h q
end Sxc
