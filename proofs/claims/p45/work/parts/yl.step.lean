/-! the law's step (printed by genyl.py) -/
/-- the law's own prices -/
def vPc (b : Nat) (p : Int32) : Prop := (b < 3 → 96 ≤ p.toInt ∧ p.toInt ≤ 104) ∧ (3 ≤ b → -4 ≤ p.toInt ∧ p.toInt ≤ 4)
section Syl
variable {t t' t0 : sT} {M M' N N' : sM} {n n' T T' A A' B B' L d e k K b m c E j f sz wh a x : Nat} {xs pA : Nat → Int32} {c0 c1 c2 v w p u : Int32} {Q : sRs → sT → Prop} {s z : Bool}
theorem vPc_b (h : vPc b p) : vPb b p := ⟨fun g => by have := h.1 g; omega, fun g => by have := h.2 g; omega⟩
theorem pf_c : vPc b (pf b x) := by
  unfold pf
  have hx : x % 9 < 9 := Nat.mod_lt _ (by decide)
  constructor
  · intro g
    rw [if_pos g, io_int (by omega)]; omega
  · intro g
    have e4 : (4 : Int32).toInt = 4 := rfl
    rw [if_neg (by omega), i_sub (by rw [io_int (by omega), e4]; omega) (by rw [io_int (by omega), e4]; omega), io_int (by omega), e4]; omega
theorem pc_u (h : vPc b p) (hx : x < 4) : vPb b (p + 1 + io x) ∧ p < p + 1 + io x := by
  have e1 : (1 : Int32).toInt = 1 := rfl
  have hb : -100 ≤ p.toInt ∧ p.toInt ≤ 200 := vPb_b (vPc_b h)
  have h1 : (p + 1).toInt = p.toInt + 1 := by rw [i_add (by rw [e1]; omega) (by rw [e1]; omega), e1]
  have h2 : (p + 1 + io x).toInt = p.toInt + 1 + (x : Int) := by
    rw [i_add (by rw [h1, io_int (by omega)]; omega) (by rw [h1, io_int (by omega)]; omega), h1, io_int (by omega)]
  refine ⟨⟨fun g => ?_, fun g => ?_⟩, ?_⟩
  · have := h.1 g; rw [h2]; omega
  · have := h.2 g; rw [h2]; omega
  · rw [Int32.lt_iff_toInt_lt, h2]; omega
theorem io_nz (h1 : 1 ≤ k) (h2 : k < 2 ^ 31) : ¬ io k = 0 := fun z => by
  have := (io_inj (p := k) (q := 0) h2 (by decide)).mp z
  omega
theorem io_s1m (h : 1 ≤ k) : io k - 1 = io (k - 1) := io_sub (p := k) (q := 1) h
theorem s_148 (h : La t M n T (A) (B) xs L pA (io n) (io T) (io (ouN M))) (hv : Vw M n e pA) (he : e ≤ 80) (hm : m < 6) (hk : k < 5) (h1 : 1 ≤ sz) (h2 : sz ≤ 12) (hp : vPc k p) (hb : b < 2 ^ 31) (q : ∀ t' M' n' T' pA', La t' M' n' T' (A + 40) (B + 240) xs L pA' (io n') (io T) (io (ouN M')) → Vw M' n' (e + 1) pA' → T ≤ T' → Q (.inl (some (.inl (bz true)))) t') : X 272 148 [.inr (.inr (11, (some 0))), .inr (.inr (21, (some 0))), .inr (.inr (21, (some 1))), .inl (io wh), .inl (io a), .inl (io b), .inl (io m), .inl (io k), .inl (bz s), .inl p, .inl (io sz), sJk, sJk, sJk, sJk, sJk, sJk, sJk, sJk, sJk, sJk, sJk, sJk, sJk] [] t Q := by
  have hx := Nat.mod_lt (b / 512) (show 0 < sz by omega)
  have hn := La_n h
  refine x_aload_n (pc' := 149) rfl rfl rfl rfl rfl ?_
  refine x_aload_n (pc' := 150) rfl rfl rfl rfl rfl ?_
  refine x_aload_n (pc' := 151) rfl rfl rfl rfl rfl ?_
  refine x_aload_n (pc' := 152) rfl rfl rfl rfl rfl ?_
  refine x_iload (pc' := 154) rfl rfl rfl ?_
  refine x_iload (pc' := 156) rfl rfl rfl ?_
  refine x_iload (pc' := 158) rfl rfl rfl ?_
  refine x_iload (pc' := 160) rfl rfl rfl ?_
  refine x_iload (pc' := 162) rfl rfl rfl ?_
  refine x_iconst (pc' := 163) rfl rfl ?_
  refine x_iload (pc' := 165) rfl rfl rfl ?_
  refine x_sipush (pc' := 168) rfl rfl ?_
  refine x_idiv (pc' := 169) (z := (io (b / 512))) rfl rfl (by decide) (io_div (p := b) (q := 512) hb (by decide)) ?_
  refine x_iload (pc' := 171) rfl rfl rfl ?_
  refine x_irem (pc' := 172) (z := (io (b / 512 % sz))) rfl rfl (io_nz h1 (by omega)) (io_rem (k := b / 512) (K := sz) (by omega) (by omega)) ?_
  refine x_iadd (pc' := 173) (z := (io (1 + b / 512 % sz))) rfl rfl (io_add 1 _) ?_
  refine x_cs (ls0 := [_, _, _, _, _, _, _, sJk]) (rest := [_, _, _]) rfl rfl rfl rfl ?_
  refine l_94 h hv (by omega) hm hk h1 h2 (vPc_b hp) (by omega) (by omega) (fun t1 M1 T1 v1 e1 k1 V1 g1 => ?_) (fun t1 M1 T1 k1 V1 g1 => ?_)
  · skip
    refine sK_i (pc' := 176) rfl ?_
    refine x_iload (pc' := 178) rfl rfl rfl ?_
    refine x_iload (pc' := 180) rfl rfl rfl ?_
    refine x_iload (pc' := 182) rfl rfl rfl ?_
    refine x_cs (ls0 := [_, _, _, _, _, _, _]) (rest := []) rfl rfl rfl rfl ?_
    refine w_270n k1 rfl e1 (fun t2 k2 => ?_)
    refine sK_i (pc' := 185) rfl ?_
    refine x_if (a' := 202) (pc' := 188) (z := false) rfl rfl rfl (by decide) (fun h => by cases h) (fun _ => ?_)
    refine x_aload_n (pc' := 189) rfl rfl rfl rfl rfl ?_
    refine x_cv (ls0 := [_]) (rest := []) rfl rfl rfl rfl rfl ?_
    refine q103 k2 (fun t11 h11 => ?_)
    refine sK_i (pc' := 192) rfl ?_
    refine x_aload_n (pc' := 193) rfl rfl rfl rfl rfl ?_
    refine x_iconst (pc' := 194) rfl rfl ?_
    refine x_iald (pc' := 195) (N := 3) (x := (io n)) rfl rfl rfl (La_n1 h11) (by decide) (La_c0 h11) ?_
    refine x_icmp (a' := 202) (pc' := 198) (z := false) rfl rfl rfl (k_nen rfl) (fun h => by cases h) (fun _ => ?_)
    refine x_iconst (pc' := 199) rfl rfl ?_
    refine x_goto (pc' := 203) rfl rfl ?_
    exact x_retz (z := true) rfl rfl (q _ _ _ _ _ (La_mono h11 (by omega) (by omega)) (Vw_e V1) g1)
  · skip
    refine sK_i (pc' := 176) rfl ?_
    refine x_iload (pc' := 178) rfl rfl rfl ?_
    refine x_iload (pc' := 180) rfl rfl rfl ?_
    refine x_iload (pc' := 182) rfl rfl rfl ?_
    refine x_cs (ls0 := [_, _, _, _, _, _, _]) (rest := []) rfl rfl rfl rfl ?_
    refine w_270 (n0 := n) k1 (by omega) (fun t2 k2 => ?_)
    refine sK_i (pc' := 185) rfl ?_
    refine x_if (a' := 202) (pc' := 188) (z := false) rfl rfl rfl (by decide) (fun h => by cases h) (fun _ => ?_)
    refine x_aload_n (pc' := 189) rfl rfl rfl rfl rfl ?_
    refine x_cv (ls0 := [_]) (rest := []) rfl rfl rfl rfl rfl ?_
    refine q103 k2 (fun t11 h11 => ?_)
    refine sK_i (pc' := 192) rfl ?_
    refine x_aload_n (pc' := 193) rfl rfl rfl rfl rfl ?_
    refine x_iconst (pc' := 194) rfl rfl ?_
    refine x_iald (pc' := 195) (N := 3) (x := (io (n + 1))) rfl rfl rfl (La_n1 h11) (by decide) (La_c0 h11) ?_
    refine x_icmp (a' := 202) (pc' := 198) (z := false) rfl rfl rfl (k_nen rfl) (fun h => by cases h) (fun _ => ?_)
    refine x_iconst (pc' := 199) rfl rfl ?_
    refine x_goto (pc' := 203) rfl rfl ?_
    exact x_retz (z := true) rfl rfl (q _ _ _ _ _ (La_mono h11 (by omega) (by omega)) (Vw_e V1) g1)
theorem s_204 (h : La t M n T (A) (B) xs L pA (io n) (io T) (io (ouN M))) (hv : Vw M n e pA) (he : e ≤ 80) (hm : m < 6) (hk : k < 5) (h1 : 1 ≤ sz) (h2 : sz ≤ 12) (hp : vPc k p) (hb : b < 2 ^ 31) (q : ∀ t' M' n' T' pA', La t' M' n' T' (A + 40) (B + 240) xs L pA' (io n') (io T) (io (ouN M')) → Vw M' n' (e + 1) pA' → T ≤ T' → Q (.inl (some (.inl (bz true)))) t') : X 272 204 [.inr (.inr (11, (some 0))), .inr (.inr (21, (some 0))), .inr (.inr (21, (some 1))), .inl (io wh), .inl (io a), .inl (io b), .inl (io m), .inl (io k), .inl (bz s), .inl p, .inl (io sz), sJk, sJk, sJk, sJk, sJk, sJk, sJk, sJk, sJk, sJk, sJk, sJk, sJk] [] t Q := by
  have hn := La_n h
  refine x_aload_n (pc' := 205) rfl rfl rfl rfl rfl ?_
  refine x_aload_n (pc' := 206) rfl rfl rfl rfl rfl ?_
  refine x_aload_n (pc' := 207) rfl rfl rfl rfl rfl ?_
  refine x_aload_n (pc' := 208) rfl rfl rfl rfl rfl ?_
  refine x_iload (pc' := 210) rfl rfl rfl ?_
  refine x_iload (pc' := 212) rfl rfl rfl ?_
  refine x_iload (pc' := 214) rfl rfl rfl ?_
  refine x_iload (pc' := 216) rfl rfl rfl ?_
  refine x_iload (pc' := 218) rfl rfl rfl ?_
  refine x_cs (ls0 := [_, _, _, _, _, _, sJk]) (rest := [_, _, _]) rfl rfl rfl rfl ?_
  refine l_95 h hv (by omega) hm hk h1 h2 (vPc_b hp) (fun t1 M1 T1 v1 e1 k1 V1 g1 => ?_) (fun t1 M1 T1 k1 V1 g1 => ?_)
  · skip
    refine sK_i (pc' := 221) rfl ?_
    refine x_iload (pc' := 223) rfl rfl rfl ?_
    refine x_iload (pc' := 225) rfl rfl rfl ?_
    refine x_iload (pc' := 227) rfl rfl rfl ?_
    refine x_cs (ls0 := [_, _, _, _, _, _, _]) (rest := []) rfl rfl rfl rfl ?_
    refine w_270n k1 rfl e1 (fun t2 k2 => ?_)
    refine sK_i (pc' := 230) rfl ?_
    refine x_if (a' := 258) (pc' := 233) (z := false) rfl rfl rfl (by decide) (fun h => by cases h) (fun _ => ?_)
    refine x_aload_n (pc' := 234) rfl rfl rfl rfl rfl ?_
    refine x_cv (ls0 := [_]) (rest := []) rfl rfl rfl rfl rfl ?_
    refine q103 k2 (fun t11 h11 => ?_)
    refine sK_i (pc' := 237) rfl ?_
    by_cases hn0 : n = 0
    · skip
      refine x_if (a' := 254) (pc' := 240) (z := true) rfl rfl rfl (k_eq (by rw [hn0]; rfl)) (fun _ => ?_) (fun h => by cases h)
      refine x_iconst (pc' := 255) rfl rfl ?_
      refine x_goto (pc' := 259) rfl rfl ?_
      exact x_retz (z := true) rfl rfl (q _ _ _ _ _ (La_mono h11 (by omega) (by omega)) (Vw_e V1) g1)
    · skip
      refine x_if (a' := 254) (pc' := 240) (z := false) rfl rfl rfl (k_eqn (io_nz (by omega) (by omega))) (fun h => by cases h) (fun _ => ?_)
      refine x_aload_n (pc' := 241) rfl rfl rfl rfl rfl ?_
      refine x_aload_n (pc' := 242) rfl rfl rfl rfl rfl ?_
      refine x_cv (ls0 := [_]) (rest := [_]) rfl rfl rfl rfl rfl ?_
      refine q103 h11 (fun t12 h12 => ?_)
      refine sK_i (pc' := 245) rfl ?_
      refine x_iconst (pc' := 246) rfl rfl ?_
      refine x_isub (pc' := 247) (z := (io (n - 1))) rfl rfl (io_s1m (by omega)) ?_
      refine x_cv (ls0 := [_, _]) (rest := []) rfl rfl rfl rfl rfl ?_
      refine q104 h12 (show n - 1 < n by omega) (fun t13 h13 => ?_)
      refine sK_i (pc' := 250) rfl ?_
      refine x_iconst (pc' := 251) rfl rfl ?_
      refine x_icmp (a' := 258) (pc' := 254) (z := false) rfl rfl rfl (k_eqn (V1.1.2.2.1 (n - 1) (by omega))) (fun h => by cases h) (fun _ => ?_)
      refine x_iconst (pc' := 255) rfl rfl ?_
      refine x_goto (pc' := 259) rfl rfl ?_
      exact x_retz (z := true) rfl rfl (q _ _ _ _ _ (La_mono h13 (by omega) (by omega)) (Vw_e V1) g1)
  · skip
    refine sK_i (pc' := 221) rfl ?_
    refine x_iload (pc' := 223) rfl rfl rfl ?_
    refine x_iload (pc' := 225) rfl rfl rfl ?_
    refine x_iload (pc' := 227) rfl rfl rfl ?_
    refine x_cs (ls0 := [_, _, _, _, _, _, _]) (rest := []) rfl rfl rfl rfl ?_
    refine w_270 (n0 := n) k1 (by omega) (fun t2 k2 => ?_)
    refine sK_i (pc' := 230) rfl ?_
    refine x_if (a' := 258) (pc' := 233) (z := false) rfl rfl rfl (by decide) (fun h => by cases h) (fun _ => ?_)
    refine x_aload_n (pc' := 234) rfl rfl rfl rfl rfl ?_
    refine x_cv (ls0 := [_]) (rest := []) rfl rfl rfl rfl rfl ?_
    refine q103 k2 (fun t11 h11 => ?_)
    refine sK_i (pc' := 237) rfl ?_
    refine x_if (a' := 254) (pc' := 240) (z := false) rfl rfl rfl (k_eqn (io_nz (by omega) (by omega))) (fun h => by cases h) (fun _ => ?_)
    refine x_aload_n (pc' := 241) rfl rfl rfl rfl rfl ?_
    refine x_aload_n (pc' := 242) rfl rfl rfl rfl rfl ?_
    refine x_cv (ls0 := [_]) (rest := [_]) rfl rfl rfl rfl rfl ?_
    refine q103 h11 (fun t12 h12 => ?_)
    refine sK_i (pc' := 245) rfl ?_
    refine x_iconst (pc' := 246) rfl rfl ?_
    refine x_isub (pc' := 247) (z := (io n)) rfl rfl io_s1n ?_
    refine x_cv (ls0 := [_, _]) (rest := []) rfl rfl rfl rfl rfl ?_
    refine q104 h12 (show n < n + 1 by omega) (fun t13 h13 => ?_)
    refine sK_i (pc' := 250) rfl ?_
    refine x_iconst (pc' := 251) rfl rfl ?_
    refine x_icmp (a' := 258) (pc' := 254) (z := false) rfl rfl rfl (k_eqn (V1.1.2.2.1 n (by omega))) (fun h => by cases h) (fun _ => ?_)
    refine x_iconst (pc' := 255) rfl rfl ?_
    refine x_goto (pc' := 259) rfl rfl ?_
    exact x_retz (z := true) rfl rfl (q _ _ _ _ _ (La_mono h13 (by omega) (by omega)) (Vw_e V1) g1)
theorem s_260 (h : La t M n T (A) (B) xs L pA (io n) (io T) (io (ouN M))) (hv : Vw M n e pA) (he : e ≤ 80) (hm : m < 6) (hk : k < 5) (h1 : 1 ≤ sz) (h2 : sz ≤ 12) (hp : vPc k p) (hb : b < 2 ^ 31) (q : ∀ t' M' n' T' pA', La t' M' n' T' (A + 40) (B + 240) xs L pA' (io n') (io T) (io (ouN M')) → Vw M' n' (e + 1) pA' → T ≤ T' → Q (.inl (some (.inl (bz true)))) t') : X 272 260 [.inr (.inr (11, (some 0))), .inr (.inr (21, (some 0))), .inr (.inr (21, (some 1))), .inl (io wh), .inl (io a), .inl (io b), .inl (io m), .inl (io k), .inl (bz s), .inl p, .inl (io sz), sJk, sJk, sJk, sJk, sJk, sJk, sJk, sJk, sJk, sJk, sJk, sJk, sJk] [] t Q := by
  have hn := La_n h
  refine x_aload_n (pc' := 261) rfl rfl rfl rfl rfl ?_
  refine x_aload_n (pc' := 262) rfl rfl rfl rfl rfl ?_
  refine x_aload_n (pc' := 263) rfl rfl rfl rfl rfl ?_
  refine x_aload_n (pc' := 264) rfl rfl rfl rfl rfl ?_
  refine x_iload (pc' := 266) rfl rfl rfl ?_
  refine x_iload (pc' := 268) rfl rfl rfl ?_
  refine x_iload (pc' := 270) rfl rfl rfl ?_
  refine x_iload (pc' := 272) rfl rfl rfl ?_
  refine x_iload (pc' := 274) rfl rfl rfl ?_
  refine x_iload (pc' := 276) rfl rfl rfl ?_
  refine x_iload (pc' := 278) rfl rfl rfl ?_
  refine x_sipush (pc' := 281) rfl rfl ?_
  refine x_idiv (pc' := 282) (z := (io (b / 512))) rfl rfl (by decide) (io_div (p := b) (q := 512) hb (by decide)) ?_
  refine x_cs (ls0 := [_, _]) (rest := [_, _, _, _, _, _, _, _, _]) rfl rfl rfl rfl ?_
  refine w_271 hk (by omega) ?_
  refine sK_i (pc' := 285) rfl ?_
  refine x_cs (ls0 := [_, _, _, _, _, _, _, sJk]) (rest := [_, _, _]) rfl rfl rfl rfl ?_
  refine l_96 h hv (by omega) hm hk h1 h2 (vPc_b hp) (vPc_b pf_c) (fun t1 M1 T1 v1 e1 k1 V1 g1 => ?_) (fun t1 M1 T1 k1 V1 g1 => ?_)
  · skip
    refine sK_i (pc' := 288) rfl ?_
    refine x_iload (pc' := 290) rfl rfl rfl ?_
    refine x_iload (pc' := 292) rfl rfl rfl ?_
    refine x_iload (pc' := 294) rfl rfl rfl ?_
    refine x_cs (ls0 := [_, _, _, _, _, _, _]) (rest := []) rfl rfl rfl rfl ?_
    refine w_270n k1 rfl e1 (fun t2 k2 => ?_)
    refine sK_i (pc' := 297) rfl ?_
    exact x_retz (z := true) rfl rfl (q _ _ _ _ _ (La_mono k2 (by omega) (by omega)) (Vw_e V1) g1)
  · skip
    refine sK_i (pc' := 288) rfl ?_
    refine x_iload (pc' := 290) rfl rfl rfl ?_
    refine x_iload (pc' := 292) rfl rfl rfl ?_
    refine x_iload (pc' := 294) rfl rfl rfl ?_
    refine x_cs (ls0 := [_, _, _, _, _, _, _]) (rest := []) rfl rfl rfl rfl ?_
    refine w_270 (n0 := n) k1 (by omega) (fun t2 k2 => ?_)
    refine sK_i (pc' := 297) rfl ?_
    exact x_retz (z := true) rfl rfl (q _ _ _ _ _ (La_mono k2 (by omega) (by omega)) (Vw_e V1) g1)
theorem s_298 (h : La t M n T (A) (B) xs L pA (io n) (io T) (io (ouN M))) (hv : Vw M n e pA) (he : e ≤ 80) (hm : m < 6) (hk : k < 5) (h1 : 1 ≤ sz) (h2 : sz ≤ 12) (hp : vPc k p) (hb : b < 2 ^ 31) (q : ∀ t' M' n' T' pA', La t' M' n' T' (A + 40) (B + 240) xs L pA' (io n') (io T) (io (ouN M')) → Vw M' n' (e + 1) pA' → T ≤ T' → Q (.inl (some (.inl (bz true)))) t') : X 272 298 [.inr (.inr (11, (some 0))), .inr (.inr (21, (some 0))), .inr (.inr (21, (some 1))), .inl (io wh), .inl (io a), .inl (io b), .inl (io m), .inl (io k), .inl (bz s), .inl p, .inl (io sz), sJk, sJk, sJk, sJk, sJk, sJk, sJk, sJk, sJk, sJk, sJk, sJk, sJk] [] t Q := by
  have hn := La_n h
  have hx := Nat.mod_lt (b / 512) (show 0 < 4 by decide)
  refine x_aload_n (pc' := 299) rfl rfl rfl rfl rfl ?_
  refine x_iload (pc' := 301) rfl rfl rfl ?_
  refine x_iload (pc' := 303) rfl rfl rfl ?_
  refine x_iload (pc' := 305) rfl rfl rfl ?_
  refine x_iload (pc' := 307) rfl rfl rfl ?_
  refine x_iconst (pc' := 308) rfl rfl ?_
  refine x_iadd (pc' := 309) (z := (p + 1)) rfl rfl rfl ?_
  refine x_iload (pc' := 311) rfl rfl rfl ?_
  refine x_sipush (pc' := 314) rfl rfl ?_
  refine x_idiv (pc' := 315) (z := (io (b / 512))) rfl rfl (by decide) (io_div (p := b) (q := 512) hb (by decide)) ?_
  refine x_iconst (pc' := 316) rfl rfl ?_
  refine x_irem (pc' := 317) (z := (io (b / 512 % 4))) rfl rfl (by decide) (io_rem (k := b / 512) (K := 4) (by omega) (by decide)) ?_
  refine x_iadd (pc' := 318) (z := (p + 1 + io (b / 512 % 4))) rfl rfl rfl ?_
  refine x_iload (pc' := 320) rfl rfl rfl ?_
  refine x_cs (ls0 := [_, _, _, _, _, _, sJk]) (rest := []) rfl rfl rfl rfl ?_
  refine l_97 h hv (by omega) hm hk h1 h2 (vPc_b hp) (pc_u hp hx).1 (pc_u hp hx).2 (fun t1 M1 T1 v1 e1 k1 V1 g1 => ?_) (fun t1 M1 T1 k1 V1 g1 => ?_)
  · skip
    refine sK_i (pc' := 323) rfl ?_
    refine x_istore (pc' := 325) (ls' := [_, _, _, _, _, _, _, _, _, _, _, _, _, _, _, _, _, _, _, _, _, _, _, _]) rfl rfl rfl rfl ?_
    refine x_aload_n (pc' := 326) rfl rfl rfl rfl rfl ?_
    refine x_aload_n (pc' := 327) rfl rfl rfl rfl rfl ?_
    refine x_aload_n (pc' := 328) rfl rfl rfl rfl rfl ?_
    refine x_iload (pc' := 330) rfl rfl rfl ?_
    refine x_iload (pc' := 332) rfl rfl rfl ?_
    refine x_iload (pc' := 334) rfl rfl rfl ?_
    refine x_iconst (pc' := 335) rfl rfl ?_
    refine x_cs (ls0 := [_, _, _, _, _, _, _]) (rest := []) rfl rfl rfl rfl ?_
    refine w_270n (s := true) k1 rfl e1 (fun t2 k2 => ?_)
    refine sK_i (pc' := 338) rfl ?_
    refine x_istore (pc' := 340) (ls' := [_, _, _, _, _, _, _, _, _, _, _, _, _, _, _, _, _, _, _, _, _, _, _, _]) rfl rfl rfl rfl ?_
    refine x_iload (pc' := 342) rfl rfl rfl ?_
    refine x_if (a' := 383) (pc' := 345) (z := false) rfl rfl rfl (by decide) (fun h => by cases h) (fun _ => ?_)
    refine x_iload (pc' := 347) rfl rfl rfl ?_
    refine x_if (a' := 379) (pc' := 350) (z := true) rfl rfl rfl (k_lt e1) (fun _ => ?_) (fun h => by cases h)
    refine x_iconst (pc' := 380) rfl rfl ?_
    refine x_goto (pc' := 384) rfl rfl ?_
    exact x_retz (z := true) rfl rfl (q _ _ _ _ _ (La_mono k2 (by omega) (by omega)) (Vw_e V1) g1)
  · skip
    refine sK_i (pc' := 323) rfl ?_
    refine x_istore (pc' := 325) (ls' := [_, _, _, _, _, _, _, _, _, _, _, _, _, _, _, _, _, _, _, _, _, _, _, _]) rfl rfl rfl rfl ?_
    refine x_aload_n (pc' := 326) rfl rfl rfl rfl rfl ?_
    refine x_aload_n (pc' := 327) rfl rfl rfl rfl rfl ?_
    refine x_aload_n (pc' := 328) rfl rfl rfl rfl rfl ?_
    refine x_iload (pc' := 330) rfl rfl rfl ?_
    refine x_iload (pc' := 332) rfl rfl rfl ?_
    refine x_iload (pc' := 334) rfl rfl rfl ?_
    refine x_iconst (pc' := 335) rfl rfl ?_
    refine x_cs (ls0 := [_, _, _, _, _, _, _]) (rest := []) rfl rfl rfl rfl ?_
    refine w_270 (n0 := n) (s := true) k1 (by omega) (fun t2 k2 => ?_)
    refine sK_i (pc' := 338) rfl ?_
    refine x_istore (pc' := 340) (ls' := [_, _, _, _, _, _, _, _, _, _, _, _, _, _, _, _, _, _, _, _, _, _, _, _]) rfl rfl rfl rfl ?_
    refine x_iload (pc' := 342) rfl rfl rfl ?_
    refine x_if (a' := 383) (pc' := 345) (z := false) rfl rfl rfl (by decide) (fun h => by cases h) (fun _ => ?_)
    refine x_iload (pc' := 347) rfl rfl rfl ?_
    refine x_if (a' := 379) (pc' := 350) (z := false) rfl rfl rfl (k_ltn (io_n0 (by omega))) (fun h => by cases h) (fun _ => ?_)
    refine x_aload_n (pc' := 351) rfl rfl rfl rfl rfl ?_
    refine x_aload_n (pc' := 352) rfl rfl rfl rfl rfl ?_
    refine x_aload_n (pc' := 353) rfl rfl rfl rfl rfl ?_
    refine x_iload (pc' := 355) rfl rfl rfl ?_
    refine x_iconst (pc' := 356) rfl rfl ?_
    refine x_iadd (pc' := 357) (z := (io (n + 1))) rfl rfl (io_add n 1) ?_
    refine x_iload (pc' := 359) rfl rfl rfl ?_
    refine x_iconst (pc' := 360) rfl rfl ?_
    refine x_iadd (pc' := 361) (z := (p + 1)) rfl rfl rfl ?_
    refine x_iload (pc' := 363) rfl rfl rfl ?_
    refine x_sipush (pc' := 366) rfl rfl ?_
    refine x_idiv (pc' := 367) (z := (io (b / 512))) rfl rfl (by decide) (io_div (p := b) (q := 512) hb (by decide)) ?_
    refine x_iconst (pc' := 368) rfl rfl ?_
    refine x_irem (pc' := 369) (z := (io (b / 512 % 4))) rfl rfl (by decide) (io_rem (k := b / 512) (K := 4) (by omega) (by decide)) ?_
    refine x_iadd (pc' := 370) (z := (p + 1 + io (b / 512 % 4))) rfl rfl rfl ?_
    refine x_iload (pc' := 372) rfl rfl rfl ?_
    refine x_iconst (pc' := 373) rfl rfl ?_
    refine x_cs (ls0 := [_, _, _, _, _, _, _]) (rest := []) rfl rfl rfl rfl ?_
    refine w_270 (n0 := n + 1) (s := false) k2 (by omega) (fun t3 k3 => ?_)
    refine sK_i (pc' := 376) rfl ?_
    refine x_if (a' := 383) (pc' := 379) (z := false) rfl rfl rfl (by decide) (fun h => by cases h) (fun _ => ?_)
    refine x_iconst (pc' := 380) rfl rfl ?_
    refine x_goto (pc' := 384) rfl rfl ?_
    exact x_retz (z := true) rfl rfl (q _ _ _ _ _ (La_mono k3 (by omega) (by omega)) (Vw_e V1) g1)
set_option maxHeartbeats 2000000 in
theorem s_385 (h : La t M n T (A) (B) xs L pA (io n) (io T) (io (ouN M))) (hv : Vw M n e pA) (he : e ≤ 80) (hm : m < 6) (hk : k < 5) (h1 : 1 ≤ sz) (h2 : sz ≤ 12) (hp : vPc k p) (hb : b < 2 ^ 31) (q : ∀ t' M' n' T' pA', La t' M' n' T' (A + 40) (B + 240) xs L pA' (io n') (io T) (io (ouN M')) → Vw M' n' (e + 1) pA' → T ≤ T' → Q (.inl (some (.inl (bz true)))) t') : X 272 385 [.inr (.inr (11, (some 0))), .inr (.inr (21, (some 0))), .inr (.inr (21, (some 1))), .inl (io wh), .inl (io a), .inl (io b), .inl (io m), .inl (io k), .inl (bz s), .inl p, .inl (io sz), sJk, sJk, sJk, sJk, sJk, sJk, sJk, sJk, sJk, sJk, sJk, sJk, sJk] [] t Q := by
  refine x_aload_n (pc' := 386) rfl rfl rfl rfl rfl ?_
  refine x_iload (pc' := 388) rfl rfl rfl ?_
  refine x_cv (ls0 := [_, _]) (rest := []) rfl rfl rfl rfl rfl ?_
  refine q102 h hk (fun t1 h1 => ?_)
  refine sK_i (pc' := 391) rfl ?_
  refine x_istore (pc' := 393) (ls' := [_, _, _, _, _, _, _, _, _, _, _, _, _, _, _, _, _, _, _, _, _, _, _, _]) rfl rfl rfl rfl ?_
  refine x_iload (pc' := 395) rfl rfl rfl ?_
  refine x_iconst (pc' := 396) rfl rfl ?_
  by_cases hph : mA M 0 k = 1 ∨ mA M 0 k = 3
  · skip
    have J405 : X 272 405 [.inr (.inr (11, (some 0))), .inr (.inr (21, (some 0))), .inr (.inr (21, (some 1))), .inl (io wh), .inl (io a), .inl (io b), .inl (io m), .inl (io k), .inl (bz s), .inl p, .inl (io sz), sJk, sJk, .inl (mA M 0 k), sJk, sJk, sJk, sJk, sJk, sJk, sJk, sJk, sJk, sJk] [] t1 Q := by
      refine x_aload_n (pc' := 406) rfl rfl rfl rfl rfl ?_
      refine x_iload (pc' := 408) rfl rfl rfl ?_
      refine x_cv (ls0 := [_, _]) (rest := []) rfl rfl rfl rfl rfl ?_
      refine q111 h1 hv.1.1 hk (fun t2 h2 => ?_)
      refine sK_i (pc' := 411) rfl ?_
      refine x_istore (pc' := 413) (ls' := [_, _, _, _, _, _, _, _, _, _, _, _, _, _, _, _, _, _, _, _, _, _, _, _]) rfl rfl rfl rfl ?_
      refine x_aload_n (pc' := 414) rfl rfl rfl rfl rfl ?_
      refine x_iload (pc' := 416) rfl rfl rfl ?_
      refine x_cs (ls0 := [_, _, sJk]) (rest := []) rfl rfl rfl rfl ?_
      refine l_86f h2 hv (by omega) hk hph (fun t5 M5 T5 K5 k5 V5 g5 n5 i5 p5 j5 _ => ?_)
      refine sK_i (pc' := 419) rfl ?_
      refine x_istore (pc' := 421) (ls' := [_, _, _, _, _, _, _, _, _, _, _, _, _, _, _, _, _, _, _, _, _, _, _, _]) rfl rfl rfl rfl ?_
      refine x_iload (pc' := 423) rfl rfl rfl ?_
      refine x_if (a' := 497) (pc' := 426) (z := false) rfl rfl rfl (k_ltn (io_n0 n5)) (fun h => by cases h) (fun _ => ?_)
      refine x_iload (pc' := 428) rfl rfl rfl ?_
      have J472 : ∀ u, La u M5 n T5 (A + 10) (B + 60) xs L pA (io n) (io T) (io (ouN M5)) → X 272 472 [.inr (.inr (11, (some 0))), .inr (.inr (21, (some 0))), .inr (.inr (21, (some 1))), .inl (io wh), .inl (io a), .inl (io b), .inl (io m), .inl (io k), .inl (bz s), .inl p, .inl (io sz), sJk, sJk, .inl (mA M 0 k), .inl (auF M n k), .inl (io K5), sJk, sJk, sJk, sJk, sJk, sJk, sJk, sJk] [] u Q := fun u ku => by
        refine x_iload (pc' := 474) rfl rfl rfl ?_
        by_cases h0 : K5 = 0
        · skip
          refine x_if (a' := 493) (pc' := 477) (z := true) rfl rfl rfl (k_eq (by rw [h0]; rfl)) (fun _ => ?_) (fun h => by cases h)
          refine x_iconst (pc' := 494) rfl rfl ?_
          refine x_goto (pc' := 498) rfl rfl ?_
          exact x_retz (z := true) rfl rfl (q _ _ _ _ _ (La_mono ku (by omega) (by omega)) (Vw_e V5) g5)
        · skip
          refine x_if (a' := 493) (pc' := 477) (z := false) rfl rfl rfl (k_eqn (io_nz (by omega) n5)) (fun h => by cases h) (fun _ => ?_)
          refine x_iload (pc' := 479) rfl rfl rfl ?_
          refine x_iconst (pc' := 480) rfl rfl ?_
          by_cases h3 : 2 < k
          · skip
            refine x_icmp (a' := 493) (pc' := 483) (z := true) rfl rfl rfl (k_gt (io_lt' (k := 2) (K := k) h3 (by omega))) (fun _ => ?_) (fun h => by cases h)
            refine x_iconst (pc' := 494) rfl rfl ?_
            refine x_goto (pc' := 498) rfl rfl ?_
            exact x_retz (z := true) rfl rfl (q _ _ _ _ _ (La_mono ku (by omega) (by omega)) (Vw_e V5) g5)
          · skip
            refine x_icmp (a' := 493) (pc' := 483) (z := false) rfl rfl rfl (k_gtn (io_ltn (k := 2) (K := k) h3 (by decide) (by omega))) (fun h => by cases h) (fun _ => ?_)
            refine x_aload_n (pc' := 484) rfl rfl rfl rfl rfl ?_
            refine x_cv (ls0 := [_]) (rest := []) rfl rfl rfl rfl rfl ?_
            refine q114 ku (fun t71 h71 => ?_)
            refine sK_i (pc' := 487) rfl ?_
            refine x_aload_n (pc' := 488) rfl rfl rfl rfl rfl ?_
            refine x_iconst (pc' := 489) rfl rfl ?_
            refine x_iald (pc' := 490) (N := 3) (x := (io T)) rfl rfl rfl (La_n1 h71) (by decide) (La_c1 h71) ?_
            have z5 := j5 (by omega)
            have z6 := tr_in ku
            refine x_icmp (a' := 497) (pc' := 493) (z := false) rfl rfl rfl (k_len (io_lt' (k := T) (K := T5) z5 (by omega))) (fun h => by cases h) (fun _ => ?_)
            refine x_iconst (pc' := 494) rfl rfl ?_
            refine x_goto (pc' := 498) rfl rfl ?_
            exact x_retz (z := true) rfl rfl (q _ _ _ _ _ (La_mono h71 (by omega) (by omega)) (Vw_e V5) g5)
      have J452 : X 272 452 [.inr (.inr (11, (some 0))), .inr (.inr (21, (some 0))), .inr (.inr (21, (some 1))), .inl (io wh), .inl (io a), .inl (io b), .inl (io m), .inl (io k), .inl (bz s), .inl p, .inl (io sz), sJk, sJk, .inl (mA M 0 k), .inl (auF M n k), .inl (io K5), sJk, sJk, sJk, sJk, sJk, sJk, sJk, sJk] [] t5 Q := by
        refine x_aload_n (pc' := 453) rfl rfl rfl rfl rfl ?_
        refine x_iload (pc' := 455) rfl rfl rfl ?_
        refine x_cv (ls0 := [_, _]) (rest := []) rfl rfl rfl rfl rfl ?_
        refine q102 k5 hk (fun t61 h61 => ?_)
        refine sK_i (pc' := 458) rfl ?_
        refine x_iconst (pc' := 459) rfl rfl ?_
        by_cases h22 : mA M5 0 k = 2
        · skip
          refine x_icmp (a' := 472) (pc' := 462) (z := true) rfl rfl rfl (k_eq h22) (fun _ => ?_) (fun h => by cases h)
          exact J472 _ (La_mono h61 (by omega) (by omega))
        · skip
          refine x_icmp (a' := 472) (pc' := 462) (z := false) rfl rfl rfl (k_eqn h22) (fun h => by cases h) (fun _ => ?_)
          refine x_aload_n (pc' := 463) rfl rfl rfl rfl rfl ?_
          refine x_iload (pc' := 465) rfl rfl rfl ?_
          refine x_cv (ls0 := [_, _]) (rest := []) rfl rfl rfl rfl rfl ?_
          refine q102 h61 hk (fun t62 h62 => ?_)
          refine sK_i (pc' := 468) rfl ?_
          refine x_iconst (pc' := 469) rfl rfl ?_
          refine x_icmp (a' := 497) (pc' := 472) (z := false) rfl rfl rfl (k_nen (p5.resolve_left h22)) (fun h => by cases h) (fun _ => ?_)
          exact J472 _ (La_mono h62 (by omega) (by omega))
      by_cases h0 : K5 = 0
      · skip
        refine x_if (a' := 435) (pc' := 431) (z := false) rfl rfl rfl (k_nen (by rw [h0]; rfl)) (fun h => by cases h) (fun _ => ?_)
        refine x_iconst (pc' := 432) rfl rfl ?_
        refine x_goto (pc' := 436) rfl rfl ?_
        refine x_iload (pc' := 438) rfl rfl rfl ?_
        refine x_sipush (pc' := 441) rfl rfl ?_
        refine x_icmp (a' := 448) (pc' := 444) (z := false) rfl rfl rfl (k_nen (i5.mp h0)) (fun h => by cases h) (fun _ => ?_)
        refine x_iconst (pc' := 445) rfl rfl ?_
        refine x_goto (pc' := 449) rfl rfl ?_
        refine x_icmp (a' := 497) (pc' := 452) (z := false) rfl rfl rfl (k_nen rfl) (fun h => by cases h) (fun _ => ?_)
        exact J452
      · skip
        refine x_if (a' := 435) (pc' := 431) (z := true) rfl rfl rfl (k_ne (io_nz (by omega) n5)) (fun _ => ?_) (fun h => by cases h)
        refine x_iconst (pc' := 436) rfl rfl ?_
        refine x_iload (pc' := 438) rfl rfl rfl ?_
        refine x_sipush (pc' := 441) rfl rfl ?_
        refine x_icmp (a' := 448) (pc' := 444) (z := true) rfl rfl rfl (k_ne (fun z => h0 (i5.mpr z))) (fun _ => ?_) (fun h => by cases h)
        refine x_iconst (pc' := 449) rfl rfl ?_
        refine x_icmp (a' := 497) (pc' := 452) (z := false) rfl rfl rfl (k_nen rfl) (fun h => by cases h) (fun _ => ?_)
        exact J452
    by_cases hq : mA M 0 k = 1
    · skip
      refine x_icmp (a' := 405) (pc' := 399) (z := true) rfl rfl rfl (k_eq hq) (fun _ => ?_) (fun h => by cases h)
      exact J405
    · skip
      refine x_icmp (a' := 405) (pc' := 399) (z := false) rfl rfl rfl (k_eqn hq) (fun h => by cases h) (fun _ => ?_)
      refine x_iload (pc' := 401) rfl rfl rfl ?_
      refine x_iconst (pc' := 402) rfl rfl ?_
      refine x_icmp (a' := 499) (pc' := 405) (z := false) rfl rfl rfl (k_nen (hph.resolve_left hq)) (fun h => by cases h) (fun _ => ?_)
      exact J405
  · skip
    refine x_icmp (a' := 405) (pc' := 399) (z := false) rfl rfl rfl (k_eqn (fun z => hph (Or.inl z))) (fun h => by cases h) (fun _ => ?_)
    refine x_iload (pc' := 401) rfl rfl rfl ?_
    refine x_iconst (pc' := 402) rfl rfl ?_
    refine x_icmp (a' := 499) (pc' := 405) (z := true) rfl rfl rfl (k_ne (fun z => hph (Or.inr z))) (fun _ => ?_) (fun h => by cases h)
    refine x_iload (pc' := 501) rfl rfl rfl ?_
    refine x_bipush (pc' := 503) rfl rfl ?_
    refine x_irem (pc' := 504) (z := (io (b % 8))) rfl rfl (by decide) (io_rem (k := b) (K := 8) hb (by decide)) ?_
    by_cases h8 : 0 < b % 8
    · skip
      refine x_if (a' := 536) (pc' := 507) (z := false) rfl rfl rfl (k_len (io_lt' (k := 0) h8 (by omega))) (fun h => by cases h) (fun _ => ?_)
      refine x_aload_n (pc' := 508) rfl rfl rfl rfl rfl ?_
      refine x_iload (pc' := 510) rfl rfl rfl ?_
      refine x_cv (ls0 := [_, _, sJk, sJk]) (rest := []) rfl rfl rfl rfl rfl ?_
      refine l_84 h1 hv hk (fun z => hph (Or.inl z)) (fun t21 M21 T21 h21 V21 g21 f1 => ?_)
      have G21 := Nat.le_trans (Nat.le_refl T) g21
      refine sK_i (pc' := 513) rfl ?_
      refine x_iload (pc' := 515) rfl rfl rfl ?_
      refine x_icmp (a' := 532) (pc' := 518) (z := false) rfl rfl rfl (k_nen rfl) (fun h => by cases h) (fun _ => ?_)
      refine x_aload_n (pc' := 519) rfl rfl rfl rfl rfl ?_
      refine x_iload (pc' := 521) rfl rfl rfl ?_
      refine x_cv (ls0 := [_, _]) (rest := []) rfl rfl rfl rfl rfl ?_
      refine q102 h21 hk (fun t22 h22 => ?_)
      refine sK_i (pc' := 524) rfl ?_
      refine x_iconst (pc' := 525) rfl rfl ?_
      refine x_icmp (a' := 532) (pc' := 528) (z := false) rfl rfl rfl (k_nen f1) (fun h => by cases h) (fun _ => ?_)
      refine x_iconst (pc' := 529) rfl rfl ?_
      refine x_goto (pc' := 585) rfl rfl ?_
      exact x_retz (z := true) rfl rfl (q _ _ _ _ _ (La_mono h22 (by omega) (by omega)) (Vw_e V21) G21)
    · skip
      refine x_if (a' := 536) (pc' := 507) (z := true) rfl rfl rfl (k_le (io_ltn (k := 0) h8 (by decide) (by omega))) (fun _ => ?_) (fun h => by cases h)
      refine x_iload (pc' := 538) rfl rfl rfl ?_
      by_cases h00 : mA M 0 k = 0
      · skip
        refine x_if (a' := 560) (pc' := 541) (z := false) rfl rfl rfl (k_nen h00) (fun h => by cases h) (fun _ => ?_)
        refine x_aload_n (pc' := 542) rfl rfl rfl rfl rfl ?_
        refine x_iload (pc' := 544) rfl rfl rfl ?_
        refine x_cs (ls0 := [_, _, sJk]) (rest := []) rfl rfl rfl rfl ?_
        refine l_86e h1 hv hk hph (fun t9 h9 => ?_)
        refine sK_i (pc' := 547) rfl ?_
        refine x_bipush (pc' := 549) rfl rfl ?_
        refine x_icmp (a' := 556) (pc' := 552) (z := false) rfl rfl rfl (by decide) (fun h => by cases h) (fun _ => ?_)
        refine x_iconst (pc' := 553) rfl rfl ?_
        refine x_goto (pc' := 585) rfl rfl ?_
        exact x_retz (z := true) rfl rfl (q _ _ _ _ _ (La_mono h9 (by omega) (by omega)) (Vw_e hv) (Nat.le_refl T))
      · skip
        refine x_if (a' := 560) (pc' := 541) (z := true) rfl rfl rfl (k_ne h00) (fun _ => ?_) (fun h => by cases h)
        refine x_aload_n (pc' := 561) rfl rfl rfl rfl rfl ?_
        refine x_iload (pc' := 563) rfl rfl rfl ?_
        refine x_cv (ls0 := [_, _, sJk, sJk]) (rest := []) rfl rfl rfl rfl rfl ?_
        refine l_85 h1 hv hk h00 (fun t21 M21 T21 h21 V21 g21 f1 => ?_)
        have G21 := Nat.le_trans (Nat.le_refl T) g21
        refine sK_i (pc' := 566) rfl ?_
        refine x_iload (pc' := 568) rfl rfl rfl ?_
        refine x_icmp (a' := 584) (pc' := 571) (z := false) rfl rfl rfl (k_nen rfl) (fun h => by cases h) (fun _ => ?_)
        refine x_aload_n (pc' := 572) rfl rfl rfl rfl rfl ?_
        refine x_iload (pc' := 574) rfl rfl rfl ?_
        refine x_cv (ls0 := [_, _]) (rest := []) rfl rfl rfl rfl rfl ?_
        refine q102 h21 hk (fun t22 h22 => ?_)
        refine sK_i (pc' := 577) rfl ?_
        refine x_if (a' := 584) (pc' := 580) (z := false) rfl rfl rfl (k_nen f1) (fun h => by cases h) (fun _ => ?_)
        refine x_iconst (pc' := 581) rfl rfl ?_
        refine x_goto (pc' := 585) rfl rfl ?_
        exact x_retz (z := true) rfl rfl (q _ _ _ _ _ (La_mono h22 (by omega) (by omega)) (Vw_e V21) G21)
theorem s_586 (h : La t M n T (A) (B) xs L pA (io n) (io T) (io (ouN M))) (hv : Vw M n e pA) (he : e ≤ 80) (hm : m < 6) (hk : k < 5) (h1 : 1 ≤ sz) (h2 : sz ≤ 12) (hp : vPc k p) (hb : b < 2 ^ 31) (q : ∀ t' M' n' T' pA', La t' M' n' T' (A + 40) (B + 240) xs L pA' (io n') (io T) (io (ouN M')) → Vw M' n' (e + 1) pA' → T ≤ T' → Q (.inl (some (.inl (bz true)))) t') : X 272 586 [.inr (.inr (11, (some 0))), .inr (.inr (21, (some 0))), .inr (.inr (21, (some 1))), .inl (io wh), .inl (io a), .inl (io b), .inl (io m), .inl (io k), .inl (bz s), .inl p, .inl (io sz), sJk, sJk, sJk, sJk, sJk, sJk, sJk, sJk, sJk, sJk, sJk, sJk, sJk] [] t Q := by
  have hn := La_n h
  refine x_aload_n (pc' := 587) rfl rfl rfl rfl rfl ?_
  refine x_iconst (pc' := 588) rfl rfl ?_
  refine x_iald (pc' := 589) (N := 3) (x := (io n)) rfl rfl rfl (La_n1 h) (by decide) (La_c0 h) ?_
  by_cases hn0 : n = 0
  · skip
    subst hn0
    refine x_if (a' := 607) (pc' := 592) (z := false) rfl rfl rfl (by decide) (fun h => by cases h) (fun _ => ?_)
    refine x_aload_n (pc' := 593) rfl rfl rfl rfl rfl ?_
    refine x_cs (ls0 := [_, sJk]) (rest := []) rfl rfl rfl rfl ?_
    refine l_98n h (fun t9 h9 => ?_)
    refine sK_i (pc' := 596) rfl ?_
    refine x_bipush (pc' := 598) rfl rfl ?_
    refine x_icmp (a' := 605) (pc' := 601) (z := false) rfl rfl rfl (by decide) (fun h => by cases h) (fun _ => ?_)
    refine x_iconst (pc' := 602) rfl rfl ?_
    refine x_goto (pc' := 606) rfl rfl ?_
    exact x_retz (z := true) rfl rfl (q _ _ _ _ _ (La_mono h9 (by omega) (by omega)) (Vw_e hv) (Nat.le_refl T))
  · skip
    have ho := Nat.mod_lt b (show 0 < n by omega)
    refine x_if (a' := 607) (pc' := 592) (z := true) rfl rfl rfl (k_ne (io_nz (by omega) (by omega))) (fun _ => ?_) (fun h => by cases h)
    refine x_iload (pc' := 609) rfl rfl rfl ?_
    refine x_aload_n (pc' := 610) rfl rfl rfl rfl rfl ?_
    refine x_iconst (pc' := 611) rfl rfl ?_
    refine x_iald (pc' := 612) (N := 3) (x := (io n)) rfl rfl rfl (La_n1 h) (by decide) (La_c0 h) ?_
    refine x_irem (pc' := 613) (z := (io (b % n))) rfl rfl (io_nz (by omega) (by omega)) (io_rem (k := b) (K := n) hb (by omega)) ?_
    refine x_istore (pc' := 615) (ls' := [_, _, _, _, _, _, _, _, _, _, _, _, _, _, _, _, _, _, _, _, _, _, _, _]) rfl rfl rfl rfl ?_
    refine x_aload_n (pc' := 616) rfl rfl rfl rfl rfl ?_
    refine x_iload (pc' := 618) rfl rfl rfl ?_
    refine x_cv (ls0 := [_, _]) (rest := []) rfl rfl rfl rfl rfl ?_
    refine q104 h ho (fun t1 h1 => ?_)
    refine sK_i (pc' := 621) rfl ?_
    refine x_istore (pc' := 623) (ls' := [_, _, _, _, _, _, _, _, _, _, _, _, _, _, _, _, _, _, _, _, _, _, _, _]) rfl rfl rfl rfl ?_
    refine x_aload_n (pc' := 624) rfl rfl rfl rfl rfl ?_
    refine x_iload (pc' := 626) rfl rfl rfl ?_
    refine x_cv (ls0 := [_, _]) (rest := []) rfl rfl rfl rfl rfl ?_
    refine q105 h1 ho (fun t2 h2 => ?_)
    refine sK_i (pc' := 629) rfl ?_
    refine x_istore (pc' := 631) (ls' := [_, _, _, _, _, _, _, _, _, _, _, _, _, _, _, _, _, _, _, _, _, _, _, _]) rfl rfl rfl rfl ?_
    refine x_aload_n (pc' := 632) rfl rfl rfl rfl rfl ?_
    refine x_iload (pc' := 634) rfl rfl rfl ?_
    obtain ⟨-, o5⟩ := hv.2.2.2.1 (b % n) ho
    have o4 := hv.1.2.2.1 (b % n) ho
    by_cases hl : mA M 19 (b % n) = 0 ∨ mA M 19 (b % n) = 1
    · skip
      refine x_cs (ls0 := [_, _, sJk]) (rest := []) rfl rfl rfl rfl ?_
      refine l_98 h2 hv (by omega) ho hl (fun t9 M9 T9 h9 V9 g9 f1 f2 => ?_)
      refine sK_i (pc' := 637) rfl ?_
      refine x_istore (pc' := 639) (ls' := [_, _, _, _, _, _, _, _, _, _, _, _, _, _, _, _, _, _, _, _, _, _, _, _]) rfl rfl rfl rfl ?_
      refine x_iload (pc' := 641) rfl rfl rfl ?_
      refine x_iconst (pc' := 642) rfl rfl ?_
      refine x_icmp (a' := 679) (pc' := 645) (z := false) rfl rfl rfl (k_gen (by rcases hl with z | z <;> rw [z] <;> decide)) (fun h => by cases h) (fun _ => ?_)
      refine x_iload (pc' := 647) rfl rfl rfl ?_
      refine x_iload (pc' := 649) rfl rfl rfl ?_
      refine x_icmp (a' := 675) (pc' := 652) (z := false) rfl rfl rfl (k_nen rfl) (fun h => by cases h) (fun _ => ?_)
      refine x_aload_n (pc' := 653) rfl rfl rfl rfl rfl ?_
      refine x_iload (pc' := 655) rfl rfl rfl ?_
      refine x_cv (ls0 := [_, _]) (rest := []) rfl rfl rfl rfl rfl ?_
      refine q104 h9 ho (fun t91 h91 => ?_)
      refine sK_i (pc' := 658) rfl ?_
      refine x_iconst (pc' := 659) rfl rfl ?_
      refine x_icmp (a' := 675) (pc' := 662) (z := false) rfl rfl rfl (k_nen f1) (fun h => by cases h) (fun _ => ?_)
      refine x_aload_n (pc' := 663) rfl rfl rfl rfl rfl ?_
      refine x_iload (pc' := 665) rfl rfl rfl ?_
      refine x_cv (ls0 := [_, _, sJk]) (rest := []) rfl rfl rfl rfl rfl ?_
      refine q106 h91 ho (fun t92 h92 => ?_)
      refine sK_i (pc' := 668) rfl ?_
      refine x_if (a' := 675) (pc' := 671) (z := false) rfl rfl rfl (k_nen f2) (fun h => by cases h) (fun _ => ?_)
      refine x_iconst (pc' := 672) rfl rfl ?_
      refine x_goto (pc' := 702) rfl rfl ?_
      exact x_retz (z := true) rfl rfl (q _ _ _ _ _ (La_mono h92 (by omega) (by omega)) (Vw_e V9) g9)
    · skip
      refine x_cs (ls0 := [_, _, sJk]) (rest := []) rfl rfl rfl rfl ?_
      refine l_98e h2 ho hl (fun t9 h9 => ?_)
      refine sK_i (pc' := 637) rfl ?_
      refine x_istore (pc' := 639) (ls' := [_, _, _, _, _, _, _, _, _, _, _, _, _, _, _, _, _, _, _, _, _, _, _, _]) rfl rfl rfl rfl ?_
      refine x_iload (pc' := 641) rfl rfl rfl ?_
      refine x_iconst (pc' := 642) rfl rfl ?_
      refine x_icmp (a' := 679) (pc' := 645) (z := true) rfl rfl rfl (k_ge (by
        rcases o5 with z | z | z | z | z
        · exact absurd (Or.inl z) hl
        · exact absurd (Or.inr z) hl
        · rw [z]; decide
        · rw [z]; decide
        · exact absurd z o4)) (fun _ => ?_) (fun h => by cases h)
      refine x_iload (pc' := 681) rfl rfl rfl ?_
      refine x_bipush (pc' := 683) rfl rfl ?_
      refine x_icmp (a' := 701) (pc' := 686) (z := false) rfl rfl rfl (by decide) (fun h => by cases h) (fun _ => ?_)
      refine x_aload_n (pc' := 687) rfl rfl rfl rfl rfl ?_
      refine x_iload (pc' := 689) rfl rfl rfl ?_
      refine x_cv (ls0 := [_, _]) (rest := []) rfl rfl rfl rfl rfl ?_
      refine q104 h9 ho (fun t91 h91 => ?_)
      refine sK_i (pc' := 692) rfl ?_
      refine x_iload (pc' := 694) rfl rfl rfl ?_
      refine x_icmp (a' := 701) (pc' := 697) (z := false) rfl rfl rfl (k_nen rfl) (fun h => by cases h) (fun _ => ?_)
      refine x_iconst (pc' := 698) rfl rfl ?_
      refine x_goto (pc' := 702) rfl rfl ?_
      exact x_retz (z := true) rfl rfl (q _ _ _ _ _ (La_mono h91 (by omega) (by omega)) (Vw_e hv) (Nat.le_refl T))
theorem s_703 (h : La t M n T (A) (B) xs L pA (io n) (io T) (io (ouN M))) (hv : Vw M n e pA) (he : e ≤ 80) (hm : m < 6) (hk : k < 5) (h1 : 1 ≤ sz) (h2 : sz ≤ 12) (hp : vPc k p) (hb : b < 2 ^ 31) (q : ∀ t' M' n' T' pA', La t' M' n' T' (A + 40) (B + 240) xs L pA' (io n') (io T) (io (ouN M')) → Vw M' n' (e + 1) pA' → T ≤ T' → Q (.inl (some (.inl (bz true)))) t') : X 272 703 [.inr (.inr (11, (some 0))), .inr (.inr (21, (some 0))), .inr (.inr (21, (some 1))), .inl (io wh), .inl (io a), .inl (io b), .inl (io m), .inl (io k), .inl (bz s), .inl p, .inl (io sz), sJk, sJk, sJk, sJk, sJk, sJk, sJk, sJk, sJk, sJk, sJk, sJk, sJk] [] t Q := by
  have hT4 := tr_in h
  refine x_aload_n (pc' := 704) rfl rfl rfl rfl rfl ?_
  refine x_cv (ls0 := [_]) (rest := []) rfl rfl rfl rfl rfl ?_
  refine q114 h (fun t1 h1 => ?_)
  refine sK_i (pc' := 707) rfl ?_
  by_cases hT0 : T = 0
  · skip
    refine x_if (a' := 729) (pc' := 710) (z := false) rfl rfl rfl (k_nen (by rw [hT0]; rfl)) (fun h => by cases h) (fun _ => ?_)
    refine x_aload_n (pc' := 711) rfl rfl rfl rfl rfl ?_
    refine x_iload (pc' := 713) rfl rfl rfl ?_
    refine x_iload (pc' := 715) rfl rfl rfl ?_
    refine x_iconst (pc' := 716) rfl rfl ?_
    refine x_irem (pc' := 717) (z := (io (k % 3))) rfl rfl (by decide) (io_rem (k := k) (K := 3) (by omega) (by decide)) ?_
    refine x_cv (ls0 := [_, _, _, sJk]) (rest := []) rfl rfl rfl rfl rfl ?_
    refine q117 h1 hm (Nat.mod_lt k (by decide)) (fun t2 h2 => ?_)
    refine sK_i (pc' := 720) rfl ?_
    refine x_if (a' := 727) (pc' := 723) (z := false) rfl rfl rfl (k_nen (by rw [hT0]; rfl)) (fun h => by cases h) (fun _ => ?_)
    refine x_iconst (pc' := 724) rfl rfl ?_
    refine x_goto (pc' := 728) rfl rfl ?_
    exact x_retz (z := true) rfl rfl (q _ _ _ _ _ (La_mono h2 (by omega) (by omega)) (Vw_e hv) (Nat.le_refl T))
  · skip
    have ho := Nat.mod_lt b (show 0 < T by omega)
    refine x_if (a' := 729) (pc' := 710) (z := true) rfl rfl rfl (k_ne (io_nz (by omega) (by omega))) (fun _ => ?_) (fun h => by cases h)
    refine x_iload (pc' := 731) rfl rfl rfl ?_
    refine x_aload_n (pc' := 732) rfl rfl rfl rfl rfl ?_
    refine x_cv (ls0 := [_]) (rest := [_]) rfl rfl rfl rfl rfl ?_
    refine q114 h1 (fun t2 h2 => ?_)
    refine sK_i (pc' := 735) rfl ?_
    refine x_irem (pc' := 736) (z := (io (b % T))) rfl rfl (io_nz (by omega) (by omega)) (io_rem (k := b) (K := T) hb (by omega)) ?_
    refine x_istore (pc' := 738) (ls' := [_, _, _, _, _, _, _, _, _, _, _, _, _, _, _, _, _, _, _, _, _, _, _, _]) rfl rfl rfl rfl ?_
    refine x_aload_n (pc' := 739) rfl rfl rfl rfl rfl ?_
    refine x_iload (pc' := 741) rfl rfl rfl ?_
    refine x_iconst (pc' := 742) rfl rfl ?_
    refine x_cv (ls0 := [_, _, _, sJk]) (rest := []) rfl rfl rfl rfl rfl ?_
    refine q115 (j := 5) h2 ho (by decide) (fun t3 h3 => ?_)
    refine sK_i (pc' := 745) rfl ?_
    refine x_istore (pc' := 747) (ls' := [_, _, _, _, _, _, _, _, _, _, _, _, _, _, _, _, _, _, _, _, _, _, _, _]) rfl rfl rfl rfl ?_
    refine x_aload_n (pc' := 748) rfl rfl rfl rfl rfl ?_
    refine x_iload (pc' := 750) rfl rfl rfl ?_
    refine x_cs (ls0 := [_, _, sJk]) (rest := []) rfl rfl rfl rfl ?_
    refine l_99 h3 hv (by omega) ho (fun t9 h9 f1 => ?_) (fun t9 M9 h9 V9 f1 f2 f3 f4 => ?_)
    · skip
      refine sK_i (pc' := 753) rfl ?_
      refine x_istore (pc' := 755) (ls' := [_, _, _, _, _, _, _, _, _, _, _, _, _, _, _, _, _, _, _, _, _, _, _, _]) rfl rfl rfl rfl ?_
      refine x_iload (pc' := 757) rfl rfl rfl ?_
      refine x_bipush (pc' := 759) rfl rfl ?_
      refine x_icmp (a' := 782) (pc' := 762) (z := false) rfl rfl rfl (by decide) (fun h => by cases h) (fun _ => ?_)
      refine x_iload (pc' := 764) rfl rfl rfl ?_
      refine x_iconst (pc' := 765) rfl rfl ?_
      by_cases hz : mB M 7 (b % T) = true
      · skip
        refine x_icmp (a' := 774) (pc' := 768) (z := true) rfl rfl rfl (k_eq (by rw [tf5, hz]; rfl)) (fun _ => ?_) (fun h => by cases h)
        refine x_iconst (pc' := 775) rfl rfl ?_
        refine x_goto (pc' := 815) rfl rfl ?_
        exact x_retz (z := true) rfl rfl (q _ _ _ _ _ (La_mono h9 (by omega) (by omega)) (Vw_e hv) (Nat.le_refl T))
      · skip
        have f1 := f1.resolve_left hz
        have hu := ouN_le (M := M)
        refine x_icmp (a' := 774) (pc' := 768) (z := false) rfl rfl rfl (k_eqn (by
          have hz2 : mB M 7 (b % T) = false := by cases hy : mB M 7 (b % T); rfl; exact absurd hy hz
          rw [tf5, hz2]; decide)) (fun h => by cases h) (fun _ => ?_)
        refine x_aload_n (pc' := 769) rfl rfl rfl rfl rfl ?_
        refine x_iconst (pc' := 770) rfl rfl ?_
        refine x_iald (pc' := 771) (N := 3) (x := (io (ouN M))) rfl rfl rfl (La_n1 h9) (by decide) (La_c2 h9) ?_
        refine x_if (a' := 778) (pc' := 774) (z := false) rfl rfl rfl (k_len (io_lt' (k := 0) f1 (by omega))) (fun h => by cases h) (fun _ => ?_)
        refine x_iconst (pc' := 775) rfl rfl ?_
        refine x_goto (pc' := 815) rfl rfl ?_
        exact x_retz (z := true) rfl rfl (q _ _ _ _ _ (La_mono h9 (by omega) (by omega)) (Vw_e hv) (Nat.le_refl T))
    · skip
      refine sK_i (pc' := 753) rfl ?_
      refine x_istore (pc' := 755) (ls' := [_, _, _, _, _, _, _, _, _, _, _, _, _, _, _, _, _, _, _, _, _, _, _, _]) rfl rfl rfl rfl ?_
      refine x_iload (pc' := 757) rfl rfl rfl ?_
      refine x_bipush (pc' := 759) rfl rfl ?_
      refine x_icmp (a' := 782) (pc' := 762) (z := true) rfl rfl rfl (k_ne (fun z => by rw [z] at f4; exact absurd f4 (by decide))) (fun _ => ?_) (fun h => by cases h)
      refine x_iload (pc' := 784) rfl rfl rfl ?_
      refine x_if (a' := 814) (pc' := 787) (z := false) rfl rfl rfl (k_nen (by rw [tf5, f1]; rfl)) (fun h => by cases h) (fun _ => ?_)
      refine x_iload (pc' := 789) rfl rfl rfl ?_
      refine x_aload_n (pc' := 790) rfl rfl rfl rfl rfl ?_
      refine x_iload (pc' := 792) rfl rfl rfl ?_
      refine x_iconst (pc' := 793) rfl rfl ?_
      refine x_cv (ls0 := [_, _, _, sJk]) (rest := [_]) rfl rfl rfl rfl rfl ?_
      refine q115 (j := 4) h9 ho (by decide) (fun t91 h91 => ?_)
      refine sK_i (pc' := 796) rfl ?_
      refine x_icmp (a' := 814) (pc' := 799) (z := false) rfl rfl rfl (k_nen (by rw [tf4]; exact f3.symm)) (fun h => by cases h) (fun _ => ?_)
      refine x_aload_n (pc' := 800) rfl rfl rfl rfl rfl ?_
      refine x_iload (pc' := 802) rfl rfl rfl ?_
      refine x_iconst (pc' := 803) rfl rfl ?_
      refine x_cv (ls0 := [_, _, _, sJk]) (rest := []) rfl rfl rfl rfl rfl ?_
      refine q115 (j := 5) h91 ho (by decide) (fun t92 h92 => ?_)
      refine sK_i (pc' := 806) rfl ?_
      refine x_iconst (pc' := 807) rfl rfl ?_
      refine x_icmp (a' := 814) (pc' := 810) (z := false) rfl rfl rfl (k_nen (by rw [tf5, f2]; rfl)) (fun h => by cases h) (fun _ => ?_)
      refine x_iconst (pc' := 811) rfl rfl ?_
      refine x_goto (pc' := 815) rfl rfl ?_
      exact x_retz (z := true) rfl rfl (q _ _ _ _ _ (La_mono h92 (by omega) (by omega)) V9 (Nat.le_refl T))
theorem s_816 (h : La t M n T (A) (B) xs L pA (io n) (io T) (io (ouN M))) (hv : Vw M n e pA) (he : e ≤ 80) (hm : m < 6) (hk : k < 5) (h1 : 1 ≤ sz) (h2 : sz ≤ 12) (hp : vPc k p) (hb : b < 2 ^ 31) (q : ∀ t' M' n' T' pA', La t' M' n' T' (A + 40) (B + 240) xs L pA' (io n') (io T) (io (ouN M')) → Vw M' n' (e + 1) pA' → T ≤ T' → Q (.inl (some (.inl (bz true)))) t') : X 272 816 [.inr (.inr (11, (some 0))), .inr (.inr (21, (some 0))), .inr (.inr (21, (some 1))), .inl (io wh), .inl (io a), .inl (io b), .inl (io m), .inl (io k), .inl (bz s), .inl p, .inl (io sz), sJk, sJk, sJk, sJk, sJk, sJk, sJk, sJk, sJk, sJk, sJk, sJk, sJk] [] t Q := by
  have hr := Nat.mod_lt b (show 0 < 20000 by decide)
  have hd : (io (b % 20000) - 4000).toInt = (b % 20000 : Nat) - 4000 := by
    have e4 : (4000 : Int32).toInt = 4000 := rfl
    rw [i_sub (by rw [io_int (by omega), e4]; omega) (by rw [io_int (by omega), e4]; omega), io_int (by omega), e4]
  refine x_aload_n (pc' := 817) rfl rfl rfl rfl rfl ?_
  refine x_iload (pc' := 819) rfl rfl rfl ?_
  refine x_iload (pc' := 821) rfl rfl rfl ?_
  refine x_sipush (pc' := 824) rfl rfl ?_
  refine x_irem (pc' := 825) (z := (io (b % 20000))) rfl rfl (by decide) (io_rem (k := b) (K := 20000) hb (by decide)) ?_
  refine x_sipush (pc' := 828) rfl rfl ?_
  refine x_isub (pc' := 829) (z := (io (b % 20000) - 4000)) rfl rfl rfl ?_
  refine x_cs (ls0 := [_, _, _, sJk]) (rest := []) rfl rfl rfl rfl ?_
  refine l_89 h hv (by omega) hm (by rw [hd]; omega) (by rw [hd]; omega) (fun t9 M9 T9 v9 h9 V9 g9 f1 => ?_)
  refine sK_i (pc' := 832) rfl ?_
  refine x_istore (pc' := 834) (ls' := [_, _, _, _, _, _, _, _, _, _, _, _, _, _, _, _, _, _, _, _, _, _, _, _]) rfl rfl rfl rfl ?_
  refine x_iload (pc' := 836) rfl rfl rfl ?_
  by_cases hz : v9 < 0
  · skip
    refine x_if (a' := 846) (pc' := 839) (z := false) rfl rfl rfl (k_gen hz) (fun h => by cases h) (fun _ => ?_)
    refine x_iload (pc' := 841) rfl rfl rfl ?_
    refine x_bipush (pc' := 843) rfl rfl ?_
    refine x_icmp (a' := 850) (pc' := 846) (z := false) rfl rfl rfl (k_nen (f1.resolve_left (fun z => z hz))) (fun h => by cases h) (fun _ => ?_)
    refine x_iconst (pc' := 847) rfl rfl ?_
    refine x_goto (pc' := 851) rfl rfl ?_
    exact x_retz (z := true) rfl rfl (q _ _ _ _ _ (La_mono h9 (by omega) (by omega)) (Vw_e V9) g9)
  · skip
    refine x_if (a' := 846) (pc' := 839) (z := true) rfl rfl rfl (k_ge hz) (fun _ => ?_) (fun h => by cases h)
    refine x_iconst (pc' := 847) rfl rfl ?_
    refine x_goto (pc' := 851) rfl rfl ?_
    exact x_retz (z := true) rfl rfl (q _ _ _ _ _ (La_mono h9 (by omega) (by omega)) (Vw_e V9) g9)
theorem s_852 (h : La t M n T (A) (B) xs L pA (io n) (io T) (io (ouN M))) (hv : Vw M n e pA) (he : e ≤ 80) (hm : m < 6) (hk : k < 5) (h1 : 1 ≤ sz) (h2 : sz ≤ 12) (hp : vPc k p) (hb : b < 2 ^ 31) (q : ∀ t' M' n' T' pA', La t' M' n' T' (A + 40) (B + 240) xs L pA' (io n') (io T) (io (ouN M')) → Vw M' n' (e + 1) pA' → T ≤ T' → Q (.inl (some (.inl (bz true)))) t') : X 272 852 [.inr (.inr (11, (some 0))), .inr (.inr (21, (some 0))), .inr (.inr (21, (some 1))), .inl (io wh), .inl (io a), .inl (io b), .inl (io m), .inl (io k), .inl (bz s), .inl p, .inl (io sz), sJk, sJk, sJk, sJk, sJk, sJk, sJk, sJk, sJk, sJk, sJk, sJk, sJk] [] t Q := by
  refine x_aload_n (pc' := 853) rfl rfl rfl rfl rfl ?_
  refine x_iload (pc' := 855) rfl rfl rfl ?_
  refine x_iload (pc' := 857) rfl rfl rfl ?_
  refine x_cv (ls0 := [_, _, _, sJk, sJk]) (rest := []) rfl rfl rfl rfl rfl ?_
  refine l_87 h hv hk (fun t21 M21 T21 h21 V21 g21 f1 => ?_)
  have G21 := Nat.le_trans (Nat.le_refl T) g21
  refine sK_i (pc' := 860) rfl ?_
  refine x_istore (pc' := 862) (ls' := [_, _, _, _, _, _, _, _, _, _, _, _, _, _, _, _, _, _, _, _, _, _, _, _]) rfl rfl rfl rfl ?_
  refine x_aload_n (pc' := 863) rfl rfl rfl rfl rfl ?_
  refine x_iload (pc' := 865) rfl rfl rfl ?_
  refine x_iload (pc' := 867) rfl rfl rfl ?_
  refine x_cv (ls0 := [_, _, _, sJk, sJk]) (rest := []) rfl rfl rfl rfl rfl ?_
  refine l_87 h21 V21 hk (fun t22 M22 T22 h22 V22 g22 f2 => ?_)
  have G22 := Nat.le_trans G21 g22
  refine sK_i (pc' := 870) rfl ?_
  refine x_iload (pc' := 872) rfl rfl rfl ?_
  refine x_icmp (a' := 889) (pc' := 875) (z := false) rfl rfl rfl (k_nen (by rw [f1])) (fun h => by cases h) (fun _ => ?_)
  refine x_iload (pc' := 877) rfl rfl rfl ?_
  cases hz : mB M 0 k with
  | false =>
    refine x_if (a' := 885) (pc' := 880) (z := false) rfl rfl rfl (by decide) (fun h => by cases h) (fun _ => ?_)
    refine x_iload (pc' := 882) rfl rfl rfl ?_
    refine x_if (a' := 889) (pc' := 885) (z := false) rfl rfl rfl (by decide) (fun h => by cases h) (fun _ => ?_)
    refine x_iconst (pc' := 886) rfl rfl ?_
    refine x_goto (pc' := 890) rfl rfl ?_
    exact x_retz (z := true) rfl rfl (q _ _ _ _ _ (La_mono h22 (by omega) (by omega)) (Vw_e V22) G22)
  | true =>
    refine x_if (a' := 885) (pc' := 880) (z := true) rfl rfl rfl (by decide) (fun _ => ?_) (fun h => by cases h)
    refine x_iconst (pc' := 886) rfl rfl ?_
    refine x_goto (pc' := 890) rfl rfl ?_
    exact x_retz (z := true) rfl rfl (q _ _ _ _ _ (La_mono h22 (by omega) (by omega)) (Vw_e V22) G22)
theorem s_891 (h : La t M n T (A) (B) xs L pA (io n) (io T) (io (ouN M))) (hv : Vw M n e pA) (he : e ≤ 80) (hm : m < 6) (hk : k < 5) (h1 : 1 ≤ sz) (h2 : sz ≤ 12) (hp : vPc k p) (hb : b < 2 ^ 31) (q : ∀ t' M' n' T' pA', La t' M' n' T' (A + 40) (B + 240) xs L pA' (io n') (io T) (io (ouN M')) → Vw M' n' (e + 1) pA' → T ≤ T' → Q (.inl (some (.inl (bz true)))) t') : X 272 891 [.inr (.inr (11, (some 0))), .inr (.inr (21, (some 0))), .inr (.inr (21, (some 1))), .inl (io wh), .inl (io a), .inl (io b), .inl (io m), .inl (io k), .inl (bz s), .inl p, .inl (io sz), sJk, sJk, sJk, sJk, sJk, sJk, sJk, sJk, sJk, sJk, sJk, sJk, sJk] [] t Q := by
  have hr := Nat.mod_lt b (show 0 < 20 by decide)
  have hr2 := Nat.mod_lt (b / 32) (show 0 < 3 by decide)
  have hr3 := Nat.mod_lt (b / 64) (show 0 < 5 by decide)
  refine x_aload_n (pc' := 892) rfl rfl rfl rfl rfl ?_
  refine x_iload (pc' := 894) rfl rfl rfl ?_
  refine x_iconst (pc' := 895) rfl rfl ?_
  refine x_irem (pc' := 896) (z := (io (k % 3))) rfl rfl (by decide) (io_rem (k := k) (K := 3) (by omega) (by decide)) ?_
  refine x_bipush (pc' := 898) rfl rfl ?_
  refine x_iload (pc' := 900) rfl rfl rfl ?_
  refine x_bipush (pc' := 902) rfl rfl ?_
  refine x_irem (pc' := 903) (z := (io (b % 20))) rfl rfl (by decide) (io_rem (k := b) (K := 20) hb (by decide)) ?_
  refine x_iadd (pc' := 904) (z := (io (90 + b % 20))) rfl rfl (io_add 90 _) ?_
  refine x_iload (pc' := 906) rfl rfl rfl ?_
  refine x_bipush (pc' := 908) rfl rfl ?_
  refine x_idiv (pc' := 909) (z := (io (b / 32))) rfl rfl (by decide) (io_div (p := b) (q := 32) hb (by decide)) ?_
  refine x_iconst (pc' := 910) rfl rfl ?_
  refine x_irem (pc' := 911) (z := (io (b / 32 % 3))) rfl rfl (by decide) (io_rem (k := b / 32) (K := 3) (by omega) (by decide)) ?_
  by_cases hz : b / 32 % 3 = 0
  · skip
    refine x_if (a' := 924) (pc' := 914) (z := false) rfl rfl rfl (k_nen (by rw [hz]; rfl)) (fun h => by cases h) (fun _ => ?_)
    refine x_iload (pc' := 916) rfl rfl rfl ?_
    refine x_bipush (pc' := 918) rfl rfl ?_
    refine x_idiv (pc' := 919) (z := (io (b / 64))) rfl rfl (by decide) (io_div (p := b) (q := 64) hb (by decide)) ?_
    refine x_iconst (pc' := 920) rfl rfl ?_
    refine x_irem (pc' := 921) (z := (io (b / 64 % 5))) rfl rfl (by decide) (io_rem (k := b / 64) (K := 5) (by omega) (by decide)) ?_
    refine x_goto (pc' := 927) rfl rfl ?_
    refine x_cv (ls0 := [_, _, _, _, sJk]) (rest := []) rfl rfl rfl rfl rfl ?_
    refine l_88 h hv (Nat.mod_lt k (by decide)) (io_ltn (k := 90 + b % 20) (K := 1) (by omega) (by omega) (by decide)) (io_ltn (k := 999) (K := 90 + b % 20) (by omega) (by decide) (by omega)) (io_n0 (by omega)) (io_ltn (k := 999) (K := b / 64 % 5) (by omega) (by decide) (by omega)) (fun t21 M21 T21 h21 V21 g21 f1 => ?_)
    have G21 := Nat.le_trans (Nat.le_refl T) g21
    refine sK_v (pc' := 930) rfl ?_
    refine x_aload_n (pc' := 931) rfl rfl rfl rfl rfl ?_
    refine x_iload (pc' := 933) rfl rfl rfl ?_
    refine x_iconst (pc' := 934) rfl rfl ?_
    refine x_irem (pc' := 935) (z := (io (k % 3))) rfl rfl (by decide) (io_rem (k := k) (K := 3) (by omega) (by decide)) ?_
    refine x_cv (ls0 := [_, _]) (rest := []) rfl rfl rfl rfl rfl ?_
    refine q113 h21 (Nat.mod_lt k (by decide)) (fun t22 h22 => ?_)
    refine sK_i (pc' := 938) rfl ?_
    refine x_bipush (pc' := 940) rfl rfl ?_
    refine x_iload (pc' := 942) rfl rfl rfl ?_
    refine x_bipush (pc' := 944) rfl rfl ?_
    refine x_irem (pc' := 945) (z := (io (b % 20))) rfl rfl (by decide) (io_rem (k := b) (K := 20) hb (by decide)) ?_
    refine x_iadd (pc' := 946) (z := (io (90 + b % 20))) rfl rfl (io_add 90 _) ?_
    refine x_icmp (a' := 953) (pc' := 949) (z := false) rfl rfl rfl (k_nen f1) (fun h => by cases h) (fun _ => ?_)
    refine x_iconst (pc' := 950) rfl rfl ?_
    refine x_goto (pc' := 954) rfl rfl ?_
    exact x_retz (z := true) rfl rfl (q _ _ _ _ _ (La_mono h22 (by omega) (by omega)) (Vw_e V21) G21)
  · skip
    refine x_if (a' := 924) (pc' := 914) (z := true) rfl rfl rfl (k_ne (io_nz (by omega) (by omega))) (fun _ => ?_) (fun h => by cases h)
    refine x_sipush (pc' := 927) rfl rfl ?_
    refine x_cv (ls0 := [_, _, _, _, sJk]) (rest := []) rfl rfl rfl rfl rfl ?_
    refine l_88 h hv (Nat.mod_lt k (by decide)) (io_ltn (k := 90 + b % 20) (K := 1) (by omega) (by omega) (by decide)) (io_ltn (k := 999) (K := 90 + b % 20) (by omega) (by decide) (by omega)) (by decide) (by decide) (fun t21 M21 T21 h21 V21 g21 f1 => ?_)
    have G21 := Nat.le_trans (Nat.le_refl T) g21
    refine sK_v (pc' := 930) rfl ?_
    refine x_aload_n (pc' := 931) rfl rfl rfl rfl rfl ?_
    refine x_iload (pc' := 933) rfl rfl rfl ?_
    refine x_iconst (pc' := 934) rfl rfl ?_
    refine x_irem (pc' := 935) (z := (io (k % 3))) rfl rfl (by decide) (io_rem (k := k) (K := 3) (by omega) (by decide)) ?_
    refine x_cv (ls0 := [_, _]) (rest := []) rfl rfl rfl rfl rfl ?_
    refine q113 h21 (Nat.mod_lt k (by decide)) (fun t22 h22 => ?_)
    refine sK_i (pc' := 938) rfl ?_
    refine x_bipush (pc' := 940) rfl rfl ?_
    refine x_iload (pc' := 942) rfl rfl rfl ?_
    refine x_bipush (pc' := 944) rfl rfl ?_
    refine x_irem (pc' := 945) (z := (io (b % 20))) rfl rfl (by decide) (io_rem (k := b) (K := 20) hb (by decide)) ?_
    refine x_iadd (pc' := 946) (z := (io (90 + b % 20))) rfl rfl (io_add 90 _) ?_
    refine x_icmp (a' := 953) (pc' := 949) (z := false) rfl rfl rfl (k_nen f1) (fun h => by cases h) (fun _ => ?_)
    refine x_iconst (pc' := 950) rfl rfl ?_
    refine x_goto (pc' := 954) rfl rfl ?_
    exact x_retz (z := true) rfl rfl (q _ _ _ _ _ (La_mono h22 (by omega) (by omega)) (Vw_e V21) G21)
theorem s_955 (h : La t M n T (A) (B) xs L pA (io n) (io T) (io (ouN M))) (hv : Vw M n e pA) (he : e ≤ 80) (hm : m < 6) (hk : k < 5) (h1 : 1 ≤ sz) (h2 : sz ≤ 12) (hp : vPc k p) (hb : b < 2 ^ 31) (q : ∀ t' M' n' T' pA', La t' M' n' T' (A + 40) (B + 240) xs L pA' (io n') (io T) (io (ouN M')) → Vw M' n' (e + 1) pA' → T ≤ T' → Q (.inl (some (.inl (bz true)))) t') : X 272 955 [.inr (.inr (11, (some 0))), .inr (.inr (21, (some 0))), .inr (.inr (21, (some 1))), .inl (io wh), .inl (io a), .inl (io b), .inl (io m), .inl (io k), .inl (bz s), .inl p, .inl (io sz), sJk, sJk, sJk, sJk, sJk, sJk, sJk, sJk, sJk, sJk, sJk, sJk, sJk] [] t Q := by
  have hr := Nat.mod_lt (b / 8) (show 0 < 41 by decide)
  have hd : (io (b / 8 % 41) - 20).toInt = (b / 8 % 41 : Nat) - 20 := by
    have e4 : (20 : Int32).toInt = 20 := rfl
    rw [i_sub (by rw [io_int (by omega), e4]; omega) (by rw [io_int (by omega), e4]; omega), io_int (by omega), e4]
  have e5 : (-500 : Int32).toInt = -500 := rfl
  have e6 : (500 : Int32).toInt = 500 := rfl
  have e7 : (-20 : Int32).toInt = -20 := rfl
  have e8 : (20 : Int32).toInt = 20 := rfl
  have hm6 := Nat.mod_lt b (show 0 < 6 by decide)
  have hc3 := Nat.mod_lt k (show 0 < 3 by decide)
  have hB := hv.2.2.2.2.2.1.1 (3 * (b % 6) + k % 3) (by omega)
  refine x_aload_n (pc' := 956) rfl rfl rfl rfl rfl ?_
  refine x_iload (pc' := 958) rfl rfl rfl ?_
  refine x_bipush (pc' := 960) rfl rfl ?_
  refine x_irem (pc' := 961) (z := (io (b % 6))) rfl rfl (by decide) (io_rem (k := b) (K := 6) hb (by decide)) ?_
  refine x_iload (pc' := 963) rfl rfl rfl ?_
  refine x_iconst (pc' := 964) rfl rfl ?_
  refine x_irem (pc' := 965) (z := (io (k % 3))) rfl rfl (by decide) (io_rem (k := k) (K := 3) (by omega) (by decide)) ?_
  refine x_iload (pc' := 967) rfl rfl rfl ?_
  refine x_bipush (pc' := 969) rfl rfl ?_
  refine x_idiv (pc' := 970) (z := (io (b / 8))) rfl rfl (by decide) (io_div (p := b) (q := 8) hb (by decide)) ?_
  refine x_bipush (pc' := 972) rfl rfl ?_
  refine x_irem (pc' := 973) (z := (io (b / 8 % 41))) rfl rfl (by decide) (io_rem (k := b / 8) (K := 41) (by omega) (by decide)) ?_
  refine x_bipush (pc' := 975) rfl rfl ?_
  refine x_isub (pc' := 976) (z := (io (b / 8 % 41) - 20)) rfl rfl rfl ?_
  refine x_cv (ls0 := [_, _, _, _, sJk]) (rest := []) rfl rfl rfl rfl rfl ?_
  refine l_93 h hv hm6 hc3 (by rw [hd]; omega) (by rw [hd]; omega) (by rw [Int32.lt_iff_toInt_lt, hd, e5]; omega) (by rw [Int32.lt_iff_toInt_lt, hd, e6]; omega) (fun t21 M21 T21 h21 V21 g21 f1 => ?_)
  have G21 := Nat.le_trans (Nat.le_refl T) g21
  refine sK_i (pc' := 979) rfl ?_
  refine x_istore (pc' := 981) (ls' := [_, _, _, _, _, _, _, _, _, _, _, _, _, _, _, _, _, _, _, _, _, _, _, _]) rfl rfl rfl rfl ?_
  refine x_aload_n (pc' := 982) rfl rfl rfl rfl rfl ?_
  refine x_iload (pc' := 984) rfl rfl rfl ?_
  refine x_bipush (pc' := 986) rfl rfl ?_
  refine x_irem (pc' := 987) (z := (io (b % 6))) rfl rfl (by decide) (io_rem (k := b) (K := 6) hb (by decide)) ?_
  refine x_iload (pc' := 989) rfl rfl rfl ?_
  refine x_iconst (pc' := 990) rfl rfl ?_
  refine x_irem (pc' := 991) (z := (io (k % 3))) rfl rfl (by decide) (io_rem (k := k) (K := 3) (by omega) (by decide)) ?_
  refine x_iload (pc' := 993) rfl rfl rfl ?_
  refine x_bipush (pc' := 995) rfl rfl ?_
  refine x_idiv (pc' := 996) (z := (io (b / 8))) rfl rfl (by decide) (io_div (p := b) (q := 8) hb (by decide)) ?_
  refine x_bipush (pc' := 998) rfl rfl ?_
  refine x_irem (pc' := 999) (z := (io (b / 8 % 41))) rfl rfl (by decide) (io_rem (k := b / 8) (K := 41) (by omega) (by decide)) ?_
  refine x_bipush (pc' := 1001) rfl rfl ?_
  refine x_isub (pc' := 1002) (z := (io (b / 8 % 41) - 20)) rfl rfl rfl ?_
  refine x_cv (ls0 := [_, _, _, _, sJk]) (rest := []) rfl rfl rfl rfl rfl ?_
  refine l_93 h21 V21 hm6 hc3 (by rw [hd]; omega) (by rw [hd]; omega) (by rw [Int32.lt_iff_toInt_lt, hd, e5]; omega) (by rw [Int32.lt_iff_toInt_lt, hd, e6]; omega) (fun t22 M22 T22 h22 V22 g22 f2 => ?_)
  have G22 := Nat.le_trans G21 g22
  refine sK_i (pc' := 1005) rfl ?_
  refine x_iload (pc' := 1007) rfl rfl rfl ?_
  refine x_bipush (pc' := 1009) rfl rfl ?_
  refine x_idiv (pc' := 1010) (z := (io (b / 8))) rfl rfl (by decide) (io_div (p := b) (q := 8) hb (by decide)) ?_
  refine x_bipush (pc' := 1012) rfl rfl ?_
  refine x_irem (pc' := 1013) (z := (io (b / 8 % 41))) rfl rfl (by decide) (io_rem (k := b / 8) (K := 41) (by omega) (by decide)) ?_
  refine x_bipush (pc' := 1015) rfl rfl ?_
  refine x_isub (pc' := 1016) (z := (io (b / 8 % 41) - 20)) rfl rfl rfl ?_
  refine x_icmp (a' := 1037) (pc' := 1019) (z := false) rfl rfl rfl (k_nen f1) (fun h => by cases h) (fun _ => ?_)
  refine x_iload (pc' := 1021) rfl rfl rfl ?_
  refine x_bipush (pc' := 1023) rfl rfl ?_
  refine x_icmp (a' := 1037) (pc' := 1026) (z := false) rfl rfl rfl (k_ltn (by rw [Int32.lt_iff_toInt_lt, e7]; omega)) (fun h => by cases h) (fun _ => ?_)
  refine x_iload (pc' := 1028) rfl rfl rfl ?_
  refine x_bipush (pc' := 1030) rfl rfl ?_
  refine x_icmp (a' := 1037) (pc' := 1033) (z := false) rfl rfl rfl (k_gtn (by rw [Int32.lt_iff_toInt_lt, e8]; omega)) (fun h => by cases h) (fun _ => ?_)
  refine x_iconst (pc' := 1034) rfl rfl ?_
  refine x_goto (pc' := 1038) rfl rfl ?_
  exact x_retz (z := true) rfl rfl (q _ _ _ _ _ (La_mono h22 (by omega) (by omega)) (Vw_e V22) G22)
theorem s_1039 (h : La t M n T (A) (B) xs L pA (io n) (io T) (io (ouN M))) (hv : Vw M n e pA) (he : e ≤ 80) (hm : m < 6) (hk : k < 5) (h1 : 1 ≤ sz) (h2 : sz ≤ 12) (hp : vPc k p) (hb : b < 2 ^ 31) (q : ∀ t' M' n' T' pA', La t' M' n' T' (A + 40) (B + 240) xs L pA' (io n') (io T) (io (ouN M')) → Vw M' n' (e + 1) pA' → T ≤ T' → Q (.inl (some (.inl (bz true)))) t') : X 272 1039 [.inr (.inr (11, (some 0))), .inr (.inr (21, (some 0))), .inr (.inr (21, (some 1))), .inl (io wh), .inl (io a), .inl (io b), .inl (io m), .inl (io k), .inl (bz s), .inl p, .inl (io sz), sJk, sJk, sJk, sJk, sJk, sJk, sJk, sJk, sJk, sJk, sJk, sJk, sJk] [] t Q := by
  have hr := Nat.mod_lt b (show 0 < 30 by decide)
  have hr2 := Nat.mod_lt (b / 32) (show 0 < 3000 by decide)
  have hr3 := Nat.mod_lt (b / 32) (show 0 < 500 by decide)
  have e0 : (0 : Int32).toInt = 0 := rfl
  refine x_aload_n (pc' := 1040) rfl rfl rfl rfl rfl ?_
  refine x_iload (pc' := 1042) rfl rfl rfl ?_
  refine x_iload (pc' := 1044) rfl rfl rfl ?_
  refine x_bipush (pc' := 1046) rfl rfl ?_
  refine x_irem (pc' := 1047) (z := (io (b % 30))) rfl rfl (by decide) (io_rem (k := b) (K := 30) hb (by decide)) ?_
  refine x_cv (ls0 := [_, _, _, sJk, sJk]) (rest := []) rfl rfl rfl rfl rfl ?_
  refine l_92 h hv hm (by rw [io_int (by omega)]; omega) (io_n0 (by omega)) (io_ltn (k := 1000) (K := b % 30) (by omega) (by decide) (by omega)) (fun t21 M21 T21 h21 V21 g21 _ => ?_)
  have G21 := Nat.le_trans (Nat.le_refl T) g21
  refine sK_i (pc' := 1050) rfl ?_
  refine x_if (a' := 1100) (pc' := 1053) (z := false) rfl rfl rfl (k_ltn (by rw [Int32.lt_iff_toInt_lt, e0]; have := hv.2.2.2.2.2.1.2.1 m hm; omega)) (fun h => by cases h) (fun _ => ?_)
  refine x_aload_n (pc' := 1054) rfl rfl rfl rfl rfl ?_
  refine x_iload (pc' := 1056) rfl rfl rfl ?_
  refine x_cv (ls0 := [_, _]) (rest := []) rfl rfl rfl rfl rfl ?_
  refine q123 h21 hm (fun t22 h22 => ?_)
  refine sK_i (pc' := 1059) rfl ?_
  cases hz : mB M21 2 m with
  | false =>
    refine x_if (a' := 1080) (pc' := 1062) (z := false) rfl rfl rfl (by decide) (fun h => by cases h) (fun _ => ?_)
    refine x_aload_n (pc' := 1063) rfl rfl rfl rfl rfl ?_
    refine x_iload (pc' := 1065) rfl rfl rfl ?_
    refine x_iload (pc' := 1067) rfl rfl rfl ?_
    refine x_bipush (pc' := 1069) rfl rfl ?_
    refine x_idiv (pc' := 1070) (z := (io (b / 32))) rfl rfl (by decide) (io_div (p := b) (q := 32) hb (by decide)) ?_
    refine x_sipush (pc' := 1073) rfl rfl ?_
    refine x_irem (pc' := 1074) (z := (io (b / 32 % 3000))) rfl rfl (by decide) (io_rem (k := b / 32) (K := 3000) (by omega) (by decide)) ?_
    refine x_cv (ls0 := [_, _, _, sJk, sJk]) (rest := []) rfl rfl rfl rfl rfl ?_
    refine l_90 h22 V21 hm (io_n0 (by omega)) (io_ltn (k := 1000000) (K := b / 32 % 3000) (by omega) (by decide) (by omega)) hz (fun t23 M23 T23 h23 V23 g23 _ => ?_)
    have G23 := Nat.le_trans G21 g23
    refine sK_i (pc' := 1077) rfl ?_
    refine x_if (a' := 1100) (pc' := 1080) (z := false) rfl rfl rfl (k_ltn (by rw [Int32.lt_iff_toInt_lt, e0]; have := (V21.1.2.1.2.1 m hm).1; omega)) (fun h => by cases h) (fun _ => ?_)
    refine x_aload_n (pc' := 1081) rfl rfl rfl rfl rfl ?_
    refine x_iload (pc' := 1083) rfl rfl rfl ?_
    refine x_bipush (pc' := 1085) rfl rfl ?_
    refine x_idiv (pc' := 1086) (z := (io (b / 32))) rfl rfl (by decide) (io_div (p := b) (q := 32) hb (by decide)) ?_
    refine x_sipush (pc' := 1089) rfl rfl ?_
    refine x_irem (pc' := 1090) (z := (io (b / 32 % 500))) rfl rfl (by decide) (io_rem (k := b / 32) (K := 500) (by omega) (by decide)) ?_
    refine x_cv (ls0 := [_, _, sJk]) (rest := []) rfl rfl rfl rfl rfl ?_
    refine l_91 h23 V23 (io_n0 (by omega)) (io_ltn (k := 1000000) (K := b / 32 % 500) (by omega) (by decide) (by omega)) (fun t24 M24 T24 h24 V24 g24 _ => ?_)
    have G24 := Nat.le_trans G23 g24
    refine sK_i (pc' := 1093) rfl ?_
    refine x_if (a' := 1100) (pc' := 1096) (z := false) rfl rfl rfl (k_ltn (by rw [Int32.lt_iff_toInt_lt, e0]; have := V23.1.2.1.2.2.1; omega)) (fun h => by cases h) (fun _ => ?_)
    refine x_iconst (pc' := 1097) rfl rfl ?_
    refine x_goto (pc' := 1101) rfl rfl ?_
    exact x_retz (z := true) rfl rfl (q _ _ _ _ _ (La_mono h24 (by omega) (by omega)) (Vw_e V24) G24)
  | true =>
    refine x_if (a' := 1080) (pc' := 1062) (z := true) rfl rfl rfl (by decide) (fun _ => ?_) (fun h => by cases h)
    refine x_aload_n (pc' := 1081) rfl rfl rfl rfl rfl ?_
    refine x_iload (pc' := 1083) rfl rfl rfl ?_
    refine x_bipush (pc' := 1085) rfl rfl ?_
    refine x_idiv (pc' := 1086) (z := (io (b / 32))) rfl rfl (by decide) (io_div (p := b) (q := 32) hb (by decide)) ?_
    refine x_sipush (pc' := 1089) rfl rfl ?_
    refine x_irem (pc' := 1090) (z := (io (b / 32 % 500))) rfl rfl (by decide) (io_rem (k := b / 32) (K := 500) (by omega) (by decide)) ?_
    refine x_cv (ls0 := [_, _, sJk]) (rest := []) rfl rfl rfl rfl rfl ?_
    refine l_91 h22 V21 (io_n0 (by omega)) (io_ltn (k := 1000000) (K := b / 32 % 500) (by omega) (by decide) (by omega)) (fun t23 M23 T23 h23 V23 g23 _ => ?_)
    have G23 := Nat.le_trans G21 g23
    refine sK_i (pc' := 1093) rfl ?_
    refine x_if (a' := 1100) (pc' := 1096) (z := false) rfl rfl rfl (k_ltn (by rw [Int32.lt_iff_toInt_lt, e0]; have := V21.1.2.1.2.2.1; omega)) (fun h => by cases h) (fun _ => ?_)
    refine x_iconst (pc' := 1097) rfl rfl ?_
    refine x_goto (pc' := 1101) rfl rfl ?_
    exact x_retz (z := true) rfl rfl (q _ _ _ _ _ (La_mono h23 (by omega) (by omega)) (Vw_e V23) G23)
theorem s_1102 (h : La t M n T (A) (B) xs L pA (io n) (io T) (io (ouN M))) (hv : Vw M n e pA) (he : e ≤ 80) (hm : m < 6) (hk : k < 5) (h1 : 1 ≤ sz) (h2 : sz ≤ 12) (hp : vPc k p) (hb : b < 2 ^ 31) (q : ∀ t' M' n' T' pA', La t' M' n' T' (A + 40) (B + 240) xs L pA' (io n') (io T) (io (ouN M')) → Vw M' n' (e + 1) pA' → T ≤ T' → Q (.inl (some (.inl (bz true)))) t') : X 272 1102 [.inr (.inr (11, (some 0))), .inr (.inr (21, (some 0))), .inr (.inr (21, (some 1))), .inl (io wh), .inl (io a), .inl (io b), .inl (io m), .inl (io k), .inl (bz s), .inl p, .inl (io sz), sJk, sJk, sJk, sJk, sJk, sJk, sJk, sJk, sJk, sJk, sJk, sJk, sJk] [] t Q := by
  have hr := Nat.mod_lt b (show 0 < 4001 by decide)
  have hd : (io (b % 4001) - 2000).toInt = (b % 4001 : Nat) - 2000 := by
    have e4 : (2000 : Int32).toInt = 2000 := rfl
    rw [i_sub (by rw [io_int (by omega), e4]; omega) (by rw [io_int (by omega), e4]; omega), io_int (by omega), e4]
  refine x_aload_n (pc' := 1103) rfl rfl rfl rfl rfl ?_
  refine x_iload (pc' := 1105) rfl rfl rfl ?_
  refine x_iload (pc' := 1107) rfl rfl rfl ?_
  refine x_sipush (pc' := 1110) rfl rfl ?_
  refine x_irem (pc' := 1111) (z := (io (b % 4001))) rfl rfl (by decide) (io_rem (k := b) (K := 4001) hb (by decide)) ?_
  refine x_sipush (pc' := 1114) rfl rfl ?_
  refine x_isub (pc' := 1115) (z := (io (b % 4001) - 2000)) rfl rfl rfl ?_
  refine x_cs (ls0 := [_, _, _, sJk]) (rest := []) rfl rfl rfl rfl ?_
  refine l_100 h hv hm (by rw [hd]; omega) (by rw [hd]; omega) (fun t9 M9 T9 v9 h9 V9 g9 f1 => ?_)
  refine sK_i (pc' := 1118) rfl ?_
  refine x_if (a' := 1125) (pc' := 1121) (z := false) rfl rfl rfl (k_eqn f1) (fun h => by cases h) (fun _ => ?_)
  refine x_iconst (pc' := 1122) rfl rfl ?_
  refine x_goto (pc' := 1126) rfl rfl ?_
  exact x_retz (z := true) rfl rfl (q _ _ _ _ _ (La_mono h9 (by omega) (by omega)) (Vw_e V9) g9)
theorem s_1135 (h : La t M n T (A) (B) xs L pA (io n) (io T) (io (ouN M))) (hv : Vw M n e pA) (he : e ≤ 80) (hm : m < 6) (hk : k < 5) (h1 : 1 ≤ sz) (h2 : sz ≤ 12) (hp : vPc k p) (hb : b < 2 ^ 31) (q : ∀ t' M' n' T' pA', La t' M' n' T' (A + 40) (B + 240) xs L pA' (io n') (io T) (io (ouN M')) → Vw M' n' (e + 1) pA' → T ≤ T' → Q (.inl (some (.inl (bz true)))) t') : X 272 1135 [.inr (.inr (11, (some 0))), .inr (.inr (21, (some 0))), .inr (.inr (21, (some 1))), .inl (io wh), .inl (io a), .inl (io b), .inl (io m), .inl (io k), .inl (bz s), .inl p, .inl (io sz), sJk, sJk, sJk, sJk, sJk, sJk, sJk, sJk, sJk, sJk, sJk, sJk, sJk] [] t Q := by
  refine x_aload_n (pc' := 1136) rfl rfl rfl rfl rfl ?_
  refine x_iload (pc' := 1138) rfl rfl rfl ?_
  refine x_iload (pc' := 1140) rfl rfl rfl ?_
  refine x_cv (ls0 := [_, _, _]) (rest := []) rfl rfl rfl rfl rfl ?_
  refine q109 h hv.1.1 hk (fun t1 h1 => ?_)
  refine sK_i (pc' := 1143) rfl ?_
  refine x_iconst (pc' := 1144) rfl rfl ?_
  have hi := wy_i (s := s) hv hk
  rcases o_ns (bwF M n k s) with e2 | ⟨j, e2⟩
  · skip
    refine x_icmp (a' := 1151) (pc' := 1147) (z := false) rfl rfl rfl (k_nen (ov_n e2)) (fun h => by cases h) (fun _ => ?_)
    refine x_iconst (pc' := 1148) rfl rfl ?_
    refine x_goto (pc' := 1152) rfl rfl ?_
    refine x_aload_n (pc' := 1153) rfl rfl rfl rfl rfl ?_
    refine x_iload (pc' := 1155) rfl rfl rfl ?_
    refine x_iload (pc' := 1157) rfl rfl rfl ?_
    refine x_cv (ls0 := [_, _, _, sJk]) (rest := [_]) rfl rfl rfl rfl rfl ?_
    refine q110 h1 hv.1.1 hk (fun t2 h2 => ?_)
    refine sK_i (pc' := 1160) rfl ?_
    refine x_sipush (pc' := 1163) rfl rfl ?_
    refine x_icmp (a' := 1170) (pc' := 1166) (z := false) rfl rfl rfl (k_nen (hi.mp e2)) (fun h => by cases h) (fun _ => ?_)
    refine x_iconst (pc' := 1167) rfl rfl ?_
    refine x_goto (pc' := 1171) rfl rfl ?_
    refine x_icmp (a' := 1178) (pc' := 1174) (z := false) rfl rfl rfl (k_nen rfl) (fun h => by cases h) (fun _ => ?_)
    refine x_iconst (pc' := 1175) rfl rfl ?_
    refine x_goto (pc' := 1179) rfl rfl ?_
    exact x_retz (z := true) rfl rfl (q _ _ _ _ _ (La_mono h2 (by omega) (by omega)) (Vw_e hv) (Nat.le_refl T))
  · skip
    have j3 := bw_3 e2
    refine x_icmp (a' := 1151) (pc' := 1147) (z := true) rfl rfl rfl (k_ne (by rw [ov_s e2]; exact io_ne1 (by omega))) (fun _ => ?_) (fun h => by cases h)
    refine x_iconst (pc' := 1152) rfl rfl ?_
    refine x_aload_n (pc' := 1153) rfl rfl rfl rfl rfl ?_
    refine x_iload (pc' := 1155) rfl rfl rfl ?_
    refine x_iload (pc' := 1157) rfl rfl rfl ?_
    refine x_cv (ls0 := [_, _, _, sJk]) (rest := [_]) rfl rfl rfl rfl rfl ?_
    refine q110 h1 hv.1.1 hk (fun t2 h2 => ?_)
    refine sK_i (pc' := 1160) rfl ?_
    refine x_sipush (pc' := 1163) rfl rfl ?_
    refine x_icmp (a' := 1170) (pc' := 1166) (z := true) rfl rfl rfl (k_ne (fun z => by rw [hi.mpr z] at e2; cases e2)) (fun _ => ?_) (fun h => by cases h)
    refine x_iconst (pc' := 1171) rfl rfl ?_
    refine x_icmp (a' := 1178) (pc' := 1174) (z := false) rfl rfl rfl (k_nen rfl) (fun h => by cases h) (fun _ => ?_)
    refine x_iconst (pc' := 1175) rfl rfl ?_
    refine x_goto (pc' := 1179) rfl rfl ?_
    exact x_retz (z := true) rfl rfl (q _ _ _ _ _ (La_mono h2 (by omega) (by omega)) (Vw_e hv) (Nat.le_refl T))
end Syl
