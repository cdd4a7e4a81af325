/-! the law (printed by genyo.py) -/
def Qw : sRs → sT → Prop := fun r t => r = .inl (some (.inl 1)) ∧ sn t ≤ 600074 ∧ sw t ≤ 7301550
def drw (xs : Nat → Int32) (L k : Nat) : Int32 := if k < L then xs k &&& 2147483647 else io (104729 * (k + 2) % 65521)
section Syo
variable {t t' t0 : sT} {M M' N N' : sM} {n n' T T' A A' B B' L d e k K b m c E j f sz wh a x S9 : Nat} {xs pA : Nat → Int32} {c0 c1 c2 v w p u : Int32} {Q : sRs → sT → Prop} {s z : Bool} {r : Option Nat} {y5 y6 y7 : sV}
theorem dr_io : ∃ x, x < 2 ^ 31 ∧ drw xs L k = io x := by
  unfold drw
  by_cases h : k < L
  · rw [if_pos h]; exact and31 (xs k)
  · rw [if_neg h]; exact ⟨_, Nat.lt_of_lt_of_le (Nat.mod_lt _ (by decide)) (by decide), rfl⟩
theorem w_drx (h : La t M n T A B xs L pA c0 c1 c2) (hk : k < 10 ∨ k < L) (hL31 : L < 2 ^ 31) (ex : drw xs L k = io x) (q : Q (.inl (some (.inl (io x)))) t) : X 259 0 [.inr (.inr (29, (some 0))), .inl (io k)] [] t Q := by
  unfold drw at ex
  by_cases g : k < L
  · rw [if_pos g] at ex
    exact w_draw h g hL31 (by rw [ex]; exact q)
  · rw [if_neg g] at ex
    exact w_drawo h g (by omega) hL31 (by rw [ex]; exact q)
theorem l_dep (h : La t M n T A B xs L pA c0 c1 c2) (hv : Vw M n e pA) (he : e ≤ 90) (hm : m < 6) (h4 : mA M 4 m = 0) (ho : mB M 2 m = false) (hx : x < 50000)
    (q : ∀ t', La t' (m0 (mAw (m0 M) 4 m (io x))) n T (A + 2) (B + 12) xs L pA c0 c1 c2 → Vw (m0 (mAw (m0 M) 4 m (io x))) n e pA → Q (.inl (some (.inl (io x)))) t') : X 89 0 [.inr (.inr (11, (some 0))), .inl (io m), .inl (io x), sJk, sJk] [] t Q := by
  have e0 := io_int (p := x) (by omega)
  have e1 : (-1000000 : Int32).toInt = -1000000 := rfl
  have e2 : (1000000 : Int32).toInt = 1000000 := rfl
  have e3 : (100000000 : Int32).toInt = 100000000 := rfl
  have ez : (0 : Int32).toInt = 0 := rfl
  have hs : mA M 4 m + io x = io x := by rw [h4, Int32.zero_add]
  have hE : sp89 M n (io m) (io x) = ok (io x) (mAw (m0 M) 4 m (io x)) n := by
    unfold sp89
    rw [ixo_in (by decide) hm]
    simp only []
    rw [hs, if_neg (by rw [Int32.lt_iff_toInt_lt]; omega), if_neg (by rw [Int32.lt_iff_toInt_lt]; omega), if_neg (by rw [ho]; decide), if_neg (by rw [Int32.lt_iff_toInt_lt]; omega), if_neg (by rw [Int32.lt_iff_toInt_lt]; omega), if_neg (fun z => by have := z.1; rw [Int32.lt_iff_toInt_lt] at this; omega)]
  refine La_ok (es := [0, 1, 2]) (d := 0) h (fun Ls Q' hW k => C89 h.2.1 hW hv.1.1 (Hv_Pv hv.1 (by omega)) k) hE (fun t' T' h' _ => ?_)
  have h1 := La_T h
  have h2 := La_T h'
  rw [tN_m0, tN_e (N := mAw (m0 M) 4 m (io x)) (M := m0 M) rfl, tN_m0] at h2
  have eT : T' = T := by omega
  subst eT
  exact q t' h' (Vw_89 hv ho (by omega) (by omega))
theorem l_84x (h : La t M n T A B xs L pA c0 c1 c2) (hv : Vw M n e pA) (hb : b < 5) (g1 : mA M 0 b = 0)
    (q : ∀ t', La t' (m0 (mAw (m0 M) 0 b 1)) n T (A + 2) (B + 12) xs L pA c0 c1 c2 → Vw (m0 (mAw (m0 M) 0 b 1)) n e pA → Q (.inl (some (.inl (mA M 0 b)))) t') : X 84 0 [.inr (.inr (11, (some 0))), .inl (io b), sJk, sJk] [] t Q :=
  q84 h hb (by rw [g1]; decide) (fun t' T' h' _ => by
    have h1 := La_T h
    have h2 := La_T h'
    rw [tN_m0, tN_e (N := mAw (m0 M) 0 b 1) (M := m0 M) rfl, tN_m0] at h2
    have eT : T' = T := by omega
    subst eT
    exact q t' h' (Vw_84 hv))
/-- members' deposits -/
def D1 (M : sM) (k : Nat) : Prop := (∀ j, k ≤ j → j < 6 → mA M 4 j = 0) ∧ (∀ j, j < 6 → mB M 2 j = false) ∧ (∀ b, b < 5 → mA M 0 b = 0) ∧ ouN M = 0
theorem lw_dep (h : La t M 0 0 (A) (B) xs L pA 0 0 0) (hv : Vw M 0 0 pA) (hD : D1 M k) (hk : k < 6) (hL31 : L < 2 ^ 31) (q : ∀ t' M', La t' M' 0 0 (A + 4) (B + 24) xs L pA 0 0 0 → Vw M' 0 0 pA → D1 M' (k + 1) → X 297 23 [.inr (.inr (29, (some 0))), .inr (.inr (11, (some 0))), .inr (.inr (21, (some 0))), .inr (.inr (21, (some 1))), .inl 1, .inl (io (k + 1)), sJk] [] t' Q) : X 297 23 [.inr (.inr (29, (some 0))), .inr (.inr (11, (some 0))), .inr (.inr (21, (some 0))), .inr (.inr (21, (some 1))), .inl 1, .inl (io k), sJk] [] t Q := by
  obtain ⟨d1, d2, d3, d4⟩ := hD
  obtain ⟨x, hx, ex⟩ := dr_io (xs := xs) (L := L) (k := k)
  have hr := Nat.mod_lt x (show 0 < 50000 by decide)
  refine x_iload (pc' := 25) rfl rfl rfl ?_
  refine x_bipush (pc' := 27) rfl rfl ?_
  refine x_icmp (a' := 84) (pc' := 30) (z := false) rfl rfl rfl (k_gen (io_lt' hk (by decide))) (fun h => by cases h) (fun _ => ?_)
  refine x_iload (pc' := 32) rfl rfl rfl ?_
  refine x_if (a' := 84) (pc' := 35) (z := false) rfl rfl rfl (by decide) (fun h => by cases h) (fun _ => ?_)
  refine x_aload_n (pc' := 36) rfl rfl rfl rfl rfl ?_
  refine x_iload (pc' := 38) rfl rfl rfl ?_
  refine x_aload_n (pc' := 39) rfl rfl rfl rfl rfl ?_
  refine x_iload (pc' := 41) rfl rfl rfl ?_
  refine x_cs (ls0 := [_, _]) (rest := [_, _]) rfl rfl rfl rfl ?_
  refine w_drx h (Or.inl (by omega)) hL31 ex ?_
  refine sK_i (pc' := 44) rfl ?_
  refine x_ldc (pc' := 46) rfl rfl ?_
  refine x_irem (pc' := 47) (z := (io (x % 50000))) rfl rfl (by decide) (io_rem (k := x) (K := 50000) hx (by decide)) ?_
  refine x_cv (ls0 := [_, _, _, sJk, sJk]) (rest := []) rfl rfl rfl rfl rfl ?_
  refine l_dep h hv (by decide) hk (d1 k (Nat.le_refl k) hk) (d2 k hk) hr (fun t1 h1 V1 => ?_)
  refine sK_i (pc' := 50) rfl ?_
  refine x_aload_n (pc' := 51) rfl rfl rfl rfl rfl ?_
  refine x_iload (pc' := 53) rfl rfl rfl ?_
  refine x_cs (ls0 := [_, _]) (rest := [_]) rfl rfl rfl rfl ?_
  refine w_drx h1 (Or.inl (by omega)) hL31 ex ?_
  refine sK_i (pc' := 56) rfl ?_
  refine x_ldc (pc' := 58) rfl rfl ?_
  refine x_irem (pc' := 59) (z := (io (x % 50000))) rfl rfl (by decide) (io_rem (k := x) (K := 50000) hx (by decide)) ?_
  refine x_icmp (a' := 75) (pc' := 62) (z := false) rfl rfl rfl (k_nen rfl) (fun h => by cases h) (fun _ => ?_)
  refine x_aload_n (pc' := 63) rfl rfl rfl rfl rfl ?_
  refine x_iload (pc' := 65) rfl rfl rfl ?_
  refine x_cv (ls0 := [_, _]) (rest := []) rfl rfl rfl rfl rfl ?_
  refine q123 h1 hk (fun t6 h6 => ?_)
  refine sK_i (pc' := 68) rfl ?_
  refine x_if (a' := 75) (pc' := 71) (z := false) rfl rfl rfl (k_nen (bz0 (d2 k hk))) (fun h => by cases h) (fun _ => ?_)
  refine x_iconst (pc' := 72) rfl rfl ?_
  refine x_goto (pc' := 76) rfl rfl ?_
  refine x_istore (pc' := 78) (ls' := [_, _, _, _, _, _, _]) rfl rfl rfl rfl ?_
  refine x_iinc (pc' := 81) (y := (io (k + 1))) (ls' := [_, _, _, _, _, _, _]) rfl rfl rfl (io_add k 1) rfl ?_
  refine x_goto (pc' := 23) rfl rfl ?_
  refine q _ _ (La_mono h6 (by omega) (by omega)) V1 ⟨fun j h1 h2 => ?_, d2, fun b hb => ?_, d4⟩
  · show mA (mAw (m0 M) 4 k (io (x % 50000))) 4 j = 0
    rw [aw_o (show ¬ j = k by omega)]
    exact d1 j (by omega) h2
  · show mA (mAw (m0 M) 4 k (io (x % 50000))) 0 b = 0
    rw [aw_f (by decide)]
    exact d3 b hb
def D2 (M : sM) (k : Nat) : Prop := (∀ j, k ≤ j → j < 5 → mA M 0 j = 0) ∧ ouN M = 0
theorem lw_book (h : La t M 0 0 (A) (B) xs L pA 0 0 0) (hv : Vw M 0 0 pA) (hD : D2 M k) (hk : k < 5) (hL31 : L < 2 ^ 31) (q : ∀ t' M', La t' M' 0 0 (A + 8) (B + 48) xs L pA 0 0 0 → Vw M' 0 0 pA → D2 M' (k + 1) → X 297 87 [.inr (.inr (29, (some 0))), .inr (.inr (11, (some 0))), .inr (.inr (21, (some 0))), .inr (.inr (21, (some 1))), .inl 1, .inl (io (k + 1)), sJk] [] t' Q) : X 297 87 [.inr (.inr (29, (some 0))), .inr (.inr (11, (some 0))), .inr (.inr (21, (some 0))), .inr (.inr (21, (some 1))), .inl 1, .inl (io k), sJk] [] t Q := by
  obtain ⟨d1, d2⟩ := hD
  obtain ⟨x, hx, ex⟩ := dr_io (xs := xs) (L := L) (k := k)
  have d0 := d1 k (Nat.le_refl k) hk
  have hr := Nat.mod_lt (x / 8) (show 0 < 4 by decide)
  refine x_iload (pc' := 89) rfl rfl rfl ?_
  refine x_iconst (pc' := 90) rfl rfl ?_
  refine x_icmp (a' := 162) (pc' := 93) (z := false) rfl rfl rfl (k_gen (io_lt' hk (by decide))) (fun h => by cases h) (fun _ => ?_)
  refine x_iload (pc' := 95) rfl rfl rfl ?_
  refine x_if (a' := 162) (pc' := 98) (z := false) rfl rfl rfl (by decide) (fun h => by cases h) (fun _ => ?_)
  refine x_aload_n (pc' := 99) rfl rfl rfl rfl rfl ?_
  refine x_iload (pc' := 101) rfl rfl rfl ?_
  refine x_cv (ls0 := [_, _]) (rest := []) rfl rfl rfl rfl rfl ?_
  refine q102 h hk (fun t1 h1 => ?_)
  refine sK_i (pc' := 104) rfl ?_
  refine x_if (a' := 153) (pc' := 107) (z := false) rfl rfl rfl (k_nen d0) (fun h => by cases h) (fun _ => ?_)
  refine x_aload_n (pc' := 108) rfl rfl rfl rfl rfl ?_
  refine x_iload (pc' := 110) rfl rfl rfl ?_
  refine x_cv (ls0 := [_, _, sJk, sJk]) (rest := []) rfl rfl rfl rfl rfl ?_
  refine l_84x h1 hv hk d0 (fun t2 h2 V2 => ?_)
  refine sK_i (pc' := 113) rfl ?_
  refine x_if (a' := 153) (pc' := 116) (z := false) rfl rfl rfl (k_nen d0) (fun h => by cases h) (fun _ => ?_)
  have p1 : ∀ j, mA (m0 (mAw (m0 M) 0 k 1)) 0 j = if j = k then 1 else mA M 0 j := fun j => aw_at (M := m0 M) (q := 0) (x := k) (v := 1) (k := j)
  have o1 : ouN (m0 (mAw (m0 M) 0 k 1)) = 0 := d2
  generalize m0 (mAw (m0 M) 0 k 1) = M2 at *
  refine x_aload_n (pc' := 117) rfl rfl rfl rfl rfl ?_
  refine x_iload (pc' := 119) rfl rfl rfl ?_
  refine x_cs (ls0 := [_, _]) (rest := []) rfl rfl rfl rfl ?_
  refine w_drx h2 (Or.inl (by omega)) hL31 ex ?_
  refine sK_i (pc' := 122) rfl ?_
  refine x_bipush (pc' := 124) rfl rfl ?_
  refine x_idiv (pc' := 125) (z := (io (x / 8))) rfl rfl (by decide) (io_div (p := x) (q := 8) hx (by decide)) ?_
  refine x_iconst (pc' := 126) rfl rfl ?_
  refine x_irem (pc' := 127) (z := (io (x / 8 % 4))) rfl rfl (by decide) (io_rem (k := x / 8) (K := 4) (by omega) (by decide)) ?_
  by_cases hz : x / 8 % 4 = 0
  · skip
    refine x_if (a' := 149) (pc' := 130) (z := true) rfl rfl rfl (k_eq (by rw [hz]; rfl)) (fun _ => ?_) (fun h => by cases h)
    refine x_iconst (pc' := 150) rfl rfl ?_
    refine x_goto (pc' := 154) rfl rfl ?_
    refine x_istore (pc' := 156) (ls' := [_, _, _, _, _, _, _]) rfl rfl rfl rfl ?_
    refine x_iinc (pc' := 159) (y := (io (k + 1))) (ls' := [_, _, _, _, _, _, _]) rfl rfl rfl (io_add k 1) rfl ?_
    refine x_goto (pc' := 87) rfl rfl ?_
    refine q _ _ (La_mono h2 (by omega) (by omega)) V2 ⟨fun j h1 h2 => ?_, o1⟩
    rw [p1, if_neg (by omega)]; exact d1 j (by omega) h2
  · skip
    refine x_if (a' := 149) (pc' := 130) (z := false) rfl rfl rfl (k_eqn (io_nz (by omega) (by omega))) (fun h => by cases h) (fun _ => ?_)
    refine x_aload_n (pc' := 131) rfl rfl rfl rfl rfl ?_
    refine x_iload (pc' := 133) rfl rfl rfl ?_
    refine x_cv (ls0 := [_, _, sJk, sJk]) (rest := []) rfl rfl rfl rfl rfl ?_
    refine l_86 (La_2 h2 ((congrArg io o1).symm)) V2 (by decide) hk (Or.inl (by rw [p1, if_pos rfl])) (fun t3 M3 T3 K3 h3 V3 _ _ i3 _ _ z3 => ?_)
    refine sK_i (pc' := 136) rfl ?_
    obtain ⟨eT, p3, b3⟩ := z3 rfl
    subst eT
    have K0 : K3 = 0 := i3.mpr rfl
    refine x_if (a' := 153) (pc' := 139) (z := false) rfl rfl rfl (k_nen (by rw [K0]; rfl)) (fun h => by cases h) (fun _ => ?_)
    refine x_aload_n (pc' := 140) rfl rfl rfl rfl rfl ?_
    refine x_iload (pc' := 142) rfl rfl rfl ?_
    refine x_cv (ls0 := [_, _]) (rest := []) rfl rfl rfl rfl rfl ?_
    refine q102 h3 hk (fun t31 h31 => ?_)
    refine sK_i (pc' := 145) rfl ?_
    refine x_iconst (pc' := 146) rfl rfl ?_
    refine x_icmp (a' := 153) (pc' := 149) (z := false) rfl rfl rfl (k_nen (by rw [p3, if_pos rfl])) (fun h => by cases h) (fun _ => ?_)
    refine x_iconst (pc' := 150) rfl rfl ?_
    refine x_goto (pc' := 154) rfl rfl ?_
    refine x_istore (pc' := 156) (ls' := [_, _, _, _, _, _, _]) rfl rfl rfl rfl ?_
    refine x_iinc (pc' := 159) (y := (io (k + 1))) (ls' := [_, _, _, _, _, _, _]) rfl rfl rfl (io_add k 1) rfl ?_
    refine x_goto (pc' := 87) rfl rfl ?_
    have o3 : ouN M3 = 0 := b3.trans o1
    refine q _ _ (La_mono (La_2 h31 (congrArg io o3)) (by omega) (by omega)) V3 ⟨fun j h1 h2 => ?_, o3⟩
    rw [p3, if_neg (by omega), p1, if_neg (by omega)]; exact d1 j (by omega) h2
theorem lw_turn (h : La t M n T (A) (B) xs L pA (io n) (io T) (io (ouN M))) (hv : Vw M n k pA) (hk : k < S9) (hs : S9 ≤ 80) (hsL : 3 * S9 ≤ L) (hL31 : L < 2 ^ 31) (q : ∀ t' M' n' T' pA', La t' M' n' T' (A + 1400 + 30 * (T' - T)) (B + 8400 + 180 * (T' - T)) xs L pA' (io n') (io T') (io (ouN M')) → Vw M' n' (k + 1) pA' → T ≤ T' → X 297 185 [.inr (.inr (29, (some 0))), .inr (.inr (11, (some 0))), .inr (.inr (21, (some 0))), .inr (.inr (21, (some 1))), .inl 1, .inl (io S9), .inl (io (k + 1))] [] t' Q) : X 297 185 [.inr (.inr (29, (some 0))), .inr (.inr (11, (some 0))), .inr (.inr (21, (some 0))), .inr (.inr (21, (some 1))), .inl 1, .inl (io S9), .inl (io k)] [] t Q := by
  obtain ⟨x0, hx0, ex0⟩ := dr_io (xs := xs) (L := L) (k := 3 * k)
  obtain ⟨x1, hx1, ex1⟩ := dr_io (xs := xs) (L := L) (k := 3 * k + 1)
  obtain ⟨x2, hx2, ex2⟩ := dr_io (xs := xs) (L := L) (k := 3 * k + 2)
  refine x_iload (pc' := 187) rfl rfl rfl ?_
  refine x_iload (pc' := 189) rfl rfl rfl ?_
  refine x_icmp (a' := 289) (pc' := 192) (z := false) rfl rfl rfl (k_gen (io_lt' hk (by omega))) (fun h => by cases h) (fun _ => ?_)
  refine x_iload (pc' := 194) rfl rfl rfl ?_
  refine x_if (a' := 289) (pc' := 197) (z := false) rfl rfl rfl (by decide) (fun h => by cases h) (fun _ => ?_)
  refine x_aload_n (pc' := 198) rfl rfl rfl rfl rfl ?_
  refine x_aload_n (pc' := 199) rfl rfl rfl rfl rfl ?_
  refine x_aload_n (pc' := 200) rfl rfl rfl rfl rfl ?_
  refine x_aload_n (pc' := 201) rfl rfl rfl rfl rfl ?_
  refine x_iconst (pc' := 202) rfl rfl ?_
  refine x_iload (pc' := 204) rfl rfl rfl ?_
  refine x_imul (pc' := 205) (z := (io (3 * k))) rfl rfl (io_mul 3 k) ?_
  refine x_cs (ls0 := [_, _]) (rest := [_, _, _]) rfl rfl rfl rfl ?_
  refine w_drx h (Or.inr (by omega)) hL31 ex0 ?_
  refine sK_i (pc' := 208) rfl ?_
  refine x_aload_n (pc' := 209) rfl rfl rfl rfl rfl ?_
  refine x_iconst (pc' := 210) rfl rfl ?_
  refine x_iload (pc' := 212) rfl rfl rfl ?_
  refine x_imul (pc' := 213) (z := (io (3 * k))) rfl rfl (io_mul 3 k) ?_
  refine x_iconst (pc' := 214) rfl rfl ?_
  refine x_iadd (pc' := 215) (z := (io (3 * k + 1))) rfl rfl (io_add _ 1) ?_
  refine x_cs (ls0 := [_, _]) (rest := [_, _, _, _]) rfl rfl rfl rfl ?_
  refine w_drx h (Or.inr (by omega)) hL31 ex1 ?_
  refine sK_i (pc' := 218) rfl ?_
  refine x_aload_n (pc' := 219) rfl rfl rfl rfl rfl ?_
  refine x_iconst (pc' := 220) rfl rfl ?_
  refine x_iload (pc' := 222) rfl rfl rfl ?_
  refine x_imul (pc' := 223) (z := (io (3 * k))) rfl rfl (io_mul 3 k) ?_
  refine x_iconst (pc' := 224) rfl rfl ?_
  refine x_iadd (pc' := 225) (z := (io (3 * k + 2))) rfl rfl (io_add _ 2) ?_
  refine x_cs (ls0 := [_, _]) (rest := [_, _, _, _, _]) rfl rfl rfl rfl ?_
  refine w_drx h (Or.inr (by omega)) hL31 ex2 ?_
  refine sK_i (pc' := 228) rfl ?_
  refine x_cs (ls0 := [_, _, _, _, _, _, sJk, sJk, sJk, sJk, sJk, sJk, sJk, sJk, sJk, sJk, sJk, sJk, sJk, sJk, sJk, sJk, sJk, sJk]) (rest := []) rfl rfl rfl rfl ?_
  refine w_272 h hv (by omega) hx0 hx1 hx2 (fun t1 M1 n1 T1 pB h1 V1 g1 => ?_)
  refine sK_i (pc' := 231) rfl ?_
  refine x_if (a' := 273) (pc' := 234) (z := false) rfl rfl rfl (by decide) (fun h => by cases h) (fun _ => ?_)
  refine x_aload_n (pc' := 235) rfl rfl rfl rfl rfl ?_
  refine x_aload_n (pc' := 236) rfl rfl rfl rfl rfl ?_
  refine x_iconst (pc' := 237) rfl rfl ?_
  refine x_iald (pc' := 238) (N := 3) (x := (io T)) rfl rfl rfl (La_n1 h1) (by decide) (La_c1 h1) ?_
  refine x_cs (ls0 := [_, _, sJk, sJk]) (rest := []) rfl rfl rfl rfl ?_
  refine w_277 (f := T) h1 (Vw_Tok V1 h1) g1 (fun t2 h2 => ?_)
  refine sK_i (pc' := 241) rfl ?_
  refine x_if (a' := 273) (pc' := 244) (z := false) rfl rfl rfl (by decide) (fun h => by cases h) (fun _ => ?_)
  refine x_aload_n (pc' := 245) rfl rfl rfl rfl rfl ?_
  refine x_aload_n (pc' := 246) rfl rfl rfl rfl rfl ?_
  refine x_aload_n (pc' := 247) rfl rfl rfl rfl rfl ?_
  refine x_cs (ls0 := [_, _, _, sJk, sJk, sJk, sJk, sJk]) (rest := []) rfl rfl rfl rfl ?_
  refine w_275 h2 V1.1.1 (Hv_Pv V1.1 (by omega)) (fun b hb => Vw_Wkb V1 hb) (fun m hm => Vw_Wkm V1 (by omega) hm) (Vw_cash V1 (by omega)) (fun c hc => Vw_Wkc V1 (by omega) h2 hc) (fun t3 h3 => ?_)
  refine sK_i (pc' := 250) rfl ?_
  refine x_if (a' := 273) (pc' := 253) (z := false) rfl rfl rfl (by decide) (fun h => by cases h) (fun _ => ?_)
  refine x_iload (pc' := 255) rfl rfl rfl ?_
  refine x_iconst (pc' := 256) rfl rfl ?_
  refine x_irem (pc' := 257) (z := (io (k % 4))) rfl rfl (by decide) (io_rem (k := k) (K := 4) (by omega) (by decide)) ?_
  have J269 : ∀ u, La u M1 n1 T1 (A + 1350 + 30 * (T1 - T)) (B + 8000 + 180 * (T1 - T)) xs L pB (io n1) (io T) (io (ouN M1)) → X 297 269 [.inr (.inr (29, (some 0))), .inr (.inr (11, (some 0))), .inr (.inr (21, (some 0))), .inr (.inr (21, (some 1))), .inl 1, .inl (io S9), .inl (io k)] [] u Q := fun u hu => by
    refine x_iconst (pc' := 270) rfl rfl ?_
    refine x_goto (pc' := 274) rfl rfl ?_
    refine x_istore (pc' := 276) (ls' := [_, _, _, _, _, _, _]) rfl rfl rfl rfl ?_
    refine x_aload_n (pc' := 277) rfl rfl rfl rfl rfl ?_
    refine x_iconst (pc' := 278) rfl rfl ?_
    refine x_aload_n (pc' := 279) rfl rfl rfl rfl rfl ?_
    refine x_cv (ls0 := [_]) (rest := [_, _]) rfl rfl rfl rfl rfl ?_
    refine q114 hu (fun t21 h21 => ?_)
    refine sK_i (pc' := 282) rfl ?_
    refine x_iast (pc' := 283) (N := 3) (p := 1) rfl rfl rfl (La_n1 h21) (by decide) (by decide) ?_
    have h22 := La_wc1 (v := (io T1)) h21
    refine x_iinc (pc' := 286) (y := (io (k + 1))) (ls' := [_, _, _, _, _, _, _]) rfl rfl rfl (io_add k 1) rfl ?_
    refine x_goto (pc' := 185) rfl rfl ?_
    exact q _ M1 n1 T1 pB (La_mono h22 (by omega) (by omega)) V1 g1
  by_cases h4 : 0 < k % 4
  · skip
    refine x_if (a' := 269) (pc' := 260) (z := true) rfl rfl rfl (k_gt (io_lt' (k := 0) h4 (by omega))) (fun _ => ?_) (fun h => by cases h)
    exact J269 _ (La_mono h3 (by omega) (by omega))
  · skip
    refine x_if (a' := 269) (pc' := 260) (z := false) rfl rfl rfl (k_gtn (io_ltn (k := 0) h4 (by decide) (by omega))) (fun h => by cases h) (fun _ => ?_)
    refine x_aload_n (pc' := 261) rfl rfl rfl rfl rfl ?_
    refine x_aload_n (pc' := 262) rfl rfl rfl rfl rfl ?_
    refine x_aload_n (pc' := 263) rfl rfl rfl rfl rfl ?_
    refine x_cs (ls0 := [_, _, _, sJk, sJk, sJk, sJk, sJk]) (rest := []) rfl rfl rfl rfl ?_
    refine w_276 h3 (Vw_Ook V1 h3) (fun t4 h4 => ?_)
    refine sK_i (pc' := 266) rfl ?_
    refine x_if (a' := 273) (pc' := 269) (z := false) rfl rfl rfl (by decide) (fun h => by cases h) (fun _ => ?_)
    exact J269 _ (La_mono h4 (by omega) (by omega))
theorem Qw_ok (h : La t M n T A B xs L pA c0 c1 c2) (hv : Vw M n e pA) (hA : A ≤ 500000) (hB : B ≤ 7000000) : Qw (.inl (some (.inl (bz true)))) t := by
  have hT := (Hv_T hv.1).1
  have hTN := La_T h
  have hn := La_n h
  obtain ⟨⟨l, hW⟩, -⟩ := h
  obtain ⟨⟨d, w, h1, h2, h3, h4⟩, -⟩ := hW.2.2.2.2.1
  have w0 : w 0 ≤ 2 * T + 10 := (h1 0 (by decide)).2.2
  have w1 : w 1 ≤ 2 * n + 10 := (h1 1 (by decide)).2.2
  have w2 : w 2 ≤ 2 * 200 + 10 := (h1 2 (by decide)).2.2
  exact ⟨rfl, by omega, by omega⟩
theorem lw_end (h : La t M n T (A) (B) xs L pA (io n) (io T) (io (ouN M))) (hv : Vw M n S9 pA) (hs : S9 ≤ 80) (hA : A ≤ 400000) (hB : B ≤ 6000000) : X 297 185 [.inr (.inr (29, (some 0))), .inr (.inr (11, (some 0))), .inr (.inr (21, (some 0))), .inr (.inr (21, (some 1))), .inl 1, .inl (io S9), .inl (io S9)] [] t Qw := by
  refine x_iload (pc' := 187) rfl rfl rfl ?_
  refine x_iload (pc' := 189) rfl rfl rfl ?_
  refine x_icmp (a' := 289) (pc' := 192) (z := true) rfl rfl rfl (k_ge (io_ltn (Nat.lt_irrefl S9) (by omega) (by omega))) (fun _ => ?_) (fun h => by cases h)
  refine x_iload (pc' := 291) rfl rfl rfl ?_
  refine x_if (a' := 316) (pc' := 294) (z := false) rfl rfl rfl (by decide) (fun h => by cases h) (fun _ => ?_)
  refine x_aload_n (pc' := 295) rfl rfl rfl rfl rfl ?_
  refine x_aload_n (pc' := 296) rfl rfl rfl rfl rfl ?_
  refine x_aload_n (pc' := 297) rfl rfl rfl rfl rfl ?_
  refine x_cs (ls0 := [_, _, _, sJk, sJk, sJk, sJk, sJk]) (rest := []) rfl rfl rfl rfl ?_
  refine w_275 h hv.1.1 (Hv_Pv hv.1 (by omega)) (fun b hb => Vw_Wkb hv hb) (fun m hm => Vw_Wkm hv (by omega) hm) (Vw_cash hv (by omega)) (fun c hc => Vw_Wkc hv (by omega) h hc) (fun t3 h3 => ?_)
  refine sK_i (pc' := 300) rfl ?_
  refine x_if (a' := 316) (pc' := 303) (z := false) rfl rfl rfl (by decide) (fun h => by cases h) (fun _ => ?_)
  refine x_aload_n (pc' := 304) rfl rfl rfl rfl rfl ?_
  refine x_aload_n (pc' := 305) rfl rfl rfl rfl rfl ?_
  refine x_aload_n (pc' := 306) rfl rfl rfl rfl rfl ?_
  refine x_cs (ls0 := [_, _, _, sJk, sJk, sJk, sJk, sJk]) (rest := []) rfl rfl rfl rfl ?_
  refine w_276 h3 (Vw_Ook hv h3) (fun t4 h4 => ?_)
  refine sK_i (pc' := 309) rfl ?_
  refine x_if (a' := 316) (pc' := 312) (z := false) rfl rfl rfl (by decide) (fun h => by cases h) (fun _ => ?_)
  refine x_iconst (pc' := 313) rfl rfl ?_
  refine x_goto (pc' := 317) rfl rfl ?_
  exact x_retz (z := true) rfl rfl (Qw_ok h4 hv (by omega) (by omega))
theorem lw_all (hs : S9 ≤ 80) (hsL : 3 * S9 ≤ L) (hL31 : L < 2 ^ 31) : ∀ (d k : Nat) (t : sT) (M : sM) (n T A B : Nat) (pA : Nat → Int32), k + d = S9 → La t M n T A B xs L pA (io n) (io T) (io (ouN M)) → Vw M n k pA → A = 2000 + 1400 * k + 30 * T → B = 102000 + 8400 * k + 180 * T → X 297 185 [.inr (.inr (29, (some 0))), .inr (.inr (11, (some 0))), .inr (.inr (21, (some 0))), .inr (.inr (21, (some 1))), .inl 1, .inl (io S9), .inl (io k)] [] t Qw
  | 0, k, t, M, n, T, A, B, pA, hk, h, hv, hA, hB => by
    have e : k = S9 := by omega
    subst e
    have hT := (Hv_T hv.1).1
    have hTN := La_T h
    exact lw_end h hv hs (by omega) (by omega)
  | d + 1, k, t, M, n, T, A, B, pA, hk, h, hv, hA, hB =>
    lw_turn h hv (by omega) hs hsL hL31 (fun t' M' n' T' pA' h' V' g' => lw_all hs hsL hL31 d (k + 1) t' M' n' T' _ _ pA' (by omega) h' V' (by omega) (by omega))
theorem lw_from (h : La t M 0 0 (A) (B) xs L pA 0 0 0) (hv : Vw M 0 0 pA) (hD : D1 M 0) (hA : A ≤ 1000) (hB : B ≤ 100000) (hL31 : L < 2 ^ 31) : X 297 23 [.inr (.inr (29, (some 0))), .inr (.inr (11, (some 0))), .inr (.inr (21, (some 0))), .inr (.inr (21, (some 1))), .inl 1, .inl 0, sJk] [] t Qw := by
  have V0 := hv
  have F0 := hD
  refine lw_dep (k := 0) h V0 F0 (by decide) hL31 (fun t1 M1 h1 V1 F1 => ?_)
  refine lw_dep (k := 1) h1 V1 F1 (by decide) hL31 (fun t2 M2 h2 V2 F2 => ?_)
  refine lw_dep (k := 2) h2 V2 F2 (by decide) hL31 (fun t3 M3 h3 V3 F3 => ?_)
  refine lw_dep (k := 3) h3 V3 F3 (by decide) hL31 (fun t4 M4 h4 V4 F4 => ?_)
  refine lw_dep (k := 4) h4 V4 F4 (by decide) hL31 (fun t5 M5 h5 V5 F5 => ?_)
  refine lw_dep (k := 5) h5 V5 F5 (by decide) hL31 (fun t6 M6 h6 V6 F6 => ?_)
  refine x_iload (pc' := 25) rfl rfl rfl ?_
  refine x_bipush (pc' := 27) rfl rfl ?_
  refine x_icmp (a' := 84) (pc' := 30) (z := true) rfl rfl rfl (by decide) (fun _ => ?_) (fun h => by cases h)
  refine x_iconst (pc' := 85) rfl rfl ?_
  refine x_istore (pc' := 87) (ls' := [_, _, _, _, _, _, _]) rfl rfl rfl rfl ?_
  have E0 : D2 M6 0 := ⟨fun j _ h2 => F6.2.2.1 j h2, F6.2.2.2⟩
  have W0 := V6
  refine lw_book (k := 0) h6 W0 E0 (by decide) hL31 (fun u1 N1 g1 W1 E1 => ?_)
  refine lw_book (k := 1) g1 W1 E1 (by decide) hL31 (fun u2 N2 g2 W2 E2 => ?_)
  refine lw_book (k := 2) g2 W2 E2 (by decide) hL31 (fun u3 N3 g3 W3 E3 => ?_)
  refine lw_book (k := 3) g3 W3 E3 (by decide) hL31 (fun u4 N4 g4 W4 E4 => ?_)
  refine lw_book (k := 4) g4 W4 E4 (by decide) hL31 (fun u5 N5 g5 W5 E5 => ?_)
  refine x_iload (pc' := 89) rfl rfl rfl ?_
  refine x_iconst (pc' := 90) rfl rfl ?_
  refine x_icmp (a' := 162) (pc' := 93) (z := true) rfl rfl rfl (by decide) (fun _ => ?_) (fun h => by cases h)
  refine x_aload_n (pc' := 163) rfl rfl rfl rfl rfl ?_
  refine x_alen (pc' := 164) (N := L) rfl rfl rfl (La_len g5) ?_
  refine x_iconst (pc' := 165) rfl rfl ?_
  refine x_idiv (pc' := 166) (z := (io (L / 3))) rfl rfl (by decide) (io_div (p := L) (q := 3) hL31 (by decide)) ?_
  refine x_bipush (pc' := 168) rfl rfl ?_
  have g6 := La_mono (A' := 2000 + 1400 * 0 + 30 * 0) (B' := 102000 + 8400 * 0 + 180 * 0) (La_2 g5 ((congrArg io E5.2).symm)) (by omega) (by omega)
  by_cases hc : 80 < L / 3
  · skip
    refine x_icmp (a' := 176) (pc' := 171) (z := false) rfl rfl rfl (k_len (io_lt' (k := 80) hc (by omega))) (fun h => by cases h) (fun _ => ?_)
    refine x_bipush (pc' := 173) rfl rfl ?_
    refine x_goto (pc' := 180) rfl rfl ?_
    refine x_istore (pc' := 182) (ls' := [_, _, _, _, _, _, _]) rfl rfl rfl rfl ?_
    refine x_iconst (pc' := 183) rfl rfl ?_
    refine x_istore (pc' := 185) (ls' := [_, _, _, _, _, _, _]) rfl rfl rfl rfl ?_
    exact lw_all (S9 := 80) (Nat.le_refl 80) (by omega) hL31 80 0 _ _ _ _ _ _ _ rfl g6 W5 rfl rfl
  · skip
    refine x_icmp (a' := 176) (pc' := 171) (z := true) rfl rfl rfl (k_le (io_ltn (k := 80) hc (by decide) (by omega))) (fun _ => ?_) (fun h => by cases h)
    refine x_aload_n (pc' := 177) rfl rfl rfl rfl rfl ?_
    refine x_alen (pc' := 178) (N := L) rfl rfl rfl (La_len g5) ?_
    refine x_iconst (pc' := 179) rfl rfl ?_
    refine x_idiv (pc' := 180) (z := (io (L / 3))) rfl rfl (by decide) (io_div (p := L) (q := 3) hL31 (by decide)) ?_
    refine x_istore (pc' := 182) (ls' := [_, _, _, _, _, _, _]) rfl rfl rfl rfl ?_
    refine x_iconst (pc' := 183) rfl rfl ?_
    refine x_istore (pc' := 185) (ls' := [_, _, _, _, _, _, _]) rfl rfl rfl rfl ?_
    exact lw_all (S9 := L / 3) (by omega) (by omega) hL31 (L / 3) 0 _ _ _ _ _ _ _ (by omega) g6 W5 rfl rfl
theorem lw_D1 (_ : t = T16 L xs) : D1 M00 0 := ⟨fun j _ _ => sm_z (by decide), fun _ _ => rfl, fun b _ => sm_z (by decide), st_ou⟩
theorem lc_run (hL : L ≤ 260) (e : t = T16 L xs) : X 297 23 [.inr (.inr (29, (some 0))), .inr (.inr (11, (some 0))), .inr (.inr (21, (some 0))), .inr (.inr (21, (some 1))), .inl 1, .inl 0, sJk] [] t Qw := lw_from (st_La e) (st_Vw e) (lw_D1 e) (Nat.le_refl _) (Nat.le_refl _) (by omega)
theorem w_run (hL : L ≤ 260) : ∃ (f : Nat) (t' : sT), sRun f 297 0 (sEn [.inr (.inr (29, some 0))] 7) [] (sT0 L xs) = some (.inl (some (.inl 1)), t') ∧ sn t' ≤ 600074 ∧ sw t' ≤ 7301550 := by
  obtain ⟨f, r, t', h1, rfl, h2, h3⟩ := law_0 (lc_run (xs := xs) hL rfl)
  exact ⟨f, t', h1, h2, h3⟩
end Syo
