/-! the law's look at the whole (printed by genxd.py) -/
def r2048 (x : Int32) : Int32 := x - x / 2048 * 2048
/-- a book is as the law asks -/
def Wkb (M : sM) (n : Nat) (pA : Nat → Int32) (b : Nat) : Prop :=
  (∀ s k, bsF M n b s = some k → k < n ∧ mA M 19 k = 1 ∧ 0 < mA M 17 k) ∧
  (mA M 0 b = 2 ∨ (¬ bwF M n b true = some 0 ∧ ¬ bwF M n b false = some 0)) ∧
  (∀ k j, bsF M n b true = some k → bsF M n b false = some j → k < 64 → j < 64 → (auF M n b = -10000 ↔ r2048 (pA k) < r2048 (pA j))) ∧
  ∀ j, bsF M n b false = some j → j < 64 → bwF M n b true = some 0 → wyP M n b true = r2048 (pA j) - 600
/-- a member is as the law asks -/
def Wkm (M : sM) (n m : Nat) : Prop := (¬ maF M n m < 0) ∧ (¬ ndF M n m < maF M n m) ∧ (mB M 2 m = true → fdF M n m = 0)
/-- positions are as the law asks -/
def Wkc (M : sM) (n T c : Nat) : Prop := ((((((0 + mA M 6 (3 * 0 + c)) + mA M 6 (3 * 1 + c)) + mA M 6 (3 * 2 + c)) + mA M 6 (3 * 3 + c)) + mA M 6 (3 * 4 + c)) + mA M 6 (3 * 5 + c)) = 0 ∧ ∀ m, m < 6 → mA M 6 (3 * m + c) = rqL M n m c 0 T
section Sxd
variable {t t' t0 : sT} {M M' N N' : sM} {n n' T T' A A' B B' g L d e k K b m c E j f n0 : Nat} {xs pA : Nat → Int32} {c0 c1 c2 v w x y p a u : Int32} {Q : sRs → sT → Prop} {s z : Bool} {y4 y5 y6 y7 : sV} {r : Option Nat}
theorem o_ns (r : Option Nat) : r = none ∨ ∃ k, r = some k := by
  cases r with
  | none => exact Or.inl rfl
  | some k => exact Or.inr ⟨k, rfl⟩
theorem ov_n (h : r = none) : ov r = -1 := by rw [h]; rfl
theorem ov_s (h : r = some k) : ov r = io k := by rw [h]; rfl
theorem bw_3 (h : bwF M n b s = some k) : k < 3 := (bwF_ok h).1
theorem q104v (h : La t M n T A B xs L pA c0 c1 c2) (hv : v = io k) (hk : k < n) (q : ∀ t', La t' M n T (A + 2) (B + 12) xs L pA c0 c1 c2 → Q (.inl (some (.inl (mA M 19 k)))) t') : X 104 0 [.inr (.inr (11, (some 0))), .inl v] [] t Q := by
  subst hv; exact q104 h hk q
theorem q106v (h : La t M n T A B xs L pA c0 c1 c2) (hv : v = io k) (hk : k < n) (q : ∀ t', La t' M n T (A + 2) (B + 12) xs L pA c0 c1 c2 → Q (.inl (some (.inl (mA M 17 k)))) t') : X 106 0 [.inr (.inr (11, (some 0))), .inl v, sJk] [] t Q := by
  subst hv; exact q106 h hk q
set_option maxHeartbeats 4000000 in
theorem w_275b (h : La t M n T (A) (B) xs L pA (io n) c1 c2) (hK : Kv M n) (hP : Pv M) (hW : Wkb M n pA b) (hb : b < 5) (q : ∀ t' y6 y7, La t' M n T (A + 40) (B + 240) xs L pA (io n) c1 c2 → X 275 22 [.inr (.inr (11, (some 0))), .inr (.inr (21, (some 0))), .inr (.inr (21, (some 1))), .inl 1, .inl 0, .inl (io (b + 1)), y6, y7] [] t' Q) : X 275 22 [.inr (.inr (11, (some 0))), .inr (.inr (21, (some 0))), .inr (.inr (21, (some 1))), .inl 1, .inl 0, .inl (io b), y6, y7] [] t Q := by
  refine x_iload (pc' := 24) rfl rfl rfl ?_
  refine x_iconst (pc' := 25) rfl rfl ?_
  refine x_icmp (a' := 308) (pc' := 28) (z := false) rfl rfl rfl (k_gen (io_lt' hb (by decide))) (fun h => by cases h) (fun _ => ?_)
  refine x_aload_n (pc' := 29) rfl rfl rfl rfl rfl ?_
  refine x_iload (pc' := 31) rfl rfl rfl ?_
  refine x_iconst (pc' := 32) rfl rfl ?_
  refine x_cv (ls0 := [_, _, _]) (rest := []) rfl rfl rfl rfl rfl ?_
  refine q107 (s := true) h hb (fun t1 h1 => ?_)
  refine sK_i (pc' := 35) rfl ?_
  refine x_istore (pc' := 37) (ls' := [_, _, _, _, _, _, _, _]) rfl rfl rfl rfl ?_
  refine x_aload_n (pc' := 38) rfl rfl rfl rfl rfl ?_
  refine x_iload (pc' := 40) rfl rfl rfl ?_
  refine x_iconst (pc' := 41) rfl rfl ?_
  refine x_cv (ls0 := [_, _, _]) (rest := []) rfl rfl rfl rfl rfl ?_
  refine q107 (s := false) h1 hb (fun t2 h2 => ?_)
  refine sK_i (pc' := 44) rfl ?_
  refine x_istore (pc' := 46) (ls' := [_, _, _, _, _, _, _, _]) rfl rfl rfl rfl ?_
  refine x_iload_n (pc' := 47) rfl rfl rfl ?_
  refine x_if (a' := 128) (pc' := 50) (z := false) rfl rfl rfl (by decide) (fun h => by cases h) (fun _ => ?_)
  refine x_iload (pc' := 52) rfl rfl rfl ?_
  refine x_aload_n (pc' := 53) rfl rfl rfl rfl rfl ?_
  refine x_iload (pc' := 55) rfl rfl rfl ?_
  refine x_iconst (pc' := 56) rfl rfl ?_
  refine x_cv (ls0 := [_, _, _]) (rest := [_]) rfl rfl rfl rfl rfl ?_
  refine q108 (s := true) h2 hb (fun t3 h3 => ?_)
  refine sK_i (pc' := 59) rfl ?_
  refine x_icmp (a' := 128) (pc' := 62) (z := false) rfl rfl rfl (k_nen rfl) (fun h => by cases h) (fun _ => ?_)
  refine x_iload (pc' := 64) rfl rfl rfl ?_
  refine x_aload_n (pc' := 65) rfl rfl rfl rfl rfl ?_
  refine x_iload (pc' := 67) rfl rfl rfl ?_
  refine x_iconst (pc' := 68) rfl rfl ?_
  refine x_cv (ls0 := [_, _, _]) (rest := [_]) rfl rfl rfl rfl rfl ?_
  refine q108 (s := false) h3 hb (fun t4 h4 => ?_)
  refine sK_i (pc' := 71) rfl ?_
  refine x_icmp (a' := 128) (pc' := 74) (z := false) rfl rfl rfl (k_nen rfl) (fun h => by cases h) (fun _ => ?_)
  refine x_iload (pc' := 76) rfl rfl rfl ?_
  refine x_iconst (pc' := 77) rfl rfl ?_
  obtain ⟨f1, f2, f3, f4⟩ := hW
  have J248 : ∀ u248, La u248 M n T (A + 32) (B + 192) xs L pA (io n) c1 c2 → X 275 248 [.inr (.inr (11, (some 0))), .inr (.inr (21, (some 0))), .inr (.inr (21, (some 1))), .inl 1, .inl 0, .inl (io b), .inl (ov (bsF M n b true)), .inl (ov (bsF M n b false))] [] u248 Q := fun u248 g248 => by
    refine x_iload_n (pc' := 249) rfl rfl rfl ?_
    refine x_if (a' := 300) (pc' := 252) (z := false) rfl rfl rfl (by decide) (fun h => by cases h) (fun _ => ?_)
    refine x_iload (pc' := 254) rfl rfl rfl ?_
    have J296 : ∀ u, La u M n T (A + 38) (B + 228) xs L pA (io n) c1 c2 → X 275 296 [.inr (.inr (11, (some 0))), .inr (.inr (21, (some 0))), .inr (.inr (21, (some 1))), .inl 1, .inl 0, .inl (io b), .inl (ov (bsF M n b true)), .inl (ov (bsF M n b false))] [] u Q := fun u hu => by
      refine x_iconst (pc' := 297) rfl rfl ?_
      refine x_goto (pc' := 301) rfl rfl ?_
      refine x_istore_n (pc' := 302) (ls' := [_, _, _, _, _, _, _, _]) rfl rfl rfl rfl ?_
      refine x_iinc (pc' := 305) (y := (io (b + 1))) (ls' := [_, _, _, _, _, _, _, _]) rfl rfl rfl (io_add b 1) rfl ?_
      refine x_goto (pc' := 22) rfl rfl ?_
      exact q _ _ _ (La_mono hu (by omega) (by omega))
    rcases o_ns (bsF M n b false) with e2 | ⟨j, e2⟩
    · skip
      refine x_if (a' := 296) (pc' := 257) (z := true) rfl rfl rfl (k_lt (by rw [ov_n e2]; decide)) (fun _ => ?_) (fun h => by cases h)
      exact J296 _ (La_mono g248 (by omega) (by omega))
    · have v2 := ov_s e2
      obtain ⟨i1, i2, i3⟩ := f1 false j e2
      have hn := La_n h
      refine x_if (a' := 296) (pc' := 257) (z := false) rfl rfl rfl (k_ltn (by rw [v2]; exact io_n0 (by omega))) (fun h => by cases h) (fun _ => ?_)
      refine x_iload (pc' := 259) rfl rfl rfl ?_
      refine x_bipush (pc' := 261) rfl rfl ?_
      by_cases h64 : j < 64
      · skip
        refine x_icmp (a' := 296) (pc' := 264) (z := false) rfl rfl rfl (k_gtn (by rw [v2]; exact io_ltn (k := 63) (K := j) (by omega) (by decide) (by omega))) (fun h => by cases h) (fun _ => ?_)
        refine x_aload_n (pc' := 265) rfl rfl rfl rfl rfl ?_
        refine x_iload (pc' := 267) rfl rfl rfl ?_
        refine x_iconst (pc' := 268) rfl rfl ?_
        refine x_cv (ls0 := [_, _, _]) (rest := []) rfl rfl rfl rfl rfl ?_
        refine q109 (s := true) g248 hK hb (fun t24801 h24801 => ?_)
        refine sK_i (pc' := 271) rfl ?_
        by_cases e3 : bwF M n b true = some 0
        · skip
          refine x_if (a' := 296) (pc' := 274) (z := false) rfl rfl rfl (k_nen (ov_s e3)) (fun h => by cases h) (fun _ => ?_)
          refine x_aload_n (pc' := 275) rfl rfl rfl rfl rfl ?_
          refine x_iload (pc' := 277) rfl rfl rfl ?_
          refine x_iconst (pc' := 278) rfl rfl ?_
          refine x_cv (ls0 := [_, _, _, sJk]) (rest := []) rfl rfl rfl rfl rfl ?_
          refine q110 (s := true) h24801 hK hb (fun t24802 h24802 => ?_)
          refine sK_i (pc' := 281) rfl ?_
          refine x_aload_n (pc' := 282) rfl rfl rfl rfl rfl ?_
          refine x_iload (pc' := 284) rfl rfl rfl ?_
          refine x_iald (pc' := 285) (N := 64) (x := pA j) rfl rfl rfl (La_n0 h24802) (by rw [v2]; exact io_in (p := j) (N := 64) h64 (by decide)) (by rw [v2]; exact La_p h24802 h64) ?_
          refine x_sipush (pc' := 288) rfl rfl ?_
          refine x_irem (pc' := 289) (z := (r2048 (pA j))) rfl rfl (by decide) rfl ?_
          refine x_sipush (pc' := 292) rfl rfl ?_
          refine x_isub (pc' := 293) (z := (r2048 (pA j) - 600)) rfl rfl rfl ?_
          refine x_icmp (a' := 300) (pc' := 296) (z := false) rfl rfl rfl (k_nen (f4 j e2 h64 e3)) (fun h => by cases h) (fun _ => ?_)
          exact J296 _ (La_mono h24802 (by omega) (by omega))
        · skip
          refine x_if (a' := 296) (pc' := 274) (z := true) rfl rfl rfl (k_ne (fun z => by
            rcases o_ns (bwF M n b true) with e5 | ⟨i, e5⟩
            · rw [ov_n e5] at z; exact absurd z (by decide)
            · have i3 := bw_3 e5
              rw [ov_s e5] at z
              have i0 := (io_inj (p := i) (q := 0) (by omega) (by decide)).mp z
              rw [i0] at e5
              exact e3 e5)) (fun _ => ?_) (fun h => by cases h)
          exact J296 _ (La_mono h24801 (by omega) (by omega))
      · skip
        refine x_icmp (a' := 296) (pc' := 264) (z := true) rfl rfl rfl (k_gt (by rw [v2]; exact io_lt' (k := 63) (K := j) (by omega) (by omega))) (fun _ => ?_) (fun h => by cases h)
        exact J296 _ (La_mono g248 (by omega) (by omega))
  have J170 : ∀ u170, La u170 M n T (A + 24) (B + 144) xs L pA (io n) c1 c2 → X 275 170 [.inr (.inr (11, (some 0))), .inr (.inr (21, (some 0))), .inr (.inr (21, (some 1))), .inl 1, .inl 0, .inl (io b), .inl (ov (bsF M n b true)), .inl (ov (bsF M n b false))] [] u170 Q := fun u170 g170 => by
    refine x_iload_n (pc' := 171) rfl rfl rfl ?_
    refine x_if (a' := 246) (pc' := 174) (z := false) rfl rfl rfl (by decide) (fun h => by cases h) (fun _ => ?_)
    refine x_iload (pc' := 176) rfl rfl rfl ?_
    have J242 : ∀ u, La u M n T (A + 32) (B + 192) xs L pA (io n) c1 c2 → X 275 242 [.inr (.inr (11, (some 0))), .inr (.inr (21, (some 0))), .inr (.inr (21, (some 1))), .inl 1, .inl 0, .inl (io b), .inl (ov (bsF M n b true)), .inl (ov (bsF M n b false))] [] u Q := fun u hu => by
      refine x_iconst (pc' := 243) rfl rfl ?_
      refine x_goto (pc' := 247) rfl rfl ?_
      refine x_istore_n (pc' := 248) (ls' := [_, _, _, _, _, _, _, _]) rfl rfl rfl rfl ?_
      exact J248 _ (La_mono hu (by omega) (by omega))
    rcases o_ns (bsF M n b true) with e1 | ⟨k, e1⟩
    · skip
      refine x_if (a' := 242) (pc' := 179) (z := true) rfl rfl rfl (k_lt (by rw [ov_n e1]; decide)) (fun _ => ?_) (fun h => by cases h)
      exact J242 _ (La_mono g170 (by omega) (by omega))
    · have v1 := ov_s e1
      obtain ⟨i1, i2, i3⟩ := f1 true k e1
      have hn := La_n h
      refine x_if (a' := 242) (pc' := 179) (z := false) rfl rfl rfl (k_ltn (by rw [v1]; exact io_n0 (by omega))) (fun h => by cases h) (fun _ => ?_)
      refine x_iload (pc' := 181) rfl rfl rfl ?_
      rcases o_ns (bsF M n b false) with e2 | ⟨j, e2⟩
      · skip
        refine x_if (a' := 242) (pc' := 184) (z := true) rfl rfl rfl (k_lt (by rw [ov_n e2]; decide)) (fun _ => ?_) (fun h => by cases h)
        exact J242 _ (La_mono g170 (by omega) (by omega))
      · have v2 := ov_s e2
        obtain ⟨j1, j2, j3⟩ := f1 false j e2
        refine x_if (a' := 242) (pc' := 184) (z := false) rfl rfl rfl (k_ltn (by rw [v2]; exact io_n0 (by omega))) (fun h => by cases h) (fun _ => ?_)
        refine x_iload (pc' := 186) rfl rfl rfl ?_
        refine x_bipush (pc' := 188) rfl rfl ?_
        by_cases k64 : k < 64
        · skip
          refine x_icmp (a' := 242) (pc' := 191) (z := false) rfl rfl rfl (k_gtn (by rw [v1]; exact io_ltn (k := 63) (K := k) (by omega) (by decide) (by omega))) (fun h => by cases h) (fun _ => ?_)
          refine x_iload (pc' := 193) rfl rfl rfl ?_
          refine x_bipush (pc' := 195) rfl rfl ?_
          by_cases j64 : j < 64
          · skip
            refine x_icmp (a' := 242) (pc' := 198) (z := false) rfl rfl rfl (k_gtn (by rw [v2]; exact io_ltn (k := 63) (K := j) (by omega) (by decide) (by omega))) (fun h => by cases h) (fun _ => ?_)
            refine x_aload_n (pc' := 199) rfl rfl rfl rfl rfl ?_
            refine x_iload (pc' := 201) rfl rfl rfl ?_
            refine x_iald (pc' := 202) (N := 64) (x := pA k) rfl rfl rfl (La_n0 g170) (by rw [v1]; exact io_in (p := k) (N := 64) k64 (by decide)) (by rw [v1]; exact La_p g170 k64) ?_
            refine x_sipush (pc' := 205) rfl rfl ?_
            refine x_irem (pc' := 206) (z := (r2048 (pA k))) rfl rfl (by decide) rfl ?_
            refine x_aload_n (pc' := 207) rfl rfl rfl rfl rfl ?_
            refine x_iload (pc' := 209) rfl rfl rfl ?_
            refine x_iald (pc' := 210) (N := 64) (x := pA j) rfl rfl rfl (La_n0 g170) (by rw [v2]; exact io_in (p := j) (N := 64) j64 (by decide)) (by rw [v2]; exact La_p g170 j64) ?_
            refine x_sipush (pc' := 213) rfl rfl ?_
            refine x_irem (pc' := 214) (z := (r2048 (pA j))) rfl rfl (by decide) rfl ?_
            have f3 := f3 k j e1 e2 k64 j64
            by_cases hc : r2048 (pA k) < r2048 (pA j)
            · skip
              refine x_icmp (a' := 221) (pc' := 217) (z := true) rfl rfl rfl (k_lt hc) (fun _ => ?_) (fun h => by cases h)
              refine x_iconst (pc' := 222) rfl rfl ?_
              refine x_aload_n (pc' := 223) rfl rfl rfl rfl rfl ?_
              refine x_iload (pc' := 225) rfl rfl rfl ?_
              refine x_cv (ls0 := [_, _]) (rest := [_]) rfl rfl rfl rfl rfl ?_
              refine q111 g170 hK hb (fun t17001 h17001 => ?_)
              refine sK_i (pc' := 228) rfl ?_
              refine x_sipush (pc' := 231) rfl rfl ?_
              refine x_icmp (a' := 238) (pc' := 234) (z := true) rfl rfl rfl (k_eq (f3.mpr hc)) (fun _ => ?_) (fun h => by cases h)
              refine x_iconst (pc' := 239) rfl rfl ?_
              refine x_icmp (a' := 246) (pc' := 242) (z := false) rfl rfl rfl (by decide) (fun h => by cases h) (fun _ => ?_)
              exact J242 _ (La_mono h17001 (by omega) (by omega))
            · skip
              refine x_icmp (a' := 221) (pc' := 217) (z := false) rfl rfl rfl (k_ltn hc) (fun h => by cases h) (fun _ => ?_)
              refine x_iconst (pc' := 218) rfl rfl ?_
              refine x_goto (pc' := 222) rfl rfl ?_
              refine x_aload_n (pc' := 223) rfl rfl rfl rfl rfl ?_
              refine x_iload (pc' := 225) rfl rfl rfl ?_
              refine x_cv (ls0 := [_, _]) (rest := [_]) rfl rfl rfl rfl rfl ?_
              refine q111 g170 hK hb (fun t17001 h17001 => ?_)
              refine sK_i (pc' := 228) rfl ?_
              refine x_sipush (pc' := 231) rfl rfl ?_
              refine x_icmp (a' := 238) (pc' := 234) (z := false) rfl rfl rfl (k_eqn (fun z => hc (f3.mp z))) (fun h => by cases h) (fun _ => ?_)
              refine x_iconst (pc' := 235) rfl rfl ?_
              refine x_goto (pc' := 239) rfl rfl ?_
              refine x_icmp (a' := 246) (pc' := 242) (z := false) rfl rfl rfl (by decide) (fun h => by cases h) (fun _ => ?_)
              exact J242 _ (La_mono h17001 (by omega) (by omega))
          · skip
            refine x_icmp (a' := 242) (pc' := 198) (z := true) rfl rfl rfl (k_gt (by rw [v2]; exact io_lt' (k := 63) (K := j) (by omega) (by omega))) (fun _ => ?_) (fun h => by cases h)
            exact J242 _ (La_mono g170 (by omega) (by omega))
        · skip
          refine x_icmp (a' := 242) (pc' := 191) (z := true) rfl rfl rfl (k_gt (by rw [v1]; exact io_lt' (k := 63) (K := k) (by omega) (by omega))) (fun _ => ?_) (fun h => by cases h)
          exact J242 _ (La_mono g170 (by omega) (by omega))
  have J130 : ∀ u130, La u130 M n T (A + 16) (B + 96) xs L pA (io n) c1 c2 → X 275 130 [.inr (.inr (11, (some 0))), .inr (.inr (21, (some 0))), .inr (.inr (21, (some 1))), .inl 1, .inl 0, .inl (io b), .inl (ov (bsF M n b true)), .inl (ov (bsF M n b false))] [] u130 Q := fun u130 g130 => by
    refine x_iload_n (pc' := 131) rfl rfl rfl ?_
    refine x_if (a' := 168) (pc' := 134) (z := false) rfl rfl rfl (by decide) (fun h => by cases h) (fun _ => ?_)
    refine x_aload_n (pc' := 135) rfl rfl rfl rfl rfl ?_
    refine x_iload (pc' := 137) rfl rfl rfl ?_
    refine x_cv (ls0 := [_, _]) (rest := []) rfl rfl rfl rfl rfl ?_
    refine q102 g130 hb (fun t13001 h13001 => ?_)
    refine sK_i (pc' := 140) rfl ?_
    refine x_iconst (pc' := 141) rfl rfl ?_
    by_cases e3 : mA M 0 b = 2
    · skip
      refine x_icmp (a' := 164) (pc' := 144) (z := true) rfl rfl rfl (k_eq e3) (fun _ => ?_) (fun h => by cases h)
      refine x_iconst (pc' := 165) rfl rfl ?_
      refine x_goto (pc' := 169) rfl rfl ?_
      refine x_istore_n (pc' := 170) (ls' := [_, _, _, _, _, _, _, _]) rfl rfl rfl rfl ?_
      exact J170 _ (La_mono h13001 (by omega) (by omega))
    · obtain ⟨g1, g2⟩ : ¬ bwF M n b true = some 0 ∧ ¬ bwF M n b false = some 0 := f2.resolve_left e3
      refine x_icmp (a' := 164) (pc' := 144) (z := false) rfl rfl rfl (k_eqn e3) (fun h => by cases h) (fun _ => ?_)
      refine x_aload_n (pc' := 145) rfl rfl rfl rfl rfl ?_
      refine x_iload (pc' := 147) rfl rfl rfl ?_
      refine x_iconst (pc' := 148) rfl rfl ?_
      refine x_cv (ls0 := [_, _, _]) (rest := []) rfl rfl rfl rfl rfl ?_
      refine q109 (s := true) h13001 hK hb (fun t13002 h13002 => ?_)
      refine sK_i (pc' := 151) rfl ?_
      refine x_if (a' := 168) (pc' := 154) (z := false) rfl rfl rfl (k_eqn (fun z => by
        rcases o_ns (bwF M n b true) with e5 | ⟨i, e5⟩
        · rw [ov_n e5] at z; exact absurd z (by decide)
        · have i3 := bw_3 e5
          rw [ov_s e5] at z
          have i0 := (io_inj (p := i) (q := 0) (by omega) (by decide)).mp z
          rw [i0] at e5
          exact g1 e5)) (fun h => by cases h) (fun _ => ?_)
      refine x_aload_n (pc' := 155) rfl rfl rfl rfl rfl ?_
      refine x_iload (pc' := 157) rfl rfl rfl ?_
      refine x_iconst (pc' := 158) rfl rfl ?_
      refine x_cv (ls0 := [_, _, _]) (rest := []) rfl rfl rfl rfl rfl ?_
      refine q109 (s := false) h13002 hK hb (fun t13003 h13003 => ?_)
      refine sK_i (pc' := 161) rfl ?_
      refine x_if (a' := 168) (pc' := 164) (z := false) rfl rfl rfl (k_eqn (fun z => by
        rcases o_ns (bwF M n b false) with e5 | ⟨i, e5⟩
        · rw [ov_n e5] at z; exact absurd z (by decide)
        · have i3 := bw_3 e5
          rw [ov_s e5] at z
          have i0 := (io_inj (p := i) (q := 0) (by omega) (by decide)).mp z
          rw [i0] at e5
          exact g2 e5)) (fun h => by cases h) (fun _ => ?_)
      refine x_iconst (pc' := 165) rfl rfl ?_
      refine x_goto (pc' := 169) rfl rfl ?_
      refine x_istore_n (pc' := 170) (ls' := [_, _, _, _, _, _, _, _]) rfl rfl rfl rfl ?_
      exact J170 _ (La_mono h13003 (by omega) (by omega))
  have J124 : ∀ u124, La u124 M n T (A + 16) (B + 96) xs L pA (io n) c1 c2 → X 275 124 [.inr (.inr (11, (some 0))), .inr (.inr (21, (some 0))), .inr (.inr (21, (some 1))), .inl 1, .inl 0, .inl (io b), .inl (ov (bsF M n b true)), .inl (ov (bsF M n b false))] [] u124 Q := fun u124 g124 => by
    refine x_iconst (pc' := 125) rfl rfl ?_
    refine x_goto (pc' := 129) rfl rfl ?_
    refine x_istore_n (pc' := 130) (ls' := [_, _, _, _, _, _, _, _]) rfl rfl rfl rfl ?_
    exact J130 _ (La_mono g124 (by omega) (by omega))
  have J99 : ∀ u99, La u99 M n T (A + 12) (B + 72) xs L pA (io n) c1 c2 → X 275 99 [.inr (.inr (11, (some 0))), .inr (.inr (21, (some 0))), .inr (.inr (21, (some 1))), .inl 1, .inl 0, .inl (io b), .inl (ov (bsF M n b true)), .inl (ov (bsF M n b false))] [] u99 Q := fun u99 g99 => by
    refine x_iload (pc' := 101) rfl rfl rfl ?_
    refine x_iconst (pc' := 102) rfl rfl ?_
    rcases o_ns (bsF M n b false) with e2 | ⟨j, e2⟩
    · skip
      refine x_icmp (a' := 124) (pc' := 105) (z := true) rfl rfl rfl (k_eq (ov_n e2)) (fun _ => ?_) (fun h => by cases h)
      exact J124 _ (La_mono g99 (by omega) (by omega))
    · have v2 := ov_s e2
      obtain ⟨i1, i2, i3⟩ := f1 false j e2
      have hn := La_n h
      refine x_icmp (a' := 124) (pc' := 105) (z := false) rfl rfl rfl (k_eqn (by rw [v2]; exact io_ne1 (by omega))) (fun h => by cases h) (fun _ => ?_)
      refine x_aload_n (pc' := 106) rfl rfl rfl rfl rfl ?_
      refine x_iload (pc' := 108) rfl rfl rfl ?_
      refine x_cv (ls0 := [_, _]) (rest := []) rfl rfl rfl rfl rfl ?_
      refine q104v g99 v2 i1 (fun t9901 h9901 => ?_)
      refine sK_i (pc' := 111) rfl ?_
      refine x_iconst (pc' := 112) rfl rfl ?_
      refine x_icmp (a' := 128) (pc' := 115) (z := false) rfl rfl rfl (k_nen i2) (fun h => by cases h) (fun _ => ?_)
      refine x_aload_n (pc' := 116) rfl rfl rfl rfl rfl ?_
      refine x_iload (pc' := 118) rfl rfl rfl ?_
      refine x_cv (ls0 := [_, _, sJk]) (rest := []) rfl rfl rfl rfl rfl ?_
      refine q106v h9901 v2 i1 (fun t9902 h9902 => ?_)
      refine sK_i (pc' := 121) rfl ?_
      refine x_if (a' := 128) (pc' := 124) (z := false) rfl rfl rfl (k_len i3) (fun h => by cases h) (fun _ => ?_)
      exact J124 _ (La_mono h9902 (by omega) (by omega))
  rcases o_ns (bsF M n b true) with e1 | ⟨k, e1⟩
  · skip
    refine x_icmp (a' := 99) (pc' := 80) (z := true) rfl rfl rfl (k_eq (ov_n e1)) (fun _ => ?_) (fun h => by cases h)
    exact J99 _ (La_mono h4 (by omega) (by omega))
  · have v1 := ov_s e1
    obtain ⟨i1, i2, i3⟩ := f1 true k e1
    have hn := La_n h
    refine x_icmp (a' := 99) (pc' := 80) (z := false) rfl rfl rfl (k_eqn (by rw [v1]; exact io_ne1 (by omega))) (fun h => by cases h) (fun _ => ?_)
    refine x_aload_n (pc' := 81) rfl rfl rfl rfl rfl ?_
    refine x_iload (pc' := 83) rfl rfl rfl ?_
    refine x_cv (ls0 := [_, _]) (rest := []) rfl rfl rfl rfl rfl ?_
    refine q104v h4 v1 i1 (fun t5 h5 => ?_)
    refine sK_i (pc' := 86) rfl ?_
    refine x_iconst (pc' := 87) rfl rfl ?_
    refine x_icmp (a' := 128) (pc' := 90) (z := false) rfl rfl rfl (k_nen i2) (fun h => by cases h) (fun _ => ?_)
    refine x_aload_n (pc' := 91) rfl rfl rfl rfl rfl ?_
    refine x_iload (pc' := 93) rfl rfl rfl ?_
    refine x_cv (ls0 := [_, _, sJk]) (rest := []) rfl rfl rfl rfl rfl ?_
    refine q106v h5 v1 i1 (fun t6 h6 => ?_)
    refine sK_i (pc' := 96) rfl ?_
    refine x_if (a' := 128) (pc' := 99) (z := false) rfl rfl rfl (k_len i3) (fun h => by cases h) (fun _ => ?_)
    exact J99 _ (La_mono h6 (by omega) (by omega))
theorem w_275m (h : La t M n T (A) (B) xs L pA (io n) c1 c2) (hK : Kv M n) (hP : Pv M) (hW : Wkm M n m) (hm : m < 6) (q : ∀ t', La t' M n T (A + 12) (B + 72) xs L pA (io n) c1 c2 → X 275 311 [.inr (.inr (11, (some 0))), .inr (.inr (21, (some 0))), .inr (.inr (21, (some 1))), .inl 1, .inl (x + mA M 5 m), .inl (io (m + 1)), y6, y7] [] t' Q) : X 275 311 [.inr (.inr (11, (some 0))), .inr (.inr (21, (some 0))), .inr (.inr (21, (some 1))), .inl 1, .inl x, .inl (io m), y6, y7] [] t Q := by
  refine x_iload (pc' := 313) rfl rfl rfl ?_
  refine x_bipush (pc' := 315) rfl rfl ?_
  refine x_icmp (a' := 387) (pc' := 318) (z := false) rfl rfl rfl (k_gen (io_lt' hm (by decide))) (fun h => by cases h) (fun _ => ?_)
  refine x_iload (pc' := 320) rfl rfl rfl ?_
  refine x_aload_n (pc' := 321) rfl rfl rfl rfl rfl ?_
  refine x_iload (pc' := 323) rfl rfl rfl ?_
  refine x_cv (ls0 := [_, _]) (rest := [_]) rfl rfl rfl rfl rfl ?_
  refine q118 h hm (fun t1 h1 => ?_)
  refine sK_i (pc' := 326) rfl ?_
  refine x_iadd (pc' := 327) (z := (x + mA M 5 m)) rfl rfl rfl ?_
  refine x_istore (pc' := 329) (ls' := [_, _, _, _, _, _, _, _]) rfl rfl rfl rfl ?_
  refine x_iload_n (pc' := 330) rfl rfl rfl ?_
  refine x_if (a' := 379) (pc' := 333) (z := false) rfl rfl rfl (by decide) (fun h => by cases h) (fun _ => ?_)
  obtain ⟨f1, f2, f3⟩ := hW
  refine x_aload_n (pc' := 334) rfl rfl rfl rfl rfl ?_
  refine x_iload (pc' := 336) rfl rfl rfl ?_
  refine x_cv (ls0 := [_, _]) (rest := []) rfl rfl rfl rfl rfl ?_
  refine q120 h1 hm (fun t2 h2 => ?_)
  refine sK_i (pc' := 339) rfl ?_
  refine x_if (a' := 379) (pc' := 342) (z := false) rfl rfl rfl (k_ltn f1) (fun h => by cases h) (fun _ => ?_)
  refine x_aload_n (pc' := 343) rfl rfl rfl rfl rfl ?_
  refine x_iload (pc' := 345) rfl rfl rfl ?_
  refine x_cv (ls0 := [_, _]) (rest := []) rfl rfl rfl rfl rfl ?_
  refine q121 h2 hK hP hm (fun t3 h3 => ?_)
  refine sK_i (pc' := 348) rfl ?_
  refine x_aload_n (pc' := 349) rfl rfl rfl rfl rfl ?_
  refine x_iload (pc' := 351) rfl rfl rfl ?_
  refine x_cv (ls0 := [_, _]) (rest := [_]) rfl rfl rfl rfl rfl ?_
  refine q120 h3 hm (fun t4 h4 => ?_)
  refine sK_i (pc' := 354) rfl ?_
  refine x_icmp (a' := 379) (pc' := 357) (z := false) rfl rfl rfl (k_ltn f2) (fun h => by cases h) (fun _ => ?_)
  refine x_aload_n (pc' := 358) rfl rfl rfl rfl rfl ?_
  refine x_iload (pc' := 360) rfl rfl rfl ?_
  refine x_cv (ls0 := [_, _]) (rest := []) rfl rfl rfl rfl rfl ?_
  refine q123 h4 hm (fun t5 h5 => ?_)
  refine sK_i (pc' := 363) rfl ?_
  have J375 : ∀ u, La u M n T (A + 12) (B + 72) xs L pA (io n) c1 c2 → X 275 375 [.inr (.inr (11, (some 0))), .inr (.inr (21, (some 0))), .inr (.inr (21, (some 1))), .inl 1, .inl (x + mA M 5 m), .inl (io m), y6, y7] [] u Q := fun u hu => by
    refine x_iconst (pc' := 376) rfl rfl ?_
    refine x_goto (pc' := 380) rfl rfl ?_
    refine x_istore_n (pc' := 381) (ls' := [_, _, _, _, _, _, _, _]) rfl rfl rfl rfl ?_
    refine x_iinc (pc' := 384) (y := (io (m + 1))) (ls' := [_, _, _, _, _, _, _, _]) rfl rfl rfl (io_add m 1) rfl ?_
    refine x_goto (pc' := 311) rfl rfl ?_
    exact q _ (La_mono hu (by omega) (by omega))
  cases ho : mB M 2 m with
  | false =>
    refine x_if (a' := 375) (pc' := 366) (z := true) rfl rfl rfl (by decide) (fun _ => ?_) (fun h => by cases h)
    exact J375 _ (La_mono h5 (by omega) (by omega))
  | true =>
    refine x_if (a' := 375) (pc' := 366) (z := false) rfl rfl rfl (by decide) (fun h => by cases h) (fun _ => ?_)
    refine x_aload_n (pc' := 367) rfl rfl rfl rfl rfl ?_
    refine x_iload (pc' := 369) rfl rfl rfl ?_
    refine x_cv (ls0 := [_, _]) (rest := []) rfl rfl rfl rfl rfl ?_
    refine q119 h5 hm (fun t6 h6 => ?_)
    refine sK_i (pc' := 372) rfl ?_
    refine x_if (a' := 379) (pc' := 375) (z := false) rfl rfl rfl (k_nen (f3 ho)) (fun h => by cases h) (fun _ => ?_)
    exact J375 _ (La_mono h6 (by omega) (by omega))
theorem w_275c (h : La t M n T (A) (B) xs L pA (io n) c1 c2) (hE : mA M 6 (3 * m + c) = rqL M n m c 0 T) (hm : m < 6) (hc : c < 3) (q : ∀ t', La t' M n T (A + 8) (B + 48) xs L pA (io n) c1 c2 → X 275 427 [.inr (.inr (11, (some 0))), .inr (.inr (21, (some 0))), .inr (.inr (21, (some 1))), .inl 1, .inl y, .inl (io c), .inl (x + mA M 6 (3 * m + c)), .inl (io (m + 1))] [] t' Q) : X 275 427 [.inr (.inr (11, (some 0))), .inr (.inr (21, (some 0))), .inr (.inr (21, (some 1))), .inl 1, .inl y, .inl (io c), .inl x, .inl (io m)] [] t Q := by
  refine x_iload (pc' := 429) rfl rfl rfl ?_
  refine x_bipush (pc' := 431) rfl rfl ?_
  refine x_icmp (a' := 482) (pc' := 434) (z := false) rfl rfl rfl (k_gen (io_lt' hm (by decide))) (fun h => by cases h) (fun _ => ?_)
  refine x_iload (pc' := 436) rfl rfl rfl ?_
  refine x_aload_n (pc' := 437) rfl rfl rfl rfl rfl ?_
  refine x_iload (pc' := 439) rfl rfl rfl ?_
  refine x_iload (pc' := 441) rfl rfl rfl ?_
  refine x_cv (ls0 := [_, _, _, sJk]) (rest := [_]) rfl rfl rfl rfl rfl ?_
  refine q116 h hm hc (fun t1 h1 => ?_)
  refine sK_i (pc' := 444) rfl ?_
  refine x_iadd (pc' := 445) (z := (x + mA M 6 (3 * m + c))) rfl rfl rfl ?_
  refine x_istore (pc' := 447) (ls' := [_, _, _, _, _, _, _, _]) rfl rfl rfl rfl ?_
  refine x_iload_n (pc' := 448) rfl rfl rfl ?_
  refine x_if (a' := 474) (pc' := 451) (z := false) rfl rfl rfl (by decide) (fun h => by cases h) (fun _ => ?_)
  refine x_aload_n (pc' := 452) rfl rfl rfl rfl rfl ?_
  refine x_iload (pc' := 454) rfl rfl rfl ?_
  refine x_iload (pc' := 456) rfl rfl rfl ?_
  refine x_cv (ls0 := [_, _, _, sJk]) (rest := []) rfl rfl rfl rfl rfl ?_
  refine q116 h1 hm hc (fun t2 h2 => ?_)
  refine sK_i (pc' := 459) rfl ?_
  refine x_aload_n (pc' := 460) rfl rfl rfl rfl rfl ?_
  refine x_iload (pc' := 462) rfl rfl rfl ?_
  refine x_iload (pc' := 464) rfl rfl rfl ?_
  refine x_cv (ls0 := [_, _, _, sJk]) (rest := [_]) rfl rfl rfl rfl rfl ?_
  refine q117 h2 hm hc (fun t3 h3 => ?_)
  refine sK_i (pc' := 467) rfl ?_
  refine x_icmp (a' := 474) (pc' := 470) (z := false) rfl rfl rfl (k_nen hE) (fun h => by cases h) (fun _ => ?_)
  refine x_iconst (pc' := 471) rfl rfl ?_
  refine x_goto (pc' := 475) rfl rfl ?_
  refine x_istore_n (pc' := 476) (ls' := [_, _, _, _, _, _, _, _]) rfl rfl rfl rfl ?_
  refine x_iinc (pc' := 479) (y := (io (m + 1))) (ls' := [_, _, _, _, _, _, _, _]) rfl rfl rfl (io_add m 1) rfl ?_
  refine x_goto (pc' := 427) rfl rfl ?_
  exact q _ (La_mono h3 (by omega) (by omega))
theorem w_275k (h : La t M n T (A) (B) xs L pA (io n) c1 c2) (hW : Wkc M n T c) (hc : c < 3) (q : ∀ t' y6 y7, La t' M n T (A + 48) (B + 288) xs L pA (io n) c1 c2 → X 275 411 [.inr (.inr (11, (some 0))), .inr (.inr (21, (some 0))), .inr (.inr (21, (some 1))), .inl 1, .inl y, .inl (io (c + 1)), y6, y7] [] t' Q) : X 275 411 [.inr (.inr (11, (some 0))), .inr (.inr (21, (some 0))), .inr (.inr (21, (some 1))), .inl 1, .inl y, .inl (io c), y6, y7] [] t Q := by
  refine x_iload (pc' := 413) rfl rfl rfl ?_
  refine x_iconst (pc' := 414) rfl rfl ?_
  refine x_icmp (a' := 503) (pc' := 417) (z := false) rfl rfl rfl (k_gen (io_lt' hc (by decide))) (fun h => by cases h) (fun _ => ?_)
  refine x_iload_n (pc' := 418) rfl rfl rfl ?_
  refine x_if (a' := 503) (pc' := 421) (z := false) rfl rfl rfl (by decide) (fun h => by cases h) (fun _ => ?_)
  refine x_iconst (pc' := 422) rfl rfl ?_
  refine x_istore (pc' := 424) (ls' := [_, _, _, _, _, _, _, _]) rfl rfl rfl rfl ?_
  refine x_iconst (pc' := 425) rfl rfl ?_
  refine x_istore (pc' := 427) (ls' := [_, _, _, _, _, _, _, _]) rfl rfl rfl rfl ?_
  obtain ⟨f1, f2⟩ := hW
  refine w_275c (m := 0) h (f2 0 (by decide)) (by decide) hc (fun t1 h1 => ?_)
  refine w_275c (m := 1) h1 (f2 1 (by decide)) (by decide) hc (fun t2 h2 => ?_)
  refine w_275c (m := 2) h2 (f2 2 (by decide)) (by decide) hc (fun t3 h3 => ?_)
  refine w_275c (m := 3) h3 (f2 3 (by decide)) (by decide) hc (fun t4 h4 => ?_)
  refine w_275c (m := 4) h4 (f2 4 (by decide)) (by decide) hc (fun t5 h5 => ?_)
  refine w_275c (m := 5) h5 (f2 5 (by decide)) (by decide) hc (fun t6 h6 => ?_)
  refine x_iload (pc' := 429) rfl rfl rfl ?_
  refine x_bipush (pc' := 431) rfl rfl ?_
  refine x_icmp (a' := 482) (pc' := 434) (z := true) rfl rfl rfl (by decide) (fun _ => ?_) (fun h => by cases h)
  refine x_iload_n (pc' := 483) rfl rfl rfl ?_
  refine x_if (a' := 495) (pc' := 486) (z := false) rfl rfl rfl (by decide) (fun h => by cases h) (fun _ => ?_)
  refine x_iload (pc' := 488) rfl rfl rfl ?_
  refine x_if (a' := 495) (pc' := 491) (z := false) rfl rfl rfl (k_nen f1) (fun h => by cases h) (fun _ => ?_)
  refine x_iconst (pc' := 492) rfl rfl ?_
  refine x_goto (pc' := 496) rfl rfl ?_
  refine x_istore_n (pc' := 497) (ls' := [_, _, _, _, _, _, _, _]) rfl rfl rfl rfl ?_
  refine x_iinc (pc' := 500) (y := (io (c + 1))) (ls' := [_, _, _, _, _, _, _, _]) rfl rfl rfl (io_add c 1) rfl ?_
  refine x_goto (pc' := 411) rfl rfl ?_
  exact q _ _ _ (La_mono h6 (by omega) (by omega))
set_option maxHeartbeats 4000000 in
theorem w_275 (h : La t M n T (A) (B) xs L pA (io n) c1 c2) (hK : Kv M n) (hP : Pv M) (hB : ∀ b, b < 5 → Wkb M n pA b) (hM : ∀ m, m < 6 → Wkm M n m) (hS : ¬ ((((((0 + mA M 5 0) + mA M 5 1) + mA M 5 2) + mA M 5 3) + mA M 5 4) + mA M 5 5) = 0 → 0 < c2) (hC : ∀ c, c < 3 → Wkc M n T c) (q : ∀ t', La t' M n T (A + 500) (B + 3000) xs L pA (io n) c1 c2 → Q (.inl (some (.inl (bz true)))) t') : X 275 0 [.inr (.inr (11, (some 0))), .inr (.inr (21, (some 0))), .inr (.inr (21, (some 1))), sJk, sJk, sJk, sJk, sJk] [] t Q := by
  refine x_aload_n (pc' := 1) rfl rfl rfl rfl rfl ?_
  refine x_cv (ls0 := [_]) (rest := []) rfl rfl rfl rfl rfl ?_
  refine q103 h (fun t1 h1 => ?_)
  refine sK_i (pc' := 4) rfl ?_
  refine x_aload_n (pc' := 5) rfl rfl rfl rfl rfl ?_
  refine x_iconst (pc' := 6) rfl rfl ?_
  refine x_iald (pc' := 7) (N := 3) (x := (io n)) rfl rfl rfl (La_n1 h1) (by decide) (La_c0 h1) ?_
  refine x_icmp (a' := 14) (pc' := 10) (z := false) rfl rfl rfl (k_nen rfl) (fun h => by cases h) (fun _ => ?_)
  refine x_iconst (pc' := 11) rfl rfl ?_
  refine x_goto (pc' := 15) rfl rfl ?_
  refine x_istore_n (pc' := 16) (ls' := [_, _, _, _, _, _, _, _]) rfl rfl rfl rfl ?_
  refine x_iconst (pc' := 17) rfl rfl ?_
  refine x_istore (pc' := 19) (ls' := [_, _, _, _, _, _, _, _]) rfl rfl rfl rfl ?_
  refine x_iconst (pc' := 20) rfl rfl ?_
  refine x_istore (pc' := 22) (ls' := [_, _, _, _, _, _, _, _]) rfl rfl rfl rfl ?_
  refine w_275b (b := 0) h1 hK hP (hB 0 (by decide)) (by decide) (fun s0 z0 x0 i0 => ?_)
  refine w_275b (b := 1) i0 hK hP (hB 1 (by decide)) (by decide) (fun s1 z1 x1 i1 => ?_)
  refine w_275b (b := 2) i1 hK hP (hB 2 (by decide)) (by decide) (fun s2 z2 x2 i2 => ?_)
  refine w_275b (b := 3) i2 hK hP (hB 3 (by decide)) (by decide) (fun s3 z3 x3 i3 => ?_)
  refine w_275b (b := 4) i3 hK hP (hB 4 (by decide)) (by decide) (fun s4 z4 x4 i4 => ?_)
  refine x_iload (pc' := 24) rfl rfl rfl ?_
  refine x_iconst (pc' := 25) rfl rfl ?_
  refine x_icmp (a' := 308) (pc' := 28) (z := true) rfl rfl rfl (by decide) (fun _ => ?_) (fun h => by cases h)
  refine x_iconst (pc' := 309) rfl rfl ?_
  refine x_istore (pc' := 311) (ls' := [_, _, _, _, _, _, _, _]) rfl rfl rfl rfl ?_
  refine w_275m (m := 0) i4 hK hP (hM 0 (by decide)) (by decide) (fun r0 j0 => ?_)
  refine w_275m (m := 1) j0 hK hP (hM 1 (by decide)) (by decide) (fun r1 j1 => ?_)
  refine w_275m (m := 2) j1 hK hP (hM 2 (by decide)) (by decide) (fun r2 j2 => ?_)
  refine w_275m (m := 3) j2 hK hP (hM 3 (by decide)) (by decide) (fun r3 j3 => ?_)
  refine w_275m (m := 4) j3 hK hP (hM 4 (by decide)) (by decide) (fun r4 j4 => ?_)
  refine w_275m (m := 5) j4 hK hP (hM 5 (by decide)) (by decide) (fun r5 j5 => ?_)
  refine x_iload (pc' := 313) rfl rfl rfl ?_
  refine x_bipush (pc' := 315) rfl rfl ?_
  refine x_icmp (a' := 387) (pc' := 318) (z := true) rfl rfl rfl (by decide) (fun _ => ?_) (fun h => by cases h)
  refine x_iload_n (pc' := 388) rfl rfl rfl ?_
  refine x_if (a' := 406) (pc' := 391) (z := false) rfl rfl rfl (by decide) (fun h => by cases h) (fun _ => ?_)
  refine x_iload (pc' := 393) rfl rfl rfl ?_
  have J402 : X 275 402 [.inr (.inr (11, (some 0))), .inr (.inr (21, (some 0))), .inr (.inr (21, (some 1))), .inl 1, .inl ((((((0 + mA M 5 0) + mA M 5 1) + mA M 5 2) + mA M 5 3) + mA M 5 4) + mA M 5 5), .inl (io 6), z4, x4] [] r5 Q := by
    refine x_iconst (pc' := 403) rfl rfl ?_
    refine x_goto (pc' := 407) rfl rfl ?_
    refine x_istore_n (pc' := 408) (ls' := [_, _, _, _, _, _, _, _]) rfl rfl rfl rfl ?_
    refine x_iconst (pc' := 409) rfl rfl ?_
    refine x_istore (pc' := 411) (ls' := [_, _, _, _, _, _, _, _]) rfl rfl rfl rfl ?_
    refine w_275k (c := 0) j5 (hC 0 (by decide)) (by decide) (fun p0 v0 w0 k0 => ?_)
    refine w_275k (c := 1) k0 (hC 1 (by decide)) (by decide) (fun p1 v1 w1 k1 => ?_)
    refine w_275k (c := 2) k1 (hC 2 (by decide)) (by decide) (fun p2 v2 w2 k2 => ?_)
    refine x_iload (pc' := 413) rfl rfl rfl ?_
    refine x_iconst (pc' := 414) rfl rfl ?_
    refine x_icmp (a' := 503) (pc' := 417) (z := true) rfl rfl rfl (by decide) (fun _ => ?_) (fun h => by cases h)
    refine x_iload_n (pc' := 504) rfl rfl rfl ?_
    exact x_retz (z := true) rfl rfl (q _ (La_mono k2 (by omega) (by omega)))
  by_cases hs : ((((((0 + mA M 5 0) + mA M 5 1) + mA M 5 2) + mA M 5 3) + mA M 5 4) + mA M 5 5) = 0
  · skip
    refine x_if (a' := 402) (pc' := 396) (z := true) rfl rfl rfl (k_eq hs) (fun _ => ?_) (fun h => by cases h)
    exact J402
  · skip
    refine x_if (a' := 402) (pc' := 396) (z := false) rfl rfl rfl (k_eqn hs) (fun h => by cases h) (fun _ => ?_)
    refine x_aload_n (pc' := 397) rfl rfl rfl rfl rfl ?_
    refine x_iconst (pc' := 398) rfl rfl ?_
    refine x_iald (pc' := 399) (N := 3) (x := c2) rfl rfl rfl (La_n1 j5) (by decide) (La_c2 j5) ?_
    refine x_if (a' := 406) (pc' := 402) (z := false) rfl rfl rfl (k_len (hS hs)) (fun h => by cases h) (fun _ => ?_)
    exact J402
end Sxd
