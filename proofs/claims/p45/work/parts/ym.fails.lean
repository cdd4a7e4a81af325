/-! fails, and the whole of the law's step (printed by genym.py) -/
section Sym
variable {t t' t0 : sT} {M M' N N' : sM} {n n' T T' A A' B B' L d e k K b m c E j f sz wh a x : Nat} {xs pA : Nat → Int32} {c0 c1 c2 v w p u : Int32} {Q : sRs → sT → Prop} {s z : Bool} {r : Option Nat} {y6 y7 : sV}
theorem ov_ge (h : ∀ j, r = some j → j < 6 ∧ ¬ j = m) (hm : m < 6) : ¬ ov r < -1 ∧ ¬ ov r = io m := by
  cases r with
  | none =>
    refine ⟨by decide, fun z => ?_⟩
    have e1 : (-1 : Int32).toInt = -1 := rfl
    have h1 := congrArg Int32.toInt z
    have h2 : ov (none : Option Nat) = -1 := rfl
    rw [h2, e1, io_int (by omega)] at h1
    omega
  | some j =>
    obtain ⟨h1, h2⟩ := h j rfl
    have e : ov (some j) = io j := rfl
    rw [e]
    refine ⟨fun z => ?_, fun z => h2 ((io_inj (by omega) (by omega)).mp z)⟩
    rw [Int32.lt_iff_toInt_lt, io_int (by omega)] at z
    have e1 : (-1 : Int32).toInt = -1 := rfl
    omega

set_option maxHeartbeats 2000000 in
theorem w_274 (h : La t M n T (A) (B) xs L pA (io n) (io T) (io (ouN M))) (hv : Vw M n e pA) (he : e ≤ 80) (hm : m < 6) (q : ∀ t' M' n' T' pA', La t' M' n' T' (A + 40) (B + 240) xs L pA' (io n') (io T) (io (ouN M')) → Vw M' n' (e + 1) pA' → T ≤ T' → Q (.inl (some (.inl (bz true)))) t') : X 274 0 [.inr (.inr (11, (some 0))), .inr (.inr (21, (some 1))), .inl (io m), sJk, sJk, sJk, sJk, sJk] [] t Q := by
  refine x_aload_n (pc' := 1) rfl rfl rfl rfl rfl ?_
  refine x_iload_n (pc' := 2) rfl rfl rfl ?_
  refine x_cv (ls0 := [_, _]) (rest := []) rfl rfl rfl rfl rfl ?_
  refine q123 h hm (fun t1 h1 => ?_)
  refine sK_i (pc' := 5) rfl ?_
  cases ho : mB M 2 m with
  | true =>
    refine x_if (a' := 25) (pc' := 8) (z := true) rfl rfl rfl (by decide) (fun _ => ?_) (fun h => by cases h)
    refine x_iconst (pc' := 26) rfl rfl ?_
    refine x_istore_n (pc' := 27) (ls' := [_, _, _, _, _, _, _, _]) rfl rfl rfl rfl ?_
    refine x_aload_n (pc' := 28) rfl rfl rfl rfl rfl ?_
    refine x_cv (ls0 := [_]) (rest := []) rfl rfl rfl rfl rfl ?_
    refine q125 h1 (fun t2 h2 => ?_)
    refine sK_i (pc' := 31) rfl ?_
    refine x_istore (pc' := 33) (ls' := [_, _, _, _, _, _, _, _]) rfl rfl rfl rfl ?_
    refine x_aload_n (pc' := 34) rfl rfl rfl rfl rfl ?_
    refine x_iload_n (pc' := 35) rfl rfl rfl ?_
    refine x_cs (ls0 := [_, _, sJk]) (rest := []) rfl rfl rfl rfl ?_
    refine l_101e h2 hv (by omega) hm (Or.inl ho) (fun t9 h9 => ?_)
    refine sK_i (pc' := 38) rfl ?_
    refine x_istore (pc' := 40) (ls' := [_, _, _, _, _, _, _, _]) rfl rfl rfl rfl ?_
    refine x_iload_n (pc' := 41) rfl rfl rfl ?_
    refine x_if (a' := 57) (pc' := 44) (z := false) rfl rfl rfl (by decide) (fun h => by cases h) (fun _ => ?_)
    refine x_iload (pc' := 46) rfl rfl rfl ?_
    refine x_bipush (pc' := 48) rfl rfl ?_
    refine x_icmp (a' := 55) (pc' := 51) (z := false) rfl rfl rfl (by decide) (fun h => by cases h) (fun _ => ?_)
    refine x_iconst (pc' := 52) rfl rfl ?_
    refine x_goto (pc' := 56) rfl rfl ?_
    exact x_retz (z := true) rfl rfl (q _ _ _ _ _ (La_mono h9 (by omega) (by omega)) (Vw_e hv) (Nat.le_refl T))
  | false =>
    refine x_if (a' := 25) (pc' := 8) (z := false) rfl rfl rfl (by decide) (fun h => by cases h) (fun _ => ?_)
    refine x_aload_n (pc' := 9) rfl rfl rfl rfl rfl ?_
    refine x_iload_n (pc' := 10) rfl rfl rfl ?_
    refine x_cv (ls0 := [_, _]) (rest := []) rfl rfl rfl rfl rfl ?_
    refine q119 h1 hm (fun t2 h2 => ?_)
    refine sK_i (pc' := 13) rfl ?_
    refine x_aload_n (pc' := 14) rfl rfl rfl rfl rfl ?_
    refine x_iload_n (pc' := 15) rfl rfl rfl ?_
    refine x_cv (ls0 := [_, _]) (rest := [_]) rfl rfl rfl rfl rfl ?_
    refine q120 h2 hm (fun t3 h3 => ?_)
    refine sK_i (pc' := 18) rfl ?_
    by_cases hf : fdF M n m < maF M n m
    · skip
      refine x_icmp (a' := 25) (pc' := 21) (z := false) rfl rfl rfl (k_gen hf) (fun h => by cases h) (fun _ => ?_)
      refine x_iconst (pc' := 22) rfl rfl ?_
      refine x_goto (pc' := 26) rfl rfl ?_
      refine x_istore_n (pc' := 27) (ls' := [_, _, _, _, _, _, _, _]) rfl rfl rfl rfl ?_
      refine x_aload_n (pc' := 28) rfl rfl rfl rfl rfl ?_
      refine x_cv (ls0 := [_]) (rest := []) rfl rfl rfl rfl rfl ?_
      refine q125 h3 (fun t4 h4 => ?_)
      refine sK_i (pc' := 31) rfl ?_
      refine x_istore (pc' := 33) (ls' := [_, _, _, _, _, _, _, _]) rfl rfl rfl rfl ?_
      refine x_aload_n (pc' := 34) rfl rfl rfl rfl rfl ?_
      refine x_iload_n (pc' := 35) rfl rfl rfl ?_
      refine x_cs (ls0 := [_, _, sJk]) (rest := []) rfl rfl rfl rfl ?_
      refine l_101 h4 hv (by omega) hm ho hf (fun t9 M9 T9 r9 h9 V9 z9 g9 k9 => ?_)
      refine sK_i (pc' := 38) rfl ?_
      obtain ⟨z1, z2, z3, z4, z5, z6, z7, z8⟩ := z9
      obtain ⟨o1, o2⟩ := ov_ge k9 hm
      refine x_istore (pc' := 40) (ls' := [_, _, _, _, _, _, _, _]) rfl rfl rfl rfl ?_
      refine x_iload_n (pc' := 41) rfl rfl rfl ?_
      refine x_if (a' := 57) (pc' := 44) (z := true) rfl rfl rfl (by decide) (fun _ => ?_) (fun h => by cases h)
      refine x_aload_n (pc' := 58) rfl rfl rfl rfl rfl ?_
      refine x_iconst (pc' := 59) rfl rfl ?_
      refine x_dup2 (pc' := 60) rfl rfl rfl rfl ?_
      refine x_iald (pc' := 61) (N := 3) (x := (io (ouN M))) rfl rfl rfl (La_n1 h9) (by decide) (La_c2 h9) ?_
      refine x_iconst (pc' := 62) rfl rfl ?_
      refine x_iadd (pc' := 63) (z := (io (ouN M + 1))) rfl rfl (io_add _ 1) ?_
      refine x_iast (pc' := 64) (N := 3) (p := 2) rfl rfl rfl (La_n1 h9) (by decide) (by decide) ?_
      have h91 := La_wc2 (v := (io (ouN M + 1))) h9
      refine x_iload (pc' := 66) rfl rfl rfl ?_
      refine x_iconst (pc' := 67) rfl rfl ?_
      refine x_icmp (a' := 129) (pc' := 70) (z := false) rfl rfl rfl (k_ltn o1) (fun h => by cases h) (fun _ => ?_)
      refine x_iload (pc' := 72) rfl rfl rfl ?_
      refine x_iload_n (pc' := 73) rfl rfl rfl ?_
      refine x_icmp (a' := 129) (pc' := 76) (z := false) rfl rfl rfl (k_eqn o2) (fun h => by cases h) (fun _ => ?_)
      refine x_aload_n (pc' := 77) rfl rfl rfl rfl rfl ?_
      refine x_iload_n (pc' := 78) rfl rfl rfl ?_
      refine x_cv (ls0 := [_, _]) (rest := []) rfl rfl rfl rfl rfl ?_
      refine q123 h91 hm (fun t92 h92 => ?_)
      refine sK_i (pc' := 81) rfl ?_
      refine x_if (a' := 129) (pc' := 84) (z := false) rfl rfl rfl (k_eqn (by rw [z2]; decide)) (fun h => by cases h) (fun _ => ?_)
      refine x_aload_n (pc' := 85) rfl rfl rfl rfl rfl ?_
      refine x_iload_n (pc' := 86) rfl rfl rfl ?_
      refine x_cv (ls0 := [_, _]) (rest := []) rfl rfl rfl rfl rfl ?_
      refine q118 h92 hm (fun t93 h93 => ?_)
      refine sK_i (pc' := 89) rfl ?_
      refine x_if (a' := 129) (pc' := 92) (z := false) rfl rfl rfl (k_nen z4) (fun h => by cases h) (fun _ => ?_)
      refine x_aload_n (pc' := 93) rfl rfl rfl rfl rfl ?_
      refine x_iload_n (pc' := 94) rfl rfl rfl ?_
      refine x_cv (ls0 := [_, _]) (rest := []) rfl rfl rfl rfl rfl ?_
      refine q119 h93 hm (fun t94 h94 => ?_)
      refine sK_i (pc' := 97) rfl ?_
      refine x_if (a' := 129) (pc' := 100) (z := false) rfl rfl rfl (k_nen (fd_0 z3 z4 z6)) (fun h => by cases h) (fun _ => ?_)
      refine x_aload_n (pc' := 101) rfl rfl rfl rfl rfl ?_
      refine x_iload_n (pc' := 102) rfl rfl rfl ?_
      refine x_cv (ls0 := [_, _]) (rest := []) rfl rfl rfl rfl rfl ?_
      refine q122 h94 hm (fun t95 h95 => ?_)
      refine sK_i (pc' := 105) rfl ?_
      refine x_if (a' := 129) (pc' := 108) (z := false) rfl rfl rfl (k_nen z5) (fun h => by cases h) (fun _ => ?_)
      refine x_aload_n (pc' := 109) rfl rfl rfl rfl rfl ?_
      refine x_iload_n (pc' := 110) rfl rfl rfl ?_
      refine x_cv (ls0 := [_, _]) (rest := []) rfl rfl rfl rfl rfl ?_
      refine q120 h95 hm (fun t96 h96 => ?_)
      refine sK_i (pc' := 113) rfl ?_
      refine x_if (a' := 129) (pc' := 116) (z := false) rfl rfl rfl (k_nen (ma_z z6)) (fun h => by cases h) (fun _ => ?_)
      refine x_aload_n (pc' := 117) rfl rfl rfl rfl rfl ?_
      refine x_cv (ls0 := [_]) (rest := []) rfl rfl rfl rfl rfl ?_
      refine q125 h96 (fun t97 h97 => ?_)
      refine sK_i (pc' := 120) rfl ?_
      refine x_iload (pc' := 122) rfl rfl rfl ?_
      refine x_icmp (a' := 129) (pc' := 125) (z := false) rfl rfl rfl (k_ltn (by rw [Int32.lt_iff_toInt_lt]; omega)) (fun h => by cases h) (fun _ => ?_)
      refine x_iconst (pc' := 126) rfl rfl ?_
      refine x_goto (pc' := 130) rfl rfl ?_
      refine x_istore (pc' := 132) (ls' := [_, _, _, _, _, _, _, _]) rfl rfl rfl rfl ?_
      refine x_iconst (pc' := 133) rfl rfl ?_
      refine x_istore (pc' := 135) (ls' := [_, _, _, _, _, _, _, _]) rfl rfl rfl rfl ?_
      refine x_iload (pc' := 137) rfl rfl rfl ?_
      refine x_iconst (pc' := 138) rfl rfl ?_
      refine x_icmp (a' := 169) (pc' := 141) (z := false) rfl rfl rfl (by decide) (fun h => by cases h) (fun _ => ?_)
      refine x_iload (pc' := 143) rfl rfl rfl ?_
      refine x_if (a' := 160) (pc' := 146) (z := false) rfl rfl rfl (by decide) (fun h => by cases h) (fun _ => ?_)
      refine x_aload_n (pc' := 147) rfl rfl rfl rfl rfl ?_
      refine x_iload_n (pc' := 148) rfl rfl rfl ?_
      refine x_iload (pc' := 150) rfl rfl rfl ?_
      refine x_cv (ls0 := [_, _, _, sJk]) (rest := []) rfl rfl rfl rfl rfl ?_
      refine q116 (c := 0) h97 hm (by decide) (fun t98 h98 => ?_)
      refine sK_i (pc' := 153) rfl ?_
      refine x_if (a' := 160) (pc' := 156) (z := false) rfl rfl rfl (k_nen (z6 0 (by decide))) (fun h => by cases h) (fun _ => ?_)
      refine x_iconst (pc' := 157) rfl rfl ?_
      refine x_goto (pc' := 161) rfl rfl ?_
      refine x_istore (pc' := 163) (ls' := [_, _, _, _, _, _, _, _]) rfl rfl rfl rfl ?_
      refine x_iinc (pc' := 166) (y := 1) (ls' := [_, _, _, _, _, _, _, _]) rfl rfl rfl (by decide) rfl ?_
      refine x_goto (pc' := 135) rfl rfl ?_
      refine x_iload (pc' := 137) rfl rfl rfl ?_
      refine x_iconst (pc' := 138) rfl rfl ?_
      refine x_icmp (a' := 169) (pc' := 141) (z := false) rfl rfl rfl (by decide) (fun h => by cases h) (fun _ => ?_)
      refine x_iload (pc' := 143) rfl rfl rfl ?_
      refine x_if (a' := 160) (pc' := 146) (z := false) rfl rfl rfl (by decide) (fun h => by cases h) (fun _ => ?_)
      refine x_aload_n (pc' := 147) rfl rfl rfl rfl rfl ?_
      refine x_iload_n (pc' := 148) rfl rfl rfl ?_
      refine x_iload (pc' := 150) rfl rfl rfl ?_
      refine x_cv (ls0 := [_, _, _, sJk]) (rest := []) rfl rfl rfl rfl rfl ?_
      refine q116 (c := 1) h98 hm (by decide) (fun t99 h99 => ?_)
      refine sK_i (pc' := 153) rfl ?_
      refine x_if (a' := 160) (pc' := 156) (z := false) rfl rfl rfl (k_nen (z6 1 (by decide))) (fun h => by cases h) (fun _ => ?_)
      refine x_iconst (pc' := 157) rfl rfl ?_
      refine x_goto (pc' := 161) rfl rfl ?_
      refine x_istore (pc' := 163) (ls' := [_, _, _, _, _, _, _, _]) rfl rfl rfl rfl ?_
      refine x_iinc (pc' := 166) (y := 2) (ls' := [_, _, _, _, _, _, _, _]) rfl rfl rfl (by decide) rfl ?_
      refine x_goto (pc' := 135) rfl rfl ?_
      refine x_iload (pc' := 137) rfl rfl rfl ?_
      refine x_iconst (pc' := 138) rfl rfl ?_
      refine x_icmp (a' := 169) (pc' := 141) (z := false) rfl rfl rfl (by decide) (fun h => by cases h) (fun _ => ?_)
      refine x_iload (pc' := 143) rfl rfl rfl ?_
      refine x_if (a' := 160) (pc' := 146) (z := false) rfl rfl rfl (by decide) (fun h => by cases h) (fun _ => ?_)
      refine x_aload_n (pc' := 147) rfl rfl rfl rfl rfl ?_
      refine x_iload_n (pc' := 148) rfl rfl rfl ?_
      refine x_iload (pc' := 150) rfl rfl rfl ?_
      refine x_cv (ls0 := [_, _, _, sJk]) (rest := []) rfl rfl rfl rfl rfl ?_
      refine q116 (c := 2) h99 hm (by decide) (fun t100 h100 => ?_)
      refine sK_i (pc' := 153) rfl ?_
      refine x_if (a' := 160) (pc' := 156) (z := false) rfl rfl rfl (k_nen (z6 2 (by decide))) (fun h => by cases h) (fun _ => ?_)
      refine x_iconst (pc' := 157) rfl rfl ?_
      refine x_goto (pc' := 161) rfl rfl ?_
      refine x_istore (pc' := 163) (ls' := [_, _, _, _, _, _, _, _]) rfl rfl rfl rfl ?_
      refine x_iinc (pc' := 166) (y := 3) (ls' := [_, _, _, _, _, _, _, _]) rfl rfl rfl (by decide) rfl ?_
      refine x_goto (pc' := 135) rfl rfl ?_
      refine x_iload (pc' := 137) rfl rfl rfl ?_
      refine x_iconst (pc' := 138) rfl rfl ?_
      refine x_icmp (a' := 169) (pc' := 141) (z := true) rfl rfl rfl (by decide) (fun _ => ?_) (fun h => by cases h)
      refine x_iload (pc' := 171) rfl rfl rfl ?_
      refine x_if (a' := 199) (pc' := 174) (z := false) rfl rfl rfl (by decide) (fun h => by cases h) (fun _ => ?_)
      refine x_aload_n (pc' := 175) rfl rfl rfl rfl rfl ?_
      refine x_iload_n (pc' := 176) rfl rfl rfl ?_
      refine x_cs (ls0 := [_, _, sJk]) (rest := []) rfl rfl rfl rfl ?_
      refine l_101e h100 V9 (by omega) hm (Or.inl z2) (fun t8 h8 => ?_)
      refine sK_i (pc' := 179) rfl ?_
      refine x_bipush (pc' := 181) rfl rfl ?_
      refine x_icmp (a' := 199) (pc' := 184) (z := false) rfl rfl rfl (by decide) (fun h => by cases h) (fun _ => ?_)
      refine x_aload_n (pc' := 185) rfl rfl rfl rfl rfl ?_
      refine x_iload_n (pc' := 186) rfl rfl rfl ?_
      refine x_iconst (pc' := 187) rfl rfl ?_
      refine x_cs (ls0 := [_, _, _, sJk]) (rest := []) rfl rfl rfl rfl ?_
      refine l_89e h8 V9 (by omega) hm z2 (fun t7 h7 => ?_)
      refine sK_i (pc' := 190) rfl ?_
      refine x_bipush (pc' := 192) rfl rfl ?_
      refine x_icmp (a' := 199) (pc' := 195) (z := false) rfl rfl rfl (by decide) (fun h => by cases h) (fun _ => ?_)
      refine x_iconst (pc' := 196) rfl rfl ?_
      refine x_goto (pc' := 200) rfl rfl ?_
      exact x_retz (z := true) rfl rfl (q _ _ _ _ _ (La_mono (La_2 h7 (by rw [z8])) (by omega) (by omega)) (Vw_e V9) g9)
    · skip
      refine x_icmp (a' := 25) (pc' := 21) (z := true) rfl rfl rfl (k_ge hf) (fun _ => ?_) (fun h => by cases h)
      refine x_iconst (pc' := 26) rfl rfl ?_
      refine x_istore_n (pc' := 27) (ls' := [_, _, _, _, _, _, _, _]) rfl rfl rfl rfl ?_
      refine x_aload_n (pc' := 28) rfl rfl rfl rfl rfl ?_
      refine x_cv (ls0 := [_]) (rest := []) rfl rfl rfl rfl rfl ?_
      refine q125 h3 (fun t4 h4 => ?_)
      refine sK_i (pc' := 31) rfl ?_
      refine x_istore (pc' := 33) (ls' := [_, _, _, _, _, _, _, _]) rfl rfl rfl rfl ?_
      refine x_aload_n (pc' := 34) rfl rfl rfl rfl rfl ?_
      refine x_iload_n (pc' := 35) rfl rfl rfl ?_
      refine x_cs (ls0 := [_, _, sJk]) (rest := []) rfl rfl rfl rfl ?_
      refine l_101e h4 hv (by omega) hm (Or.inr hf) (fun t9 h9 => ?_)
      refine sK_i (pc' := 38) rfl ?_
      refine x_istore (pc' := 40) (ls' := [_, _, _, _, _, _, _, _]) rfl rfl rfl rfl ?_
      refine x_iload_n (pc' := 41) rfl rfl rfl ?_
      refine x_if (a' := 57) (pc' := 44) (z := false) rfl rfl rfl (by decide) (fun h => by cases h) (fun _ => ?_)
      refine x_iload (pc' := 46) rfl rfl rfl ?_
      refine x_bipush (pc' := 48) rfl rfl ?_
      refine x_icmp (a' := 55) (pc' := 51) (z := false) rfl rfl rfl (by decide) (fun h => by cases h) (fun _ => ?_)
      refine x_iconst (pc' := 52) rfl rfl ?_
      refine x_goto (pc' := 56) rfl rfl ?_
      exact x_retz (z := true) rfl rfl (q _ _ _ _ _ (La_mono h9 (by omega) (by omega)) (Vw_e hv) (Nat.le_refl T))
theorem s_1127 (h : La t M n T (A) (B) xs L pA (io n) (io T) (io (ouN M))) (hv : Vw M n e pA) (he : e ≤ 80) (hm : m < 6) (hk : k < 5) (h1 : 1 ≤ sz) (h2 : sz ≤ 12) (hp : vPc k p) (hb : b < 2 ^ 31) (q : ∀ t' M' n' T' pA', La t' M' n' T' (A + 40) (B + 240) xs L pA' (io n') (io T) (io (ouN M')) → Vw M' n' (e + 1) pA' → T ≤ T' → Q (.inl (some (.inl (bz true)))) t') : X 272 1127 [.inr (.inr (11, (some 0))), .inr (.inr (21, (some 0))), .inr (.inr (21, (some 1))), .inl (io wh), .inl (io a), .inl (io b), .inl (io m), .inl (io k), .inl (bz s), .inl p, .inl (io sz), sJk, sJk, sJk, sJk, sJk, sJk, sJk, sJk, sJk, sJk, sJk, sJk, sJk] [] t Q := by
  refine x_aload_n (pc' := 1128) rfl rfl rfl rfl rfl ?_
  refine x_aload_n (pc' := 1129) rfl rfl rfl rfl rfl ?_
  refine x_iload (pc' := 1131) rfl rfl rfl ?_
  refine x_cs (ls0 := [_, _, _, sJk, sJk, sJk, sJk, sJk]) (rest := []) rfl rfl rfl rfl ?_
  refine w_274 h hv he hm (fun t9 M9 n9 T9 pB h9 V9 g9 => ?_)
  refine sK_i (pc' := 1134) rfl ?_
  exact x_retz (z := true) rfl rfl (q _ _ _ _ _ (La_mono h9 (by omega) (by omega)) V9 g9)
theorem w_272s (h : La t M n T (A) (B) xs L pA (io n) (io T) (io (ouN M))) (hv : Vw M n e pA) (he : e ≤ 80) (hm : m < 6) (hk : k < 5) (h1 : 1 ≤ sz) (h2 : sz ≤ 12) (hp : vPc k p) (hb : b < 2 ^ 31) (hwh : wh < 2 ^ 31) (q : ∀ t' M' n' T' pA', La t' M' n' T' (A + 40) (B + 240) xs L pA' (io n') (io T) (io (ouN M')) → Vw M' n' (e + 1) pA' → T ≤ T' → Q (.inl (some (.inl (bz true)))) t') : X 272 53 [.inr (.inr (11, (some 0))), .inr (.inr (21, (some 0))), .inr (.inr (21, (some 1))), .inl (io wh), .inl (io a), .inl (io b), .inl (io m), .inl (io k), .inl (bz s), .inl p, .inl (io sz), sJk, sJk, sJk, sJk, sJk, sJk, sJk, sJk, sJk, sJk, sJk, sJk, sJk] [] t Q := by
  have hr := Nat.mod_lt wh (show 0 < 20 by decide)
  have hc : wh % 20 = 0 ∨ wh % 20 = 1 ∨ wh % 20 = 2 ∨ wh % 20 = 3 ∨ wh % 20 = 4 ∨ wh % 20 = 5 ∨ wh % 20 = 6 ∨ wh % 20 = 7 ∨ wh % 20 = 8 ∨ wh % 20 = 9 ∨ wh % 20 = 10 ∨ wh % 20 = 11 ∨ wh % 20 = 12 ∨ wh % 20 = 13 ∨ wh % 20 = 14 ∨ wh % 20 = 15 ∨ wh % 20 = 16 ∨ wh % 20 = 17 ∨ wh % 20 = 18 ∨ wh % 20 = 19 := by omega
  refine x_iload_n (pc' := 54) rfl rfl rfl ?_
  refine x_bipush (pc' := 56) rfl rfl ?_
  refine x_irem (pc' := 57) (z := (io (wh % 20))) rfl rfl (by decide) (io_rem (k := wh) (K := 20) hwh (by decide)) ?_
  rcases hc with z | z | z | z | z | z | z | z | z | z | z | z | z | z | z | z | z | z | z | z
  · refine x_switch (pc' := 148) rfl (by rw [z]; rfl) ?_
    exact s_148 h hv he hm hk h1 h2 hp hb q
  · refine x_switch (pc' := 148) rfl (by rw [z]; rfl) ?_
    exact s_148 h hv he hm hk h1 h2 hp hb q
  · refine x_switch (pc' := 148) rfl (by rw [z]; rfl) ?_
    exact s_148 h hv he hm hk h1 h2 hp hb q
  · refine x_switch (pc' := 148) rfl (by rw [z]; rfl) ?_
    exact s_148 h hv he hm hk h1 h2 hp hb q
  · refine x_switch (pc' := 204) rfl (by rw [z]; rfl) ?_
    exact s_204 h hv he hm hk h1 h2 hp hb q
  · refine x_switch (pc' := 260) rfl (by rw [z]; rfl) ?_
    exact s_260 h hv he hm hk h1 h2 hp hb q
  · refine x_switch (pc' := 298) rfl (by rw [z]; rfl) ?_
    exact s_298 h hv he hm hk h1 h2 hp hb q
  · refine x_switch (pc' := 298) rfl (by rw [z]; rfl) ?_
    exact s_298 h hv he hm hk h1 h2 hp hb q
  · refine x_switch (pc' := 385) rfl (by rw [z]; rfl) ?_
    exact s_385 h hv he hm hk h1 h2 hp hb q
  · refine x_switch (pc' := 385) rfl (by rw [z]; rfl) ?_
    exact s_385 h hv he hm hk h1 h2 hp hb q
  · refine x_switch (pc' := 586) rfl (by rw [z]; rfl) ?_
    exact s_586 h hv he hm hk h1 h2 hp hb q
  · refine x_switch (pc' := 703) rfl (by rw [z]; rfl) ?_
    exact s_703 h hv he hm hk h1 h2 hp hb q
  · refine x_switch (pc' := 816) rfl (by rw [z]; rfl) ?_
    exact s_816 h hv he hm hk h1 h2 hp hb q
  · refine x_switch (pc' := 852) rfl (by rw [z]; rfl) ?_
    exact s_852 h hv he hm hk h1 h2 hp hb q
  · refine x_switch (pc' := 891) rfl (by rw [z]; rfl) ?_
    exact s_891 h hv he hm hk h1 h2 hp hb q
  · refine x_switch (pc' := 955) rfl (by rw [z]; rfl) ?_
    exact s_955 h hv he hm hk h1 h2 hp hb q
  · refine x_switch (pc' := 1039) rfl (by rw [z]; rfl) ?_
    exact s_1039 h hv he hm hk h1 h2 hp hb q
  · refine x_switch (pc' := 1102) rfl (by rw [z]; rfl) ?_
    exact s_1102 h hv he hm hk h1 h2 hp hb q
  · refine x_switch (pc' := 1127) rfl (by rw [z]; rfl) ?_
    exact s_1127 h hv he hm hk h1 h2 hp hb q
  · refine x_switch (pc' := 1135) rfl (by rw [z]; rfl) ?_
    exact s_1135 h hv he hm hk h1 h2 hp hb q
theorem w_272 (h : La t M n T (A) (B) xs L pA (io n) (io T) (io (ouN M))) (hv : Vw M n e pA) (he : e ≤ 80) (hwh : wh < 2 ^ 31) (ha : a < 2 ^ 31) (hb : b < 2 ^ 31) (q : ∀ t' M' n' T' pA', La t' M' n' T' (A + 40) (B + 240) xs L pA' (io n') (io T) (io (ouN M')) → Vw M' n' (e + 1) pA' → T ≤ T' → Q (.inl (some (.inl (bz true)))) t') : X 272 0 [.inr (.inr (11, (some 0))), .inr (.inr (21, (some 0))), .inr (.inr (21, (some 1))), .inl (io wh), .inl (io a), .inl (io b), sJk, sJk, sJk, sJk, sJk, sJk, sJk, sJk, sJk, sJk, sJk, sJk, sJk, sJk, sJk, sJk, sJk, sJk] [] t Q := by
  have hm := Nat.mod_lt a (show 0 < 6 by decide)
  have hk := Nat.mod_lt (a / 6) (show 0 < 5 by decide)
  have hz := Nat.mod_lt (b / 32) (show 0 < 12 by decide)
  refine x_iload (pc' := 2) rfl rfl rfl ?_
  refine x_bipush (pc' := 4) rfl rfl ?_
  refine x_irem (pc' := 5) (z := (io (a % 6))) rfl rfl (by decide) (io_rem (k := a) (K := 6) ha (by decide)) ?_
  refine x_istore (pc' := 7) (ls' := [_, _, _, _, _, _, _, _, _, _, _, _, _, _, _, _, _, _, _, _, _, _, _, _]) rfl rfl rfl rfl ?_
  refine x_iload (pc' := 9) rfl rfl rfl ?_
  refine x_bipush (pc' := 11) rfl rfl ?_
  refine x_idiv (pc' := 12) (z := (io (a / 6))) rfl rfl (by decide) (io_div (p := a) (q := 6) ha (by decide)) ?_
  refine x_iconst (pc' := 13) rfl rfl ?_
  refine x_irem (pc' := 14) (z := (io (a / 6 % 5))) rfl rfl (by decide) (io_rem (k := a / 6) (K := 5) (by omega) (by decide)) ?_
  refine x_istore (pc' := 16) (ls' := [_, _, _, _, _, _, _, _, _, _, _, _, _, _, _, _, _, _, _, _, _, _, _, _]) rfl rfl rfl rfl ?_
  refine x_iload (pc' := 18) rfl rfl rfl ?_
  refine x_iconst (pc' := 19) rfl rfl ?_
  refine x_irem (pc' := 20) (z := (io (b % 2))) rfl rfl (by decide) (io_rem (k := b) (K := 2) hb (by decide)) ?_
  rcases Nat.mod_two_eq_zero_or_one b with z | z
  · skip
    refine x_if (a' := 27) (pc' := 23) (z := false) rfl rfl rfl (k_nen (by rw [z]; rfl)) (fun h => by cases h) (fun _ => ?_)
    refine x_iconst (pc' := 24) rfl rfl ?_
    refine x_goto (pc' := 28) rfl rfl ?_
    refine x_istore (pc' := 30) (ls' := [_, _, _, _, _, _, _, _, _, _, _, _, _, _, _, _, _, _, _, _, _, _, _, _]) rfl rfl rfl rfl ?_
    refine x_iload (pc' := 32) rfl rfl rfl ?_
    refine x_iload (pc' := 34) rfl rfl rfl ?_
    refine x_iconst (pc' := 35) rfl rfl ?_
    refine x_idiv (pc' := 36) (z := (io (b / 2))) rfl rfl (by decide) (io_div (p := b) (q := 2) hb (by decide)) ?_
    refine x_cs (ls0 := [_, _]) (rest := []) rfl rfl rfl rfl ?_
    refine w_271 hk (by omega) ?_
    refine sK_i (pc' := 39) rfl ?_
    refine x_istore (pc' := 41) (ls' := [_, _, _, _, _, _, _, _, _, _, _, _, _, _, _, _, _, _, _, _, _, _, _, _]) rfl rfl rfl rfl ?_
    refine x_iconst (pc' := 42) rfl rfl ?_
    refine x_iload (pc' := 44) rfl rfl rfl ?_
    refine x_bipush (pc' := 46) rfl rfl ?_
    refine x_idiv (pc' := 47) (z := (io (b / 32))) rfl rfl (by decide) (io_div (p := b) (q := 32) hb (by decide)) ?_
    refine x_bipush (pc' := 49) rfl rfl ?_
    refine x_irem (pc' := 50) (z := (io (b / 32 % 12))) rfl rfl (by decide) (io_rem (k := b / 32) (K := 12) (by omega) (by decide)) ?_
    refine x_iadd (pc' := 51) (z := (io (1 + b / 32 % 12))) rfl rfl (io_add 1 _) ?_
    refine x_istore (pc' := 53) (ls' := [_, _, _, _, _, _, _, _, _, _, _, _, _, _, _, _, _, _, _, _, _, _, _, _]) rfl rfl rfl rfl ?_
    exact w_272s (s := true) h hv he hm hk (by omega) (by omega) pf_c hb hwh q
  · skip
    refine x_if (a' := 27) (pc' := 23) (z := true) rfl rfl rfl (k_ne (by rw [z]; decide)) (fun _ => ?_) (fun h => by cases h)
    refine x_iconst (pc' := 28) rfl rfl ?_
    refine x_istore (pc' := 30) (ls' := [_, _, _, _, _, _, _, _, _, _, _, _, _, _, _, _, _, _, _, _, _, _, _, _]) rfl rfl rfl rfl ?_
    refine x_iload (pc' := 32) rfl rfl rfl ?_
    refine x_iload (pc' := 34) rfl rfl rfl ?_
    refine x_iconst (pc' := 35) rfl rfl ?_
    refine x_idiv (pc' := 36) (z := (io (b / 2))) rfl rfl (by decide) (io_div (p := b) (q := 2) hb (by decide)) ?_
    refine x_cs (ls0 := [_, _]) (rest := []) rfl rfl rfl rfl ?_
    refine w_271 hk (by omega) ?_
    refine sK_i (pc' := 39) rfl ?_
    refine x_istore (pc' := 41) (ls' := [_, _, _, _, _, _, _, _, _, _, _, _, _, _, _, _, _, _, _, _, _, _, _, _]) rfl rfl rfl rfl ?_
    refine x_iconst (pc' := 42) rfl rfl ?_
    refine x_iload (pc' := 44) rfl rfl rfl ?_
    refine x_bipush (pc' := 46) rfl rfl ?_
    refine x_idiv (pc' := 47) (z := (io (b / 32))) rfl rfl (by decide) (io_div (p := b) (q := 32) hb (by decide)) ?_
    refine x_bipush (pc' := 49) rfl rfl ?_
    refine x_irem (pc' := 50) (z := (io (b / 32 % 12))) rfl rfl (by decide) (io_rem (k := b / 32) (K := 12) (by omega) (by decide)) ?_
    refine x_iadd (pc' := 51) (z := (io (1 + b / 32 % 12))) rfl rfl (io_add 1 _) ?_
    refine x_istore (pc' := 53) (ls' := [_, _, _, _, _, _, _, _, _, _, _, _, _, _, _, _, _, _, _, _, _, _, _, _]) rfl rfl rfl rfl ?_
    exact w_272s (s := false) h hv he hm hk (by omega) (by omega) pf_c hb hwh q
end Sym
