/-! a turn of the law's loop, for each call (printed by gen99zp.py) -/
def Hd (t : sT) (M : sM) (n T : Nat) (Ls : List Nat) (A B : Nat) (xs : Nat → Int32) (L : Nat) : Prop := Wc t M n T Ls A B ∧ rp t = M ∧ Zr t ∧ (∀ p, sA t 29 0 p = xs p) ∧ sN t 29 0 = L
section S99zr
variable {t t' t0 t1 : sT} {M M' M0 N : sM} {n T A B w i e L : Nat} {v : Int32} {Ls : List Nat} {xs : Nat → Int32} {y0 y1 : sV} {Q : sRs → sT → Prop} {r : Rs4}
theorem hd_40 (hd : Hd t M n T Ls A B xs L) (hi : i + 7 ≤ L) (hL : L ≤ 3584) (k : X 297 40 [.inr (.inr (29, (some 0))), .inr (.inr (11, (some 0))), .inr (.inr (12, (some 0))), .inr (.inr (23, (some 0))), .inl (io i), y0, y1] [.inl ((xs i) &&& 63)] t Q) : X 297 23 [.inr (.inr (29, (some 0))), .inr (.inr (11, (some 0))), .inr (.inr (12, (some 0))), .inr (.inr (23, (some 0))), .inl (io i), y0, y1] [] t Q := by
  refine x_iload (pc' := 25) rfl rfl rfl ?_
  refine x_aload_n (pc' := 26) rfl rfl rfl rfl rfl ?_
  refine x_alen (pc' := 27) (N := L) rfl rfl rfl hd.2.2.2.2 ?_
  refine x_bipush (pc' := 29) rfl rfl ?_
  refine x_isub (pc' := 30) (z := io (L - 7)) rfl rfl (io_sub (p := L) (q := 7) (by omega)) ?_
  refine x_icmp (a' := 2944) (pc' := 33) (z := false) rfl rfl rfl ((ic_gt (p := i) (q := L - 7) (by omega) (by omega)).trans (decide_eq_false (by omega))) (fun h => by cases h) (fun _ => ?_)
  refine x_aload_n (pc' := 34) rfl rfl rfl rfl rfl ?_
  refine x_iload (pc' := 36) rfl rfl rfl ?_
  refine x_iald (pc' := 37) (N := L) (x := xs i) rfl rfl rfl hd.2.2.2.2 (io_in (p := i) (N := L) (by omega) (by omega)) (Eq.trans (congrArg (sA t 29 0) (nn_io (p := i) (by omega))) (hd.2.2.2.1 i)) ?_
  refine x_bipush (pc' := 39) rfl rfl ?_
  refine x_iand (pc' := 40) (z := ((xs i) &&& 63)) rfl rfl rfl ?_
  exact k
theorem lc_0 (hd : Hd t M n T Ls A B xs L) (hv : Hv M n e) (he : e ≤ 599) (hi : i + 7 ≤ L) (hL : L ≤ 3584) (hk : ((xs i) &&& 63) = 0)
    (q : ∀ t' T' Ls' (y5 y6 : sV), Hd t' (sp84 M n (xs (i + 1))).2.2.1 (sp84 M n (xs (i + 1))).2.2.2 T' Ls' (A + 2) (B + 12) xs L → Hv (sp84 M n (xs (i + 1))).2.2.1 (sp84 M n (xs (i + 1))).2.2.2 (e + 1) → X 297 23 [.inr (.inr (29, (some 0))), .inr (.inr (11, (some 0))), .inr (.inr (12, (some 0))), .inr (.inr (23, (some 0))), .inl (io (i + 7)), y5, y6] [] t' Q) :
    X 297 23 [.inr (.inr (29, (some 0))), .inr (.inr (11, (some 0))), .inr (.inr (12, (some 0))), .inr (.inr (23, (some 0))), .inl (io i), y0, y1] [] t Q := by
  have hTT := Hv_T hv
  have hTN : tN M = T := W_tN hd.1
  rw [hTN] at hTT
  have hI : mI M 801 = io T := hTT.2.2
  have hT4 : T < 4096 := by omega
  obtain ⟨j1, j2⟩ : (sp84 M n (xs (i + 1))).1 ≤ 2 ∧ mI (sp84 M n (xs (i + 1))).2.2.1 768 = io (sp84 M n (xs (i + 1))).1 := J84
  have hr : Hv (sp84 M n (xs (i + 1))).2.2.1 (sp84 M n (xs (i + 1))).2.2.2 (e + 1) := Hv_e (H84 hv)
  have HN : ∀ {t1 : sT}, lw t1 t → sN t1 29 0 = L := fun h => (congrFun h.2.1 0).trans hd.2.2.2.2
  have HA : ∀ {t1 : sT}, lw t1 t → ∀ p, sA t1 29 0 p = xs p := fun h p => (congrFun (congrFun h.1 0) p).trans (hd.2.2.2.1 p)
  have l0 : lw t t := ⟨rfl, rfl, rfl⟩
  refine hd_40 hd hi hL ?_
  refine x_switch (pc' := 224) rfl (by rw [hk]; decide) ?_
  refine x_aload_n (pc' := 225) rfl rfl rfl rfl rfl ?_
  refine x_aload_n (pc' := 226) rfl rfl rfl rfl rfl ?_
  refine x_iload (pc' := 228) rfl rfl rfl ?_
  refine x_iconst (pc' := 229) rfl rfl ?_
  refine x_iadd (pc' := 230) (z := io (i + 1)) rfl rfl (io_add i 1) ?_
  refine x_iald (pc' := 231) (N := L) (x := xs (i + 1)) rfl rfl rfl (HN l0) (io_in (p := i + 1) (N := L) (by omega) (by omega)) (Eq.trans (congrArg (sA t 29 0) (nn_io (p := i + 1) (by omega))) (HA l0 _)) ?_
  refine x_aload_n (pc' := 232) rfl rfl rfl rfl rfl ?_
  refine x_cs (ls0 := [_, _, _, sJk]) (rest := []) rfl rfl rfl rfl ?_
  refine wr_259 (r := (sp84 M n (xs (i + 1)))) (w := 0) j1 hd.2.2.1 (fun Q' h => C84 hd.1 h) (fun t1 T1 L1 W1 l1 z1 o1 => ?_)
  refine sK_i (pc' := 235) rfl ?_
  refine x_istore (pc' := 237) (ls' := [_, _, _, _, _, _, _]) rfl rfl rfl rfl ?_
  have hV : Vr t1 M n := ⟨l1.2.2.trans hd.2.1, W1.2.1.1, hd.1.2.2.1⟩
  refine x_aload_n (pc' := 238) rfl rfl rfl rfl rfl ?_
  refine x_aload_n (pc' := 239) rfl rfl rfl rfl rfl ?_
  refine x_iload (pc' := 241) rfl rfl rfl ?_
  refine x_iconst (pc' := 242) rfl rfl ?_
  refine x_iadd (pc' := 243) (z := io (i + 1)) rfl rfl (io_add i 1) ?_
  refine x_iald (pc' := 244) (N := L) (x := xs (i + 1)) rfl rfl rfl (HN l1) (io_in (p := i + 1) (N := L) (by omega) (by omega)) (Eq.trans (congrArg (sA t1 29 0) (nn_io (p := i + 1) (by omega))) (HA l1 _)) ?_
  refine x_cv (ls0 := [_, _, sJk]) (rest := []) rfl rfl rfl rfl rfl ?_
  refine R186 hV (fun t2 h2 c2 => ?_)
  refine sK_i (pc' := 247) rfl ?_
  refine x_istore (pc' := 249) (ls' := [_, _, _, _, _, _, _]) rfl rfl rfl rfl ?_
  have W2 : Wc t2 (sp84 M n (xs (i + 1))).2.2.1 (sp84 M n (xs (i + 1))).2.2.2 T1 L1 (A + 2) (B + 12) := W_cp c2 W1
  have HN2 : sN t2 29 0 = L := (congrFun (congrFun (cpN c2) 29) 0).trans (HN l1)
  have HA2 : ∀ p, sA t2 29 0 p = xs p := fun p => (cpA c2 rfl).trans (HA l1 p)
  have HD2 := (⟨W2, h2, Zr_cp c2 z1, HA2, HN2⟩ : Hd t2 (sp84 M n (xs (i + 1))).2.2.1 (sp84 M n (xs (i + 1))).2.2.2 T1 L1 (A + 2) (B + 12) xs L)
  have q2 := fun y5 y6 => q t2 T1 L1 y5 y6 HD2 hr
  have hout : (sp84 M n (xs (i + 1))).1 = 0 → sL t2 23 0 0 = (sp84 M n (xs (i + 1))).2.1.toInt64 := fun h => (congrFun (congrFun (congrFun (cpL c2) 23) 0) 0).trans (o1 h)
  have hc2 : Cn t2 := W2.2.1.1
  clear q HD2 hr W2 W1 o1
  generalize (sp84 M n (xs (i + 1))) = r at *
  have fin : X 297 2938 [.inr (.inr (29, (some 0))), .inr (.inr (11, (some 0))), .inr (.inr (12, (some 0))), .inr (.inr (23, (some 0))), .inl (io i), .inl (io r.1), .inl r.2.1] [] t2 Q := by
    refine x_iinc (pc' := 2941) (y := io (i + 7)) (ls' := [_, _, _, _, _, _, _]) rfl rfl rfl (io_add i 7) rfl ?_
    refine x_goto (pc' := 23) rfl rfl ?_
    exact q2 _ _
  refine x_aload_n (pc' := 250) rfl rfl rfl rfl rfl ?_
  refine x_cv (ls0 := [_]) (rest := []) rfl rfl rfl rfl rfl ?_
  refine x_aload_n (pc' := 1) rfl rfl rfl rfl rfl ?_
  refine x_gI (pc' := 4) (x := io r.1) rfl rfl rfl ((gI h2 rfl).trans j2) ?_
  refine x_reti rfl rfl ?_
  refine sK_i (pc' := 253) rfl ?_
  refine x_iload (pc' := 255) rfl rfl rfl ?_
  refine x_icmp (a' := 260) (pc' := 258) (z := true) rfl rfl rfl (show decide (io r.1 = io r.1) = true from decide_eq_true rfl) (fun _ => ?_) (fun h => by cases h)
  refine x_iload (pc' := 262) rfl rfl rfl ?_
  have gof : X 297 277 [.inr (.inr (29, (some 0))), .inr (.inr (11, (some 0))), .inr (.inr (12, (some 0))), .inr (.inr (23, (some 0))), .inl (io i), .inl (io r.1), .inl r.2.1] [] t2 Q := by
    refine x_goto (pc' := 2938) rfl rfl ?_
    exact fin
  by_cases h0 : r.1 = 0
  · refine x_if (a' := 277) (pc' := 265) (z := false) rfl rfl rfl (by rw [h0]; rfl) (fun h => by cases h) (fun _ => ?_)
    refine x_aload_n (pc' := 266) rfl rfl rfl rfl rfl ?_
    refine x_iconst (pc' := 267) rfl rfl ?_
    refine x_lald (pc' := 268) (N := 1) (x := r.2.1.toInt64) rfl rfl (kN_23_0 hc2) (by decide) (hout h0) ?_
    refine x_iload (pc' := 270) rfl rfl rfl ?_
    refine x_i2l (pc' := 271) rfl rfl rfl ?_
    refine x_lcmp (pc' := 272) (z := 0) rfl rfl (sLcmp_s _) ?_
    refine x_if (a' := 277) (pc' := 275) (z := true) rfl rfl rfl (by decide) (fun _ => gof) (fun h => by cases h)
  · refine x_if (a' := 277) (pc' := 265) (z := true) rfl rfl rfl ((ic_ne (p := r.1) (q := 0) (by omega) (by decide)).trans (decide_eq_true h0)) (fun _ => gof) (fun h => by cases h)
theorem lc_1 (hd : Hd t M n T Ls A B xs L) (hv : Hv M n e) (he : e ≤ 599) (hi : i + 7 ≤ L) (hL : L ≤ 3584) (hk : ((xs i) &&& 63) = 1)
    (q : ∀ t' T' Ls' (y5 y6 : sV), Hd t' (sp85 M n (xs (i + 1))).2.2.1 (sp85 M n (xs (i + 1))).2.2.2 T' Ls' (A + 2) (B + 12) xs L → Hv (sp85 M n (xs (i + 1))).2.2.1 (sp85 M n (xs (i + 1))).2.2.2 (e + 1) → X 297 23 [.inr (.inr (29, (some 0))), .inr (.inr (11, (some 0))), .inr (.inr (12, (some 0))), .inr (.inr (23, (some 0))), .inl (io (i + 7)), y5, y6] [] t' Q) :
    X 297 23 [.inr (.inr (29, (some 0))), .inr (.inr (11, (some 0))), .inr (.inr (12, (some 0))), .inr (.inr (23, (some 0))), .inl (io i), y0, y1] [] t Q := by
  have hTT := Hv_T hv
  have hTN : tN M = T := W_tN hd.1
  rw [hTN] at hTT
  have hI : mI M 801 = io T := hTT.2.2
  have hT4 : T < 4096 := by omega
  obtain ⟨j1, j2⟩ : (sp85 M n (xs (i + 1))).1 ≤ 2 ∧ mI (sp85 M n (xs (i + 1))).2.2.1 768 = io (sp85 M n (xs (i + 1))).1 := J85
  have hr : Hv (sp85 M n (xs (i + 1))).2.2.1 (sp85 M n (xs (i + 1))).2.2.2 (e + 1) := Hv_e (H85 hv)
  have HN : ∀ {t1 : sT}, lw t1 t → sN t1 29 0 = L := fun h => (congrFun h.2.1 0).trans hd.2.2.2.2
  have HA : ∀ {t1 : sT}, lw t1 t → ∀ p, sA t1 29 0 p = xs p := fun h p => (congrFun (congrFun h.1 0) p).trans (hd.2.2.2.1 p)
  have l0 : lw t t := ⟨rfl, rfl, rfl⟩
  refine hd_40 hd hi hL ?_
  refine x_switch (pc' := 280) rfl (by rw [hk]; decide) ?_
  refine x_aload_n (pc' := 281) rfl rfl rfl rfl rfl ?_
  refine x_aload_n (pc' := 282) rfl rfl rfl rfl rfl ?_
  refine x_iload (pc' := 284) rfl rfl rfl ?_
  refine x_iconst (pc' := 285) rfl rfl ?_
  refine x_iadd (pc' := 286) (z := io (i + 1)) rfl rfl (io_add i 1) ?_
  refine x_iald (pc' := 287) (N := L) (x := xs (i + 1)) rfl rfl rfl (HN l0) (io_in (p := i + 1) (N := L) (by omega) (by omega)) (Eq.trans (congrArg (sA t 29 0) (nn_io (p := i + 1) (by omega))) (HA l0 _)) ?_
  refine x_aload_n (pc' := 288) rfl rfl rfl rfl rfl ?_
  refine x_cs (ls0 := [_, _, _, sJk]) (rest := []) rfl rfl rfl rfl ?_
  refine wr_260 (r := (sp85 M n (xs (i + 1)))) (w := 0) j1 hd.2.2.1 (fun Q' h => C85 hd.1 h) (fun t1 T1 L1 W1 l1 z1 o1 => ?_)
  refine sK_i (pc' := 291) rfl ?_
  refine x_istore (pc' := 293) (ls' := [_, _, _, _, _, _, _]) rfl rfl rfl rfl ?_
  have hV : Vr t1 M n := ⟨l1.2.2.trans hd.2.1, W1.2.1.1, hd.1.2.2.1⟩
  refine x_aload_n (pc' := 294) rfl rfl rfl rfl rfl ?_
  refine x_aload_n (pc' := 295) rfl rfl rfl rfl rfl ?_
  refine x_iload (pc' := 297) rfl rfl rfl ?_
  refine x_iconst (pc' := 298) rfl rfl ?_
  refine x_iadd (pc' := 299) (z := io (i + 1)) rfl rfl (io_add i 1) ?_
  refine x_iald (pc' := 300) (N := L) (x := xs (i + 1)) rfl rfl rfl (HN l1) (io_in (p := i + 1) (N := L) (by omega) (by omega)) (Eq.trans (congrArg (sA t1 29 0) (nn_io (p := i + 1) (by omega))) (HA l1 _)) ?_
  refine x_cv (ls0 := [_, _, sJk]) (rest := []) rfl rfl rfl rfl rfl ?_
  refine R187 hV (fun t2 h2 c2 => ?_)
  refine sK_i (pc' := 303) rfl ?_
  refine x_istore (pc' := 305) (ls' := [_, _, _, _, _, _, _]) rfl rfl rfl rfl ?_
  have W2 : Wc t2 (sp85 M n (xs (i + 1))).2.2.1 (sp85 M n (xs (i + 1))).2.2.2 T1 L1 (A + 2) (B + 12) := W_cp c2 W1
  have HN2 : sN t2 29 0 = L := (congrFun (congrFun (cpN c2) 29) 0).trans (HN l1)
  have HA2 : ∀ p, sA t2 29 0 p = xs p := fun p => (cpA c2 rfl).trans (HA l1 p)
  have HD2 := (⟨W2, h2, Zr_cp c2 z1, HA2, HN2⟩ : Hd t2 (sp85 M n (xs (i + 1))).2.2.1 (sp85 M n (xs (i + 1))).2.2.2 T1 L1 (A + 2) (B + 12) xs L)
  have q2 := fun y5 y6 => q t2 T1 L1 y5 y6 HD2 hr
  have hout : (sp85 M n (xs (i + 1))).1 = 0 → sL t2 23 0 0 = (sp85 M n (xs (i + 1))).2.1.toInt64 := fun h => (congrFun (congrFun (congrFun (cpL c2) 23) 0) 0).trans (o1 h)
  have hc2 : Cn t2 := W2.2.1.1
  clear q HD2 hr W2 W1 o1
  generalize (sp85 M n (xs (i + 1))) = r at *
  have fin : X 297 2938 [.inr (.inr (29, (some 0))), .inr (.inr (11, (some 0))), .inr (.inr (12, (some 0))), .inr (.inr (23, (some 0))), .inl (io i), .inl (io r.1), .inl r.2.1] [] t2 Q := by
    refine x_iinc (pc' := 2941) (y := io (i + 7)) (ls' := [_, _, _, _, _, _, _]) rfl rfl rfl (io_add i 7) rfl ?_
    refine x_goto (pc' := 23) rfl rfl ?_
    exact q2 _ _
  refine x_aload_n (pc' := 306) rfl rfl rfl rfl rfl ?_
  refine x_cv (ls0 := [_]) (rest := []) rfl rfl rfl rfl rfl ?_
  refine x_aload_n (pc' := 1) rfl rfl rfl rfl rfl ?_
  refine x_gI (pc' := 4) (x := io r.1) rfl rfl rfl ((gI h2 rfl).trans j2) ?_
  refine x_reti rfl rfl ?_
  refine sK_i (pc' := 309) rfl ?_
  refine x_iload (pc' := 311) rfl rfl rfl ?_
  refine x_icmp (a' := 316) (pc' := 314) (z := true) rfl rfl rfl (show decide (io r.1 = io r.1) = true from decide_eq_true rfl) (fun _ => ?_) (fun h => by cases h)
  refine x_iload (pc' := 318) rfl rfl rfl ?_
  have gof : X 297 333 [.inr (.inr (29, (some 0))), .inr (.inr (11, (some 0))), .inr (.inr (12, (some 0))), .inr (.inr (23, (some 0))), .inl (io i), .inl (io r.1), .inl r.2.1] [] t2 Q := by
    refine x_goto (pc' := 2938) rfl rfl ?_
    exact fin
  by_cases h0 : r.1 = 0
  · refine x_if (a' := 333) (pc' := 321) (z := false) rfl rfl rfl (by rw [h0]; rfl) (fun h => by cases h) (fun _ => ?_)
    refine x_aload_n (pc' := 322) rfl rfl rfl rfl rfl ?_
    refine x_iconst (pc' := 323) rfl rfl ?_
    refine x_lald (pc' := 324) (N := 1) (x := r.2.1.toInt64) rfl rfl (kN_23_0 hc2) (by decide) (hout h0) ?_
    refine x_iload (pc' := 326) rfl rfl rfl ?_
    refine x_i2l (pc' := 327) rfl rfl rfl ?_
    refine x_lcmp (pc' := 328) (z := 0) rfl rfl (sLcmp_s _) ?_
    refine x_if (a' := 333) (pc' := 331) (z := true) rfl rfl rfl (by decide) (fun _ => gof) (fun h => by cases h)
  · refine x_if (a' := 333) (pc' := 321) (z := true) rfl rfl rfl ((ic_ne (p := r.1) (q := 0) (by omega) (by decide)).trans (decide_eq_true h0)) (fun _ => gof) (fun h => by cases h)
theorem lc_2 (hd : Hd t M n T Ls A B xs L) (hv : Hv M n e) (he : e ≤ 599) (hi : i + 7 ≤ L) (hL : L ≤ 3584) (hk : ((xs i) &&& 63) = 2)
    (q : ∀ t' T' Ls' (y5 y6 : sV), Hd t' (sp86 M n (xs (i + 1))).2.2.1 (sp86 M n (xs (i + 1))).2.2.2 T' Ls' (A + 2) (B + 12) xs L → Hv (sp86 M n (xs (i + 1))).2.2.1 (sp86 M n (xs (i + 1))).2.2.2 (e + 1) → X 297 23 [.inr (.inr (29, (some 0))), .inr (.inr (11, (some 0))), .inr (.inr (12, (some 0))), .inr (.inr (23, (some 0))), .inl (io (i + 7)), y5, y6] [] t' Q) :
    X 297 23 [.inr (.inr (29, (some 0))), .inr (.inr (11, (some 0))), .inr (.inr (12, (some 0))), .inr (.inr (23, (some 0))), .inl (io i), y0, y1] [] t Q := by
  have hTT := Hv_T hv
  have hTN : tN M = T := W_tN hd.1
  rw [hTN] at hTT
  have hI : mI M 801 = io T := hTT.2.2
  have hT4 : T < 4096 := by omega
  have hT1 : T + 2 * rcN M n < 4094 := by omega
  obtain ⟨j1, j2⟩ : (sp86 M n (xs (i + 1))).1 ≤ 2 ∧ mI (sp86 M n (xs (i + 1))).2.2.1 768 = io (sp86 M n (xs (i + 1))).1 := J86 hv (by omega)
  have hr : Hv (sp86 M n (xs (i + 1))).2.2.1 (sp86 M n (xs (i + 1))).2.2.2 (e + 1) := Hv_e (H86 hv (by omega))
  have HN : ∀ {t1 : sT}, lw t1 t → sN t1 29 0 = L := fun h => (congrFun h.2.1 0).trans hd.2.2.2.2
  have HA : ∀ {t1 : sT}, lw t1 t → ∀ p, sA t1 29 0 p = xs p := fun h p => (congrFun (congrFun h.1 0) p).trans (hd.2.2.2.1 p)
  have l0 : lw t t := ⟨rfl, rfl, rfl⟩
  refine hd_40 hd hi hL ?_
  refine x_switch (pc' := 336) rfl (by rw [hk]; decide) ?_
  refine x_aload_n (pc' := 337) rfl rfl rfl rfl rfl ?_
  refine x_aload_n (pc' := 338) rfl rfl rfl rfl rfl ?_
  refine x_iload (pc' := 340) rfl rfl rfl ?_
  refine x_iconst (pc' := 341) rfl rfl ?_
  refine x_iadd (pc' := 342) (z := io (i + 1)) rfl rfl (io_add i 1) ?_
  refine x_iald (pc' := 343) (N := L) (x := xs (i + 1)) rfl rfl rfl (HN l0) (io_in (p := i + 1) (N := L) (by omega) (by omega)) (Eq.trans (congrArg (sA t 29 0) (nn_io (p := i + 1) (by omega))) (HA l0 _)) ?_
  refine x_aload_n (pc' := 344) rfl rfl rfl rfl rfl ?_
  refine x_cs (ls0 := [_, _, _, sJk]) (rest := []) rfl rfl rfl rfl ?_
  refine wr_261 (r := (sp86 M n (xs (i + 1)))) (w := (d86 M n (xs (i + 1)))) j1 hd.2.2.1 (fun Q' h => C86 hd.1 hv.1 hT1 h) (fun t1 T1 L1 W1 l1 z1 o1 => ?_)
  refine sK_i (pc' := 347) rfl ?_
  refine x_istore (pc' := 349) (ls' := [_, _, _, _, _, _, _]) rfl rfl rfl rfl ?_
  have hV : Vr t1 M n := ⟨l1.2.2.trans hd.2.1, W1.2.1.1, hd.1.2.2.1⟩
  refine x_aload_n (pc' := 350) rfl rfl rfl rfl rfl ?_
  refine x_aload_n (pc' := 351) rfl rfl rfl rfl rfl ?_
  refine x_iload (pc' := 353) rfl rfl rfl ?_
  refine x_iconst (pc' := 354) rfl rfl ?_
  refine x_iadd (pc' := 355) (z := io (i + 1)) rfl rfl (io_add i 1) ?_
  refine x_iald (pc' := 356) (N := L) (x := xs (i + 1)) rfl rfl rfl (HN l1) (io_in (p := i + 1) (N := L) (by omega) (by omega)) (Eq.trans (congrArg (sA t1 29 0) (nn_io (p := i + 1) (by omega))) (HA l1 _)) ?_
  refine x_cv (ls0 := [_, _, sJk, sJk, sJk, sJk, sJk, sJk, sJk]) (rest := []) rfl rfl rfl rfl rfl ?_
  refine R192 hV hv.1 hI hT1 (fun t2 h2 c2 => ?_)
  refine sK_i (pc' := 359) rfl ?_
  refine x_istore (pc' := 361) (ls' := [_, _, _, _, _, _, _]) rfl rfl rfl rfl ?_
  have W2 : Wc t2 (sp86 M n (xs (i + 1))).2.2.1 (sp86 M n (xs (i + 1))).2.2.2 T1 L1 (A + 2) (B + 12) := W_cp c2 W1
  have HN2 : sN t2 29 0 = L := (congrFun (congrFun (cpN c2) 29) 0).trans (HN l1)
  have HA2 : ∀ p, sA t2 29 0 p = xs p := fun p => (cpA c2 rfl).trans (HA l1 p)
  have HD2 := (⟨W2, h2, Zr_cp c2 z1, HA2, HN2⟩ : Hd t2 (sp86 M n (xs (i + 1))).2.2.1 (sp86 M n (xs (i + 1))).2.2.2 T1 L1 (A + 2) (B + 12) xs L)
  have q2 := fun y5 y6 => q t2 T1 L1 y5 y6 HD2 hr
  have hout : (sp86 M n (xs (i + 1))).1 = 0 → sL t2 23 0 0 = (sp86 M n (xs (i + 1))).2.1.toInt64 := fun h => (congrFun (congrFun (congrFun (cpL c2) 23) 0) 0).trans (o1 h)
  have hc2 : Cn t2 := W2.2.1.1
  clear q HD2 hr W2 W1 o1
  generalize (sp86 M n (xs (i + 1))) = r at *
  have fin : X 297 2938 [.inr (.inr (29, (some 0))), .inr (.inr (11, (some 0))), .inr (.inr (12, (some 0))), .inr (.inr (23, (some 0))), .inl (io i), .inl (io r.1), .inl r.2.1] [] t2 Q := by
    refine x_iinc (pc' := 2941) (y := io (i + 7)) (ls' := [_, _, _, _, _, _, _]) rfl rfl rfl (io_add i 7) rfl ?_
    refine x_goto (pc' := 23) rfl rfl ?_
    exact q2 _ _
  refine x_aload_n (pc' := 362) rfl rfl rfl rfl rfl ?_
  refine x_cv (ls0 := [_]) (rest := []) rfl rfl rfl rfl rfl ?_
  refine x_aload_n (pc' := 1) rfl rfl rfl rfl rfl ?_
  refine x_gI (pc' := 4) (x := io r.1) rfl rfl rfl ((gI h2 rfl).trans j2) ?_
  refine x_reti rfl rfl ?_
  refine sK_i (pc' := 365) rfl ?_
  refine x_iload (pc' := 367) rfl rfl rfl ?_
  refine x_icmp (a' := 372) (pc' := 370) (z := true) rfl rfl rfl (show decide (io r.1 = io r.1) = true from decide_eq_true rfl) (fun _ => ?_) (fun h => by cases h)
  refine x_iload (pc' := 374) rfl rfl rfl ?_
  have gof : X 297 389 [.inr (.inr (29, (some 0))), .inr (.inr (11, (some 0))), .inr (.inr (12, (some 0))), .inr (.inr (23, (some 0))), .inl (io i), .inl (io r.1), .inl r.2.1] [] t2 Q := by
    refine x_goto (pc' := 2938) rfl rfl ?_
    exact fin
  by_cases h0 : r.1 = 0
  · refine x_if (a' := 389) (pc' := 377) (z := false) rfl rfl rfl (by rw [h0]; rfl) (fun h => by cases h) (fun _ => ?_)
    refine x_aload_n (pc' := 378) rfl rfl rfl rfl rfl ?_
    refine x_iconst (pc' := 379) rfl rfl ?_
    refine x_lald (pc' := 380) (N := 1) (x := r.2.1.toInt64) rfl rfl (kN_23_0 hc2) (by decide) (hout h0) ?_
    refine x_iload (pc' := 382) rfl rfl rfl ?_
    refine x_i2l (pc' := 383) rfl rfl rfl ?_
    refine x_lcmp (pc' := 384) (z := 0) rfl rfl (sLcmp_s _) ?_
    refine x_if (a' := 389) (pc' := 387) (z := true) rfl rfl rfl (by decide) (fun _ => gof) (fun h => by cases h)
  · refine x_if (a' := 389) (pc' := 377) (z := true) rfl rfl rfl ((ic_ne (p := r.1) (q := 0) (by omega) (by decide)).trans (decide_eq_true h0)) (fun _ => gof) (fun h => by cases h)
theorem lc_3 (hd : Hd t M n T Ls A B xs L) (hv : Hv M n e) (he : e ≤ 599) (hi : i + 7 ≤ L) (hL : L ≤ 3584) (hk : ((xs i) &&& 63) = 3)
    (q : ∀ t' T' Ls' (y5 y6 : sV), Hd t' (sp87 M n (xs (i + 1)) (!(decide (xs (i + 2) = 0)))).2.2.1 (sp87 M n (xs (i + 1)) (!(decide (xs (i + 2) = 0)))).2.2.2 T' Ls' (A + 2) (B + 12) xs L → Hv (sp87 M n (xs (i + 1)) (!(decide (xs (i + 2) = 0)))).2.2.1 (sp87 M n (xs (i + 1)) (!(decide (xs (i + 2) = 0)))).2.2.2 (e + 1) → X 297 23 [.inr (.inr (29, (some 0))), .inr (.inr (11, (some 0))), .inr (.inr (12, (some 0))), .inr (.inr (23, (some 0))), .inl (io (i + 7)), y5, y6] [] t' Q) :
    X 297 23 [.inr (.inr (29, (some 0))), .inr (.inr (11, (some 0))), .inr (.inr (12, (some 0))), .inr (.inr (23, (some 0))), .inl (io i), y0, y1] [] t Q := by
  have hTT := Hv_T hv
  have hTN : tN M = T := W_tN hd.1
  rw [hTN] at hTT
  have hI : mI M 801 = io T := hTT.2.2
  have hT4 : T < 4096 := by omega
  obtain ⟨j1, j2⟩ : (sp87 M n (xs (i + 1)) (!(decide (xs (i + 2) = 0)))).1 ≤ 1 ∧ mI (sp87 M n (xs (i + 1)) (!(decide (xs (i + 2) = 0)))).2.2.1 768 = io (sp87 M n (xs (i + 1)) (!(decide (xs (i + 2) = 0)))).1 := J87
  have hr : Hv (sp87 M n (xs (i + 1)) (!(decide (xs (i + 2) = 0)))).2.2.1 (sp87 M n (xs (i + 1)) (!(decide (xs (i + 2) = 0)))).2.2.2 (e + 1) := Hv_e (H87 hv)
  have HN : ∀ {t1 : sT}, lw t1 t → sN t1 29 0 = L := fun h => (congrFun h.2.1 0).trans hd.2.2.2.2
  have HA : ∀ {t1 : sT}, lw t1 t → ∀ p, sA t1 29 0 p = xs p := fun h p => (congrFun (congrFun h.1 0) p).trans (hd.2.2.2.1 p)
  have l0 : lw t t := ⟨rfl, rfl, rfl⟩
  refine hd_40 hd hi hL ?_
  refine x_switch (pc' := 392) rfl (by rw [hk]; decide) ?_
  generalize hs : (!(decide (xs (i + 2) = 0))) = s at *
  refine x_aload_n (pc' := 393) rfl rfl rfl rfl rfl ?_
  refine x_aload_n (pc' := 394) rfl rfl rfl rfl rfl ?_
  refine x_iload (pc' := 396) rfl rfl rfl ?_
  refine x_iconst (pc' := 397) rfl rfl ?_
  refine x_iadd (pc' := 398) (z := io (i + 1)) rfl rfl (io_add i 1) ?_
  refine x_iald (pc' := 399) (N := L) (x := xs (i + 1)) rfl rfl rfl (HN l0) (io_in (p := i + 1) (N := L) (by omega) (by omega)) (Eq.trans (congrArg (sA t 29 0) (nn_io (p := i + 1) (by omega))) (HA l0 _)) ?_
  refine x_aload_n (pc' := 400) rfl rfl rfl rfl rfl ?_
  refine x_iload (pc' := 402) rfl rfl rfl ?_
  refine x_iconst (pc' := 403) rfl rfl ?_
  refine x_iadd (pc' := 404) (z := io (i + 2)) rfl rfl (io_add i 2) ?_
  refine x_iald (pc' := 405) (N := L) (x := xs (i + 2)) rfl rfl rfl (HN l0) (io_in (p := i + 2) (N := L) (by omega) (by omega)) (Eq.trans (congrArg (sA t 29 0) (nn_io (p := i + 2) (by omega))) (HA l0 _)) ?_
  have hz412 : sCond .eq (xs (i + 2)) 0 = !s := by rw [← hs, Bool.not_not]; rfl
  have b412 : X 297 413 [.inr (.inr (29, (some 0))), .inr (.inr (11, (some 0))), .inr (.inr (12, (some 0))), .inr (.inr (23, (some 0))), .inl (io i), y0, y1] [.inl (bz s), .inl (xs (i + 1)), .inr (.inr (11, (some 0)))] t Q := by
    refine x_aload_n (pc' := 414) rfl rfl rfl rfl rfl ?_
    refine x_cs (ls0 := [_, _, _, _, sJk]) (rest := []) rfl rfl rfl rfl ?_
    refine wr_262 (r := (sp87 M n (xs (i + 1)) s)) (w := 0) j1 hd.2.2.1 (fun Q' h => C87 hd.1 h) (fun t1 T1 L1 W1 l1 z1 o1 => ?_)
    refine sK_i (pc' := 417) rfl ?_
    refine x_istore (pc' := 419) (ls' := [_, _, _, _, _, _, _]) rfl rfl rfl rfl ?_
    have hV : Vr t1 M n := ⟨l1.2.2.trans hd.2.1, W1.2.1.1, hd.1.2.2.1⟩
    refine x_aload_n (pc' := 420) rfl rfl rfl rfl rfl ?_
    refine x_aload_n (pc' := 421) rfl rfl rfl rfl rfl ?_
    refine x_iload (pc' := 423) rfl rfl rfl ?_
    refine x_iconst (pc' := 424) rfl rfl ?_
    refine x_iadd (pc' := 425) (z := io (i + 1)) rfl rfl (io_add i 1) ?_
    refine x_iald (pc' := 426) (N := L) (x := xs (i + 1)) rfl rfl rfl (HN l1) (io_in (p := i + 1) (N := L) (by omega) (by omega)) (Eq.trans (congrArg (sA t1 29 0) (nn_io (p := i + 1) (by omega))) (HA l1 _)) ?_
    refine x_aload_n (pc' := 427) rfl rfl rfl rfl rfl ?_
    refine x_iload (pc' := 429) rfl rfl rfl ?_
    refine x_iconst (pc' := 430) rfl rfl ?_
    refine x_iadd (pc' := 431) (z := io (i + 2)) rfl rfl (io_add i 2) ?_
    refine x_iald (pc' := 432) (N := L) (x := xs (i + 2)) rfl rfl rfl (HN l1) (io_in (p := i + 2) (N := L) (by omega) (by omega)) (Eq.trans (congrArg (sA t1 29 0) (nn_io (p := i + 2) (by omega))) (HA l1 _)) ?_
    have hz439 : sCond .eq (xs (i + 2)) 0 = !s := by rw [← hs, Bool.not_not]; rfl
    have b439 : X 297 440 [.inr (.inr (29, (some 0))), .inr (.inr (11, (some 0))), .inr (.inr (12, (some 0))), .inr (.inr (23, (some 0))), .inl (io i), .inl (io (sp87 M n (xs (i + 1)) s).1), y1] [.inl (bz s), .inl (xs (i + 1)), .inr (.inr (12, (some 0)))] t1 Q := by
      refine x_cv (ls0 := [_, _, _, sJk]) (rest := []) rfl rfl rfl rfl rfl ?_
      refine R193 hV (fun t2 h2 c2 => ?_)
      refine sK_i (pc' := 443) rfl ?_
      refine x_istore (pc' := 445) (ls' := [_, _, _, _, _, _, _]) rfl rfl rfl rfl ?_
      have W2 : Wc t2 (sp87 M n (xs (i + 1)) s).2.2.1 (sp87 M n (xs (i + 1)) s).2.2.2 T1 L1 (A + 2) (B + 12) := W_cp c2 W1
      have HN2 : sN t2 29 0 = L := (congrFun (congrFun (cpN c2) 29) 0).trans (HN l1)
      have HA2 : ∀ p, sA t2 29 0 p = xs p := fun p => (cpA c2 rfl).trans (HA l1 p)
      have HD2 := (⟨W2, h2, Zr_cp c2 z1, HA2, HN2⟩ : Hd t2 (sp87 M n (xs (i + 1)) s).2.2.1 (sp87 M n (xs (i + 1)) s).2.2.2 T1 L1 (A + 2) (B + 12) xs L)
      have q2 := fun y5 y6 => q t2 T1 L1 y5 y6 HD2 hr
      have hout : (sp87 M n (xs (i + 1)) s).1 = 0 → sL t2 23 0 0 = ol (sp87 M n (xs (i + 1)) s).2.1 := fun h => (congrFun (congrFun (congrFun (cpL c2) 23) 0) 0).trans (o1 h)
      have hc2 : Cn t2 := W2.2.1.1
      clear q HD2 hr W2 W1 o1
      generalize (sp87 M n (xs (i + 1)) s) = r at *
      have fin : X 297 2938 [.inr (.inr (29, (some 0))), .inr (.inr (11, (some 0))), .inr (.inr (12, (some 0))), .inr (.inr (23, (some 0))), .inl (io i), .inl (io r.1), .inl r.2.1] [] t2 Q := by
        refine x_iinc (pc' := 2941) (y := io (i + 7)) (ls' := [_, _, _, _, _, _, _]) rfl rfl rfl (io_add i 7) rfl ?_
        refine x_goto (pc' := 23) rfl rfl ?_
        exact q2 _ _
      refine x_aload_n (pc' := 446) rfl rfl rfl rfl rfl ?_
      refine x_cv (ls0 := [_]) (rest := []) rfl rfl rfl rfl rfl ?_
      refine x_aload_n (pc' := 1) rfl rfl rfl rfl rfl ?_
      refine x_gI (pc' := 4) (x := io r.1) rfl rfl rfl ((gI h2 rfl).trans j2) ?_
      refine x_reti rfl rfl ?_
      refine sK_i (pc' := 449) rfl ?_
      refine x_iload (pc' := 451) rfl rfl rfl ?_
      refine x_icmp (a' := 456) (pc' := 454) (z := true) rfl rfl rfl (show decide (io r.1 = io r.1) = true from decide_eq_true rfl) (fun _ => ?_) (fun h => by cases h)
      refine x_iload (pc' := 458) rfl rfl rfl ?_
      have gof : X 297 480 [.inr (.inr (29, (some 0))), .inr (.inr (11, (some 0))), .inr (.inr (12, (some 0))), .inr (.inr (23, (some 0))), .inl (io i), .inl (io r.1), .inl r.2.1] [] t2 Q := by
        refine x_goto (pc' := 2938) rfl rfl ?_
        exact fin
      by_cases h0 : r.1 = 0
      · refine x_if (a' := 480) (pc' := 461) (z := false) rfl rfl rfl (by rw [h0]; rfl) (fun h => by cases h) (fun _ => ?_)
        refine x_aload_n (pc' := 462) rfl rfl rfl rfl rfl ?_
        refine x_iconst (pc' := 463) rfl rfl ?_
        refine x_lald (pc' := 464) (N := 1) (x := ol r.2.1) rfl rfl (kN_23_0 hc2) (by decide) (hout h0) ?_
        refine x_iload (pc' := 466) rfl rfl rfl ?_
        refine x_if (a' := 473) (pc' := 469) (z := decide (r.2.1 = 0)) rfl rfl rfl rfl (fun h => ?_) (fun h => ?_)
        · refine x_lconst (pc' := 474) rfl rfl rfl ?_
          refine x_lcmp (pc' := 475) (z := 0) rfl rfl (by rw [ol_0 h]; exact sLcmp_s _) ?_
          refine x_if (a' := 480) (pc' := 478) (z := true) rfl rfl rfl (by decide) (fun _ => gof) (fun h => by cases h)
        · refine x_lconst (pc' := 470) rfl rfl rfl ?_
          refine x_goto (pc' := 474) rfl rfl ?_
          refine x_lcmp (pc' := 475) (z := 0) rfl rfl (by rw [ol_1 h]; exact sLcmp_s _) ?_
          refine x_if (a' := 480) (pc' := 478) (z := true) rfl rfl rfl (by decide) (fun _ => gof) (fun h => by cases h)
      · refine x_if (a' := 480) (pc' := 461) (z := true) rfl rfl rfl ((ic_ne (p := r.1) (q := 0) (by omega) (by decide)).trans (decide_eq_true h0)) (fun _ => gof) (fun h => by cases h)
    refine x_if (a' := 439) (pc' := 435) (z := !s) rfl rfl rfl hz439 (fun h => ?_) (fun h => ?_)
    · have es : s = false := by cases s; rfl; cases h
      subst es
      refine x_iconst (pc' := 440) rfl rfl ?_
      exact b439
    · have es : s = true := by cases s; cases h; rfl
      subst es
      refine x_iconst (pc' := 436) rfl rfl ?_
      refine x_goto (pc' := 440) rfl rfl ?_
      exact b439
  refine x_if (a' := 412) (pc' := 408) (z := !s) rfl rfl rfl hz412 (fun h => ?_) (fun h => ?_)
  · have es : s = false := by cases s; rfl; cases h
    subst es
    refine x_iconst (pc' := 413) rfl rfl ?_
    exact b412
  · have es : s = true := by cases s; cases h; rfl
    subst es
    refine x_iconst (pc' := 409) rfl rfl ?_
    refine x_goto (pc' := 413) rfl rfl ?_
    exact b412
theorem lc_4 (hd : Hd t M n T Ls A B xs L) (hv : Hv M n e) (he : e ≤ 599) (hi : i + 7 ≤ L) (hL : L ≤ 3584) (hk : ((xs i) &&& 63) = 4)
    (q : ∀ t' T' Ls' (y5 y6 : sV), Hd t' (sp88 M n (xs (i + 1)) (xs (i + 2)) (xs (i + 3))).2.2.1 (sp88 M n (xs (i + 1)) (xs (i + 2)) (xs (i + 3))).2.2.2 T' Ls' (A + 2) (B + 12) xs L → Hv (sp88 M n (xs (i + 1)) (xs (i + 2)) (xs (i + 3))).2.2.1 (sp88 M n (xs (i + 1)) (xs (i + 2)) (xs (i + 3))).2.2.2 (e + 1) → X 297 23 [.inr (.inr (29, (some 0))), .inr (.inr (11, (some 0))), .inr (.inr (12, (some 0))), .inr (.inr (23, (some 0))), .inl (io (i + 7)), y5, y6] [] t' Q) :
    X 297 23 [.inr (.inr (29, (some 0))), .inr (.inr (11, (some 0))), .inr (.inr (12, (some 0))), .inr (.inr (23, (some 0))), .inl (io i), y0, y1] [] t Q := by
  have hTT := Hv_T hv
  have hTN : tN M = T := W_tN hd.1
  rw [hTN] at hTT
  have hI : mI M 801 = io T := hTT.2.2
  have hT4 : T < 4096 := by omega
  obtain ⟨j1, j2⟩ : (sp88 M n (xs (i + 1)) (xs (i + 2)) (xs (i + 3))).1 ≤ 2 ∧ mI (sp88 M n (xs (i + 1)) (xs (i + 2)) (xs (i + 3))).2.2.1 768 = io (sp88 M n (xs (i + 1)) (xs (i + 2)) (xs (i + 3))).1 := J88
  have hr : Hv (sp88 M n (xs (i + 1)) (xs (i + 2)) (xs (i + 3))).2.2.1 (sp88 M n (xs (i + 1)) (xs (i + 2)) (xs (i + 3))).2.2.2 (e + 1) := Hv_e (H88 hv)
  have HN : ∀ {t1 : sT}, lw t1 t → sN t1 29 0 = L := fun h => (congrFun h.2.1 0).trans hd.2.2.2.2
  have HA : ∀ {t1 : sT}, lw t1 t → ∀ p, sA t1 29 0 p = xs p := fun h p => (congrFun (congrFun h.1 0) p).trans (hd.2.2.2.1 p)
  have l0 : lw t t := ⟨rfl, rfl, rfl⟩
  refine hd_40 hd hi hL ?_
  refine x_switch (pc' := 483) rfl (by rw [hk]; decide) ?_
  refine x_aload_n (pc' := 484) rfl rfl rfl rfl rfl ?_
  refine x_aload_n (pc' := 485) rfl rfl rfl rfl rfl ?_
  refine x_iload (pc' := 487) rfl rfl rfl ?_
  refine x_iconst (pc' := 488) rfl rfl ?_
  refine x_iadd (pc' := 489) (z := io (i + 1)) rfl rfl (io_add i 1) ?_
  refine x_iald (pc' := 490) (N := L) (x := xs (i + 1)) rfl rfl rfl (HN l0) (io_in (p := i + 1) (N := L) (by omega) (by omega)) (Eq.trans (congrArg (sA t 29 0) (nn_io (p := i + 1) (by omega))) (HA l0 _)) ?_
  refine x_aload_n (pc' := 491) rfl rfl rfl rfl rfl ?_
  refine x_iload (pc' := 493) rfl rfl rfl ?_
  refine x_iconst (pc' := 494) rfl rfl ?_
  refine x_iadd (pc' := 495) (z := io (i + 2)) rfl rfl (io_add i 2) ?_
  refine x_iald (pc' := 496) (N := L) (x := xs (i + 2)) rfl rfl rfl (HN l0) (io_in (p := i + 2) (N := L) (by omega) (by omega)) (Eq.trans (congrArg (sA t 29 0) (nn_io (p := i + 2) (by omega))) (HA l0 _)) ?_
  refine x_aload_n (pc' := 497) rfl rfl rfl rfl rfl ?_
  refine x_iload (pc' := 499) rfl rfl rfl ?_
  refine x_iconst (pc' := 500) rfl rfl ?_
  refine x_iadd (pc' := 501) (z := io (i + 3)) rfl rfl (io_add i 3) ?_
  refine x_iald (pc' := 502) (N := L) (x := xs (i + 3)) rfl rfl rfl (HN l0) (io_in (p := i + 3) (N := L) (by omega) (by omega)) (Eq.trans (congrArg (sA t 29 0) (nn_io (p := i + 3) (by omega))) (HA l0 _)) ?_
  refine x_cs (ls0 := [_, _, _, _, sJk]) (rest := []) rfl rfl rfl rfl ?_
  refine wr_263 (r := (sp88 M n (xs (i + 1)) (xs (i + 2)) (xs (i + 3)))) (w := 0) j1 hd.2.2.1 (fun Q' h => C88 hd.1 h) (fun t1 T1 L1 W1 l1 z1 => ?_)
  refine sK_i (pc' := 505) rfl ?_
  refine x_istore (pc' := 507) (ls' := [_, _, _, _, _, _, _]) rfl rfl rfl rfl ?_
  have hV : Vr t1 M n := ⟨l1.2.2.trans hd.2.1, W1.2.1.1, hd.1.2.2.1⟩
  refine x_aload_n (pc' := 508) rfl rfl rfl rfl rfl ?_
  refine x_aload_n (pc' := 509) rfl rfl rfl rfl rfl ?_
  refine x_iload (pc' := 511) rfl rfl rfl ?_
  refine x_iconst (pc' := 512) rfl rfl ?_
  refine x_iadd (pc' := 513) (z := io (i + 1)) rfl rfl (io_add i 1) ?_
  refine x_iald (pc' := 514) (N := L) (x := xs (i + 1)) rfl rfl rfl (HN l1) (io_in (p := i + 1) (N := L) (by omega) (by omega)) (Eq.trans (congrArg (sA t1 29 0) (nn_io (p := i + 1) (by omega))) (HA l1 _)) ?_
  refine x_aload_n (pc' := 515) rfl rfl rfl rfl rfl ?_
  refine x_iload (pc' := 517) rfl rfl rfl ?_
  refine x_iconst (pc' := 518) rfl rfl ?_
  refine x_iadd (pc' := 519) (z := io (i + 2)) rfl rfl (io_add i 2) ?_
  refine x_iald (pc' := 520) (N := L) (x := xs (i + 2)) rfl rfl rfl (HN l1) (io_in (p := i + 2) (N := L) (by omega) (by omega)) (Eq.trans (congrArg (sA t1 29 0) (nn_io (p := i + 2) (by omega))) (HA l1 _)) ?_
  refine x_aload_n (pc' := 521) rfl rfl rfl rfl rfl ?_
  refine x_iload (pc' := 523) rfl rfl rfl ?_
  refine x_iconst (pc' := 524) rfl rfl ?_
  refine x_iadd (pc' := 525) (z := io (i + 3)) rfl rfl (io_add i 3) ?_
  refine x_iald (pc' := 526) (N := L) (x := xs (i + 3)) rfl rfl rfl (HN l1) (io_in (p := i + 3) (N := L) (by omega) (by omega)) (Eq.trans (congrArg (sA t1 29 0) (nn_io (p := i + 3) (by omega))) (HA l1 _)) ?_
  refine x_cv (ls0 := [_, _, _, _]) (rest := []) rfl rfl rfl rfl rfl ?_
  refine R194 hV (fun t2 h2 c2 => ?_)
  refine sK_v (pc' := 529) rfl ?_
  have W2 : Wc t2 (sp88 M n (xs (i + 1)) (xs (i + 2)) (xs (i + 3))).2.2.1 (sp88 M n (xs (i + 1)) (xs (i + 2)) (xs (i + 3))).2.2.2 T1 L1 (A + 2) (B + 12) := W_cp c2 W1
  have HN2 : sN t2 29 0 = L := (congrFun (congrFun (cpN c2) 29) 0).trans (HN l1)
  have HA2 : ∀ p, sA t2 29 0 p = xs p := fun p => (cpA c2 rfl).trans (HA l1 p)
  have HD2 := (⟨W2, h2, Zr_cp c2 z1, HA2, HN2⟩ : Hd t2 (sp88 M n (xs (i + 1)) (xs (i + 2)) (xs (i + 3))).2.2.1 (sp88 M n (xs (i + 1)) (xs (i + 2)) (xs (i + 3))).2.2.2 T1 L1 (A + 2) (B + 12) xs L)
  have q2 := fun y5 y6 => q t2 T1 L1 y5 y6 HD2 hr
  have hc2 : Cn t2 := W2.2.1.1
  clear q HD2 hr W2 W1
  generalize (sp88 M n (xs (i + 1)) (xs (i + 2)) (xs (i + 3))) = r at *
  have fin : X 297 2938 [.inr (.inr (29, (some 0))), .inr (.inr (11, (some 0))), .inr (.inr (12, (some 0))), .inr (.inr (23, (some 0))), .inl (io i), .inl (io r.1), y1] [] t2 Q := by
    refine x_iinc (pc' := 2941) (y := io (i + 7)) (ls' := [_, _, _, _, _, _, _]) rfl rfl rfl (io_add i 7) rfl ?_
    refine x_goto (pc' := 23) rfl rfl ?_
    exact q2 _ _
  refine x_aload_n (pc' := 530) rfl rfl rfl rfl rfl ?_
  refine x_cv (ls0 := [_]) (rest := []) rfl rfl rfl rfl rfl ?_
  refine x_aload_n (pc' := 1) rfl rfl rfl rfl rfl ?_
  refine x_gI (pc' := 4) (x := io r.1) rfl rfl rfl ((gI h2 rfl).trans j2) ?_
  refine x_reti rfl rfl ?_
  refine sK_i (pc' := 533) rfl ?_
  refine x_iload (pc' := 535) rfl rfl rfl ?_
  refine x_icmp (a' := 540) (pc' := 538) (z := true) rfl rfl rfl (show decide (io r.1 = io r.1) = true from decide_eq_true rfl) (fun _ => ?_) (fun h => by cases h)
  refine x_goto (pc' := 2938) rfl rfl ?_
  exact fin
theorem lc_5 (hd : Hd t M n T Ls A B xs L) (hv : Hv M n e) (he : e ≤ 599) (hi : i + 7 ≤ L) (hL : L ≤ 3584) (hk : ((xs i) &&& 63) = 5)
    (q : ∀ t' T' Ls' (y5 y6 : sV), Hd t' (sp89 M n (xs (i + 1)) (xs (i + 2))).2.2.1 (sp89 M n (xs (i + 1)) (xs (i + 2))).2.2.2 T' Ls' (A + 2) (B + 12) xs L → Hv (sp89 M n (xs (i + 1)) (xs (i + 2))).2.2.1 (sp89 M n (xs (i + 1)) (xs (i + 2))).2.2.2 (e + 1) → X 297 23 [.inr (.inr (29, (some 0))), .inr (.inr (11, (some 0))), .inr (.inr (12, (some 0))), .inr (.inr (23, (some 0))), .inl (io (i + 7)), y5, y6] [] t' Q) :
    X 297 23 [.inr (.inr (29, (some 0))), .inr (.inr (11, (some 0))), .inr (.inr (12, (some 0))), .inr (.inr (23, (some 0))), .inl (io i), y0, y1] [] t Q := by
  have hTT := Hv_T hv
  have hTN : tN M = T := W_tN hd.1
  rw [hTN] at hTT
  have hI : mI M 801 = io T := hTT.2.2
  have hT4 : T < 4096 := by omega
  have hP : Pv M := Hv_Pv hv (by omega)
  obtain ⟨j1, j2⟩ : (sp89 M n (xs (i + 1)) (xs (i + 2))).1 ≤ 3 ∧ mI (sp89 M n (xs (i + 1)) (xs (i + 2))).2.2.1 768 = io (sp89 M n (xs (i + 1)) (xs (i + 2))).1 := J89
  have hr : Hv (sp89 M n (xs (i + 1)) (xs (i + 2))).2.2.1 (sp89 M n (xs (i + 1)) (xs (i + 2))).2.2.2 (e + 1) := Hv_e (H89 hv)
  have HN : ∀ {t1 : sT}, lw t1 t → sN t1 29 0 = L := fun h => (congrFun h.2.1 0).trans hd.2.2.2.2
  have HA : ∀ {t1 : sT}, lw t1 t → ∀ p, sA t1 29 0 p = xs p := fun h p => (congrFun (congrFun h.1 0) p).trans (hd.2.2.2.1 p)
  have l0 : lw t t := ⟨rfl, rfl, rfl⟩
  refine hd_40 hd hi hL ?_
  refine x_switch (pc' := 543) rfl (by rw [hk]; decide) ?_
  refine x_aload_n (pc' := 544) rfl rfl rfl rfl rfl ?_
  refine x_aload_n (pc' := 545) rfl rfl rfl rfl rfl ?_
  refine x_iload (pc' := 547) rfl rfl rfl ?_
  refine x_iconst (pc' := 548) rfl rfl ?_
  refine x_iadd (pc' := 549) (z := io (i + 1)) rfl rfl (io_add i 1) ?_
  refine x_iald (pc' := 550) (N := L) (x := xs (i + 1)) rfl rfl rfl (HN l0) (io_in (p := i + 1) (N := L) (by omega) (by omega)) (Eq.trans (congrArg (sA t 29 0) (nn_io (p := i + 1) (by omega))) (HA l0 _)) ?_
  refine x_aload_n (pc' := 551) rfl rfl rfl rfl rfl ?_
  refine x_iload (pc' := 553) rfl rfl rfl ?_
  refine x_iconst (pc' := 554) rfl rfl ?_
  refine x_iadd (pc' := 555) (z := io (i + 2)) rfl rfl (io_add i 2) ?_
  refine x_iald (pc' := 556) (N := L) (x := xs (i + 2)) rfl rfl rfl (HN l0) (io_in (p := i + 2) (N := L) (by omega) (by omega)) (Eq.trans (congrArg (sA t 29 0) (nn_io (p := i + 2) (by omega))) (HA l0 _)) ?_
  refine x_aload_n (pc' := 557) rfl rfl rfl rfl rfl ?_
  refine x_cs (ls0 := [_, _, _, _, sJk]) (rest := []) rfl rfl rfl rfl ?_
  refine wr_264 (r := (sp89 M n (xs (i + 1)) (xs (i + 2)))) (w := 0) j1 hd.2.2.1 (fun Q' h => C89 hd.2.2.1 hd.1 hv.1 hP h) (fun t1 T1 L1 W1 l1 z1 o1 => ?_)
  refine sK_i (pc' := 560) rfl ?_
  refine x_istore (pc' := 562) (ls' := [_, _, _, _, _, _, _]) rfl rfl rfl rfl ?_
  have hV : Vr t1 M n := ⟨l1.2.2.trans hd.2.1, W1.2.1.1, hd.1.2.2.1⟩
  refine x_aload_n (pc' := 563) rfl rfl rfl rfl rfl ?_
  refine x_aload_n (pc' := 564) rfl rfl rfl rfl rfl ?_
  refine x_iload (pc' := 566) rfl rfl rfl ?_
  refine x_iconst (pc' := 567) rfl rfl ?_
  refine x_iadd (pc' := 568) (z := io (i + 1)) rfl rfl (io_add i 1) ?_
  refine x_iald (pc' := 569) (N := L) (x := xs (i + 1)) rfl rfl rfl (HN l1) (io_in (p := i + 1) (N := L) (by omega) (by omega)) (Eq.trans (congrArg (sA t1 29 0) (nn_io (p := i + 1) (by omega))) (HA l1 _)) ?_
  refine x_aload_n (pc' := 570) rfl rfl rfl rfl rfl ?_
  refine x_iload (pc' := 572) rfl rfl rfl ?_
  refine x_iconst (pc' := 573) rfl rfl ?_
  refine x_iadd (pc' := 574) (z := io (i + 2)) rfl rfl (io_add i 2) ?_
  refine x_iald (pc' := 575) (N := L) (x := xs (i + 2)) rfl rfl rfl (HN l1) (io_in (p := i + 2) (N := L) (by omega) (by omega)) (Eq.trans (congrArg (sA t1 29 0) (nn_io (p := i + 2) (by omega))) (HA l1 _)) ?_
  refine x_cv (ls0 := [_, _, _, sJk, sJk, sJk]) (rest := []) rfl rfl rfl rfl rfl ?_
  refine R195 hV (fun t2 h2 c2 => ?_)
  refine sK_i (pc' := 578) rfl ?_
  refine x_istore (pc' := 580) (ls' := [_, _, _, _, _, _, _]) rfl rfl rfl rfl ?_
  have W2 : Wc t2 (sp89 M n (xs (i + 1)) (xs (i + 2))).2.2.1 (sp89 M n (xs (i + 1)) (xs (i + 2))).2.2.2 T1 L1 (A + 2) (B + 12) := W_cp c2 W1
  have HN2 : sN t2 29 0 = L := (congrFun (congrFun (cpN c2) 29) 0).trans (HN l1)
  have HA2 : ∀ p, sA t2 29 0 p = xs p := fun p => (cpA c2 rfl).trans (HA l1 p)
  have HD2 := (⟨W2, h2, Zr_cp c2 z1, HA2, HN2⟩ : Hd t2 (sp89 M n (xs (i + 1)) (xs (i + 2))).2.2.1 (sp89 M n (xs (i + 1)) (xs (i + 2))).2.2.2 T1 L1 (A + 2) (B + 12) xs L)
  have q2 := fun y5 y6 => q t2 T1 L1 y5 y6 HD2 hr
  have hout : (sp89 M n (xs (i + 1)) (xs (i + 2))).1 = 0 → sL t2 23 0 0 = (sp89 M n (xs (i + 1)) (xs (i + 2))).2.1.toInt64 := fun h => (congrFun (congrFun (congrFun (cpL c2) 23) 0) 0).trans (o1 h)
  have hc2 : Cn t2 := W2.2.1.1
  clear q HD2 hr W2 W1 o1
  generalize (sp89 M n (xs (i + 1)) (xs (i + 2))) = r at *
  have fin : X 297 2938 [.inr (.inr (29, (some 0))), .inr (.inr (11, (some 0))), .inr (.inr (12, (some 0))), .inr (.inr (23, (some 0))), .inl (io i), .inl (io r.1), .inl r.2.1] [] t2 Q := by
    refine x_iinc (pc' := 2941) (y := io (i + 7)) (ls' := [_, _, _, _, _, _, _]) rfl rfl rfl (io_add i 7) rfl ?_
    refine x_goto (pc' := 23) rfl rfl ?_
    exact q2 _ _
  refine x_aload_n (pc' := 581) rfl rfl rfl rfl rfl ?_
  refine x_cv (ls0 := [_]) (rest := []) rfl rfl rfl rfl rfl ?_
  refine x_aload_n (pc' := 1) rfl rfl rfl rfl rfl ?_
  refine x_gI (pc' := 4) (x := io r.1) rfl rfl rfl ((gI h2 rfl).trans j2) ?_
  refine x_reti rfl rfl ?_
  refine sK_i (pc' := 584) rfl ?_
  refine x_iload (pc' := 586) rfl rfl rfl ?_
  refine x_icmp (a' := 591) (pc' := 589) (z := true) rfl rfl rfl (show decide (io r.1 = io r.1) = true from decide_eq_true rfl) (fun _ => ?_) (fun h => by cases h)
  refine x_iload (pc' := 593) rfl rfl rfl ?_
  have gof : X 297 608 [.inr (.inr (29, (some 0))), .inr (.inr (11, (some 0))), .inr (.inr (12, (some 0))), .inr (.inr (23, (some 0))), .inl (io i), .inl (io r.1), .inl r.2.1] [] t2 Q := by
    refine x_goto (pc' := 2938) rfl rfl ?_
    exact fin
  by_cases h0 : r.1 = 0
  · refine x_if (a' := 608) (pc' := 596) (z := false) rfl rfl rfl (by rw [h0]; rfl) (fun h => by cases h) (fun _ => ?_)
    refine x_aload_n (pc' := 597) rfl rfl rfl rfl rfl ?_
    refine x_iconst (pc' := 598) rfl rfl ?_
    refine x_lald (pc' := 599) (N := 1) (x := r.2.1.toInt64) rfl rfl (kN_23_0 hc2) (by decide) (hout h0) ?_
    refine x_iload (pc' := 601) rfl rfl rfl ?_
    refine x_i2l (pc' := 602) rfl rfl rfl ?_
    refine x_lcmp (pc' := 603) (z := 0) rfl rfl (sLcmp_s _) ?_
    refine x_if (a' := 608) (pc' := 606) (z := true) rfl rfl rfl (by decide) (fun _ => gof) (fun h => by cases h)
  · refine x_if (a' := 608) (pc' := 596) (z := true) rfl rfl rfl ((ic_ne (p := r.1) (q := 0) (by omega) (by decide)).trans (decide_eq_true h0)) (fun _ => gof) (fun h => by cases h)
theorem lc_6 (hd : Hd t M n T Ls A B xs L) (hv : Hv M n e) (he : e ≤ 599) (hi : i + 7 ≤ L) (hL : L ≤ 3584) (hk : ((xs i) &&& 63) = 6)
    (q : ∀ t' T' Ls' (y5 y6 : sV), Hd t' (sp90 M n (xs (i + 1)) (xs (i + 2))).2.2.1 (sp90 M n (xs (i + 1)) (xs (i + 2))).2.2.2 T' Ls' (A + 2) (B + 12) xs L → Hv (sp90 M n (xs (i + 1)) (xs (i + 2))).2.2.1 (sp90 M n (xs (i + 1)) (xs (i + 2))).2.2.2 (e + 1) → X 297 23 [.inr (.inr (29, (some 0))), .inr (.inr (11, (some 0))), .inr (.inr (12, (some 0))), .inr (.inr (23, (some 0))), .inl (io (i + 7)), y5, y6] [] t' Q) :
    X 297 23 [.inr (.inr (29, (some 0))), .inr (.inr (11, (some 0))), .inr (.inr (12, (some 0))), .inr (.inr (23, (some 0))), .inl (io i), y0, y1] [] t Q := by
  have hTT := Hv_T hv
  have hTN : tN M = T := W_tN hd.1
  rw [hTN] at hTT
  have hI : mI M 801 = io T := hTT.2.2
  have hT4 : T < 4096 := by omega
  obtain ⟨j1, j2⟩ : (sp90 M n (xs (i + 1)) (xs (i + 2))).1 ≤ 3 ∧ mI (sp90 M n (xs (i + 1)) (xs (i + 2))).2.2.1 768 = io (sp90 M n (xs (i + 1)) (xs (i + 2))).1 := J90
  have hr : Hv (sp90 M n (xs (i + 1)) (xs (i + 2))).2.2.1 (sp90 M n (xs (i + 1)) (xs (i + 2))).2.2.2 (e + 1) := Hv_e (H90 hv)
  have HN : ∀ {t1 : sT}, lw t1 t → sN t1 29 0 = L := fun h => (congrFun h.2.1 0).trans hd.2.2.2.2
  have HA : ∀ {t1 : sT}, lw t1 t → ∀ p, sA t1 29 0 p = xs p := fun h p => (congrFun (congrFun h.1 0) p).trans (hd.2.2.2.1 p)
  have l0 : lw t t := ⟨rfl, rfl, rfl⟩
  refine hd_40 hd hi hL ?_
  refine x_switch (pc' := 611) rfl (by rw [hk]; decide) ?_
  refine x_aload_n (pc' := 612) rfl rfl rfl rfl rfl ?_
  refine x_aload_n (pc' := 613) rfl rfl rfl rfl rfl ?_
  refine x_iload (pc' := 615) rfl rfl rfl ?_
  refine x_iconst (pc' := 616) rfl rfl ?_
  refine x_iadd (pc' := 617) (z := io (i + 1)) rfl rfl (io_add i 1) ?_
  refine x_iald (pc' := 618) (N := L) (x := xs (i + 1)) rfl rfl rfl (HN l0) (io_in (p := i + 1) (N := L) (by omega) (by omega)) (Eq.trans (congrArg (sA t 29 0) (nn_io (p := i + 1) (by omega))) (HA l0 _)) ?_
  refine x_aload_n (pc' := 619) rfl rfl rfl rfl rfl ?_
  refine x_iload (pc' := 621) rfl rfl rfl ?_
  refine x_iconst (pc' := 622) rfl rfl ?_
  refine x_iadd (pc' := 623) (z := io (i + 2)) rfl rfl (io_add i 2) ?_
  refine x_iald (pc' := 624) (N := L) (x := xs (i + 2)) rfl rfl rfl (HN l0) (io_in (p := i + 2) (N := L) (by omega) (by omega)) (Eq.trans (congrArg (sA t 29 0) (nn_io (p := i + 2) (by omega))) (HA l0 _)) ?_
  refine x_aload_n (pc' := 625) rfl rfl rfl rfl rfl ?_
  refine x_cs (ls0 := [_, _, _, _, sJk]) (rest := []) rfl rfl rfl rfl ?_
  refine wr_265 (r := (sp90 M n (xs (i + 1)) (xs (i + 2)))) (w := 0) j1 hd.2.2.1 (fun Q' h => C90 hd.1 h) (fun t1 T1 L1 W1 l1 z1 o1 => ?_)
  refine sK_i (pc' := 628) rfl ?_
  refine x_istore (pc' := 630) (ls' := [_, _, _, _, _, _, _]) rfl rfl rfl rfl ?_
  have hV : Vr t1 M n := ⟨l1.2.2.trans hd.2.1, W1.2.1.1, hd.1.2.2.1⟩
  refine x_aload_n (pc' := 631) rfl rfl rfl rfl rfl ?_
  refine x_aload_n (pc' := 632) rfl rfl rfl rfl rfl ?_
  refine x_iload (pc' := 634) rfl rfl rfl ?_
  refine x_iconst (pc' := 635) rfl rfl ?_
  refine x_iadd (pc' := 636) (z := io (i + 1)) rfl rfl (io_add i 1) ?_
  refine x_iald (pc' := 637) (N := L) (x := xs (i + 1)) rfl rfl rfl (HN l1) (io_in (p := i + 1) (N := L) (by omega) (by omega)) (Eq.trans (congrArg (sA t1 29 0) (nn_io (p := i + 1) (by omega))) (HA l1 _)) ?_
  refine x_aload_n (pc' := 638) rfl rfl rfl rfl rfl ?_
  refine x_iload (pc' := 640) rfl rfl rfl ?_
  refine x_iconst (pc' := 641) rfl rfl ?_
  refine x_iadd (pc' := 642) (z := io (i + 2)) rfl rfl (io_add i 2) ?_
  refine x_iald (pc' := 643) (N := L) (x := xs (i + 2)) rfl rfl rfl (HN l1) (io_in (p := i + 2) (N := L) (by omega) (by omega)) (Eq.trans (congrArg (sA t1 29 0) (nn_io (p := i + 2) (by omega))) (HA l1 _)) ?_
  refine x_cv (ls0 := [_, _, _, sJk, sJk]) (rest := []) rfl rfl rfl rfl rfl ?_
  refine R196 hV (fun t2 h2 c2 => ?_)
  refine sK_i (pc' := 646) rfl ?_
  refine x_istore (pc' := 648) (ls' := [_, _, _, _, _, _, _]) rfl rfl rfl rfl ?_
  have W2 : Wc t2 (sp90 M n (xs (i + 1)) (xs (i + 2))).2.2.1 (sp90 M n (xs (i + 1)) (xs (i + 2))).2.2.2 T1 L1 (A + 2) (B + 12) := W_cp c2 W1
  have HN2 : sN t2 29 0 = L := (congrFun (congrFun (cpN c2) 29) 0).trans (HN l1)
  have HA2 : ∀ p, sA t2 29 0 p = xs p := fun p => (cpA c2 rfl).trans (HA l1 p)
  have HD2 := (⟨W2, h2, Zr_cp c2 z1, HA2, HN2⟩ : Hd t2 (sp90 M n (xs (i + 1)) (xs (i + 2))).2.2.1 (sp90 M n (xs (i + 1)) (xs (i + 2))).2.2.2 T1 L1 (A + 2) (B + 12) xs L)
  have q2 := fun y5 y6 => q t2 T1 L1 y5 y6 HD2 hr
  have hout : (sp90 M n (xs (i + 1)) (xs (i + 2))).1 = 0 → sL t2 23 0 0 = (sp90 M n (xs (i + 1)) (xs (i + 2))).2.1.toInt64 := fun h => (congrFun (congrFun (congrFun (cpL c2) 23) 0) 0).trans (o1 h)
  have hc2 : Cn t2 := W2.2.1.1
  clear q HD2 hr W2 W1 o1
  generalize (sp90 M n (xs (i + 1)) (xs (i + 2))) = r at *
  have fin : X 297 2938 [.inr (.inr (29, (some 0))), .inr (.inr (11, (some 0))), .inr (.inr (12, (some 0))), .inr (.inr (23, (some 0))), .inl (io i), .inl (io r.1), .inl r.2.1] [] t2 Q := by
    refine x_iinc (pc' := 2941) (y := io (i + 7)) (ls' := [_, _, _, _, _, _, _]) rfl rfl rfl (io_add i 7) rfl ?_
    refine x_goto (pc' := 23) rfl rfl ?_
    exact q2 _ _
  refine x_aload_n (pc' := 649) rfl rfl rfl rfl rfl ?_
  refine x_cv (ls0 := [_]) (rest := []) rfl rfl rfl rfl rfl ?_
  refine x_aload_n (pc' := 1) rfl rfl rfl rfl rfl ?_
  refine x_gI (pc' := 4) (x := io r.1) rfl rfl rfl ((gI h2 rfl).trans j2) ?_
  refine x_reti rfl rfl ?_
  refine sK_i (pc' := 652) rfl ?_
  refine x_iload (pc' := 654) rfl rfl rfl ?_
  refine x_icmp (a' := 659) (pc' := 657) (z := true) rfl rfl rfl (show decide (io r.1 = io r.1) = true from decide_eq_true rfl) (fun _ => ?_) (fun h => by cases h)
  refine x_iload (pc' := 661) rfl rfl rfl ?_
  have gof : X 297 676 [.inr (.inr (29, (some 0))), .inr (.inr (11, (some 0))), .inr (.inr (12, (some 0))), .inr (.inr (23, (some 0))), .inl (io i), .inl (io r.1), .inl r.2.1] [] t2 Q := by
    refine x_goto (pc' := 2938) rfl rfl ?_
    exact fin
  by_cases h0 : r.1 = 0
  · refine x_if (a' := 676) (pc' := 664) (z := false) rfl rfl rfl (by rw [h0]; rfl) (fun h => by cases h) (fun _ => ?_)
    refine x_aload_n (pc' := 665) rfl rfl rfl rfl rfl ?_
    refine x_iconst (pc' := 666) rfl rfl ?_
    refine x_lald (pc' := 667) (N := 1) (x := r.2.1.toInt64) rfl rfl (kN_23_0 hc2) (by decide) (hout h0) ?_
    refine x_iload (pc' := 669) rfl rfl rfl ?_
    refine x_i2l (pc' := 670) rfl rfl rfl ?_
    refine x_lcmp (pc' := 671) (z := 0) rfl rfl (sLcmp_s _) ?_
    refine x_if (a' := 676) (pc' := 674) (z := true) rfl rfl rfl (by decide) (fun _ => gof) (fun h => by cases h)
  · refine x_if (a' := 676) (pc' := 664) (z := true) rfl rfl rfl ((ic_ne (p := r.1) (q := 0) (by omega) (by decide)).trans (decide_eq_true h0)) (fun _ => gof) (fun h => by cases h)
theorem lc_7 (hd : Hd t M n T Ls A B xs L) (hv : Hv M n e) (he : e ≤ 599) (hi : i + 7 ≤ L) (hL : L ≤ 3584) (hk : ((xs i) &&& 63) = 7)
    (q : ∀ t' T' Ls' (y5 y6 : sV), Hd t' (sp91 M n (xs (i + 1))).2.2.1 (sp91 M n (xs (i + 1))).2.2.2 T' Ls' (A + 2) (B + 12) xs L → Hv (sp91 M n (xs (i + 1))).2.2.1 (sp91 M n (xs (i + 1))).2.2.2 (e + 1) → X 297 23 [.inr (.inr (29, (some 0))), .inr (.inr (11, (some 0))), .inr (.inr (12, (some 0))), .inr (.inr (23, (some 0))), .inl (io (i + 7)), y5, y6] [] t' Q) :
    X 297 23 [.inr (.inr (29, (some 0))), .inr (.inr (11, (some 0))), .inr (.inr (12, (some 0))), .inr (.inr (23, (some 0))), .inl (io i), y0, y1] [] t Q := by
  have hTT := Hv_T hv
  have hTN : tN M = T := W_tN hd.1
  rw [hTN] at hTT
  have hI : mI M 801 = io T := hTT.2.2
  have hT4 : T < 4096 := by omega
  obtain ⟨j1, j2⟩ : (sp91 M n (xs (i + 1))).1 ≤ 1 ∧ mI (sp91 M n (xs (i + 1))).2.2.1 768 = io (sp91 M n (xs (i + 1))).1 := J91
  have hr : Hv (sp91 M n (xs (i + 1))).2.2.1 (sp91 M n (xs (i + 1))).2.2.2 (e + 1) := Hv_e (H91 hv)
  have HN : ∀ {t1 : sT}, lw t1 t → sN t1 29 0 = L := fun h => (congrFun h.2.1 0).trans hd.2.2.2.2
  have HA : ∀ {t1 : sT}, lw t1 t → ∀ p, sA t1 29 0 p = xs p := fun h p => (congrFun (congrFun h.1 0) p).trans (hd.2.2.2.1 p)
  have l0 : lw t t := ⟨rfl, rfl, rfl⟩
  refine hd_40 hd hi hL ?_
  refine x_switch (pc' := 679) rfl (by rw [hk]; decide) ?_
  refine x_aload_n (pc' := 680) rfl rfl rfl rfl rfl ?_
  refine x_aload_n (pc' := 681) rfl rfl rfl rfl rfl ?_
  refine x_iload (pc' := 683) rfl rfl rfl ?_
  refine x_iconst (pc' := 684) rfl rfl ?_
  refine x_iadd (pc' := 685) (z := io (i + 1)) rfl rfl (io_add i 1) ?_
  refine x_iald (pc' := 686) (N := L) (x := xs (i + 1)) rfl rfl rfl (HN l0) (io_in (p := i + 1) (N := L) (by omega) (by omega)) (Eq.trans (congrArg (sA t 29 0) (nn_io (p := i + 1) (by omega))) (HA l0 _)) ?_
  refine x_aload_n (pc' := 687) rfl rfl rfl rfl rfl ?_
  refine x_cs (ls0 := [_, _, _, sJk]) (rest := []) rfl rfl rfl rfl ?_
  refine wr_266 (r := (sp91 M n (xs (i + 1)))) (w := 0) j1 hd.2.2.1 (fun Q' h => C91 hd.1 h) (fun t1 T1 L1 W1 l1 z1 o1 => ?_)
  refine sK_i (pc' := 690) rfl ?_
  refine x_istore (pc' := 692) (ls' := [_, _, _, _, _, _, _]) rfl rfl rfl rfl ?_
  have hV : Vr t1 M n := ⟨l1.2.2.trans hd.2.1, W1.2.1.1, hd.1.2.2.1⟩
  refine x_aload_n (pc' := 693) rfl rfl rfl rfl rfl ?_
  refine x_aload_n (pc' := 694) rfl rfl rfl rfl rfl ?_
  refine x_iload (pc' := 696) rfl rfl rfl ?_
  refine x_iconst (pc' := 697) rfl rfl ?_
  refine x_iadd (pc' := 698) (z := io (i + 1)) rfl rfl (io_add i 1) ?_
  refine x_iald (pc' := 699) (N := L) (x := xs (i + 1)) rfl rfl rfl (HN l1) (io_in (p := i + 1) (N := L) (by omega) (by omega)) (Eq.trans (congrArg (sA t1 29 0) (nn_io (p := i + 1) (by omega))) (HA l1 _)) ?_
  refine x_cv (ls0 := [_, _, sJk]) (rest := []) rfl rfl rfl rfl rfl ?_
  refine R197 hV (fun t2 h2 c2 => ?_)
  refine sK_i (pc' := 702) rfl ?_
  refine x_istore (pc' := 704) (ls' := [_, _, _, _, _, _, _]) rfl rfl rfl rfl ?_
  have W2 : Wc t2 (sp91 M n (xs (i + 1))).2.2.1 (sp91 M n (xs (i + 1))).2.2.2 T1 L1 (A + 2) (B + 12) := W_cp c2 W1
  have HN2 : sN t2 29 0 = L := (congrFun (congrFun (cpN c2) 29) 0).trans (HN l1)
  have HA2 : ∀ p, sA t2 29 0 p = xs p := fun p => (cpA c2 rfl).trans (HA l1 p)
  have HD2 := (⟨W2, h2, Zr_cp c2 z1, HA2, HN2⟩ : Hd t2 (sp91 M n (xs (i + 1))).2.2.1 (sp91 M n (xs (i + 1))).2.2.2 T1 L1 (A + 2) (B + 12) xs L)
  have q2 := fun y5 y6 => q t2 T1 L1 y5 y6 HD2 hr
  have hout : (sp91 M n (xs (i + 1))).1 = 0 → sL t2 23 0 0 = (sp91 M n (xs (i + 1))).2.1.toInt64 := fun h => (congrFun (congrFun (congrFun (cpL c2) 23) 0) 0).trans (o1 h)
  have hc2 : Cn t2 := W2.2.1.1
  clear q HD2 hr W2 W1 o1
  generalize (sp91 M n (xs (i + 1))) = r at *
  have fin : X 297 2938 [.inr (.inr (29, (some 0))), .inr (.inr (11, (some 0))), .inr (.inr (12, (some 0))), .inr (.inr (23, (some 0))), .inl (io i), .inl (io r.1), .inl r.2.1] [] t2 Q := by
    refine x_iinc (pc' := 2941) (y := io (i + 7)) (ls' := [_, _, _, _, _, _, _]) rfl rfl rfl (io_add i 7) rfl ?_
    refine x_goto (pc' := 23) rfl rfl ?_
    exact q2 _ _
  refine x_aload_n (pc' := 705) rfl rfl rfl rfl rfl ?_
  refine x_cv (ls0 := [_]) (rest := []) rfl rfl rfl rfl rfl ?_
  refine x_aload_n (pc' := 1) rfl rfl rfl rfl rfl ?_
  refine x_gI (pc' := 4) (x := io r.1) rfl rfl rfl ((gI h2 rfl).trans j2) ?_
  refine x_reti rfl rfl ?_
  refine sK_i (pc' := 708) rfl ?_
  refine x_iload (pc' := 710) rfl rfl rfl ?_
  refine x_icmp (a' := 715) (pc' := 713) (z := true) rfl rfl rfl (show decide (io r.1 = io r.1) = true from decide_eq_true rfl) (fun _ => ?_) (fun h => by cases h)
  refine x_iload (pc' := 717) rfl rfl rfl ?_
  have gof : X 297 732 [.inr (.inr (29, (some 0))), .inr (.inr (11, (some 0))), .inr (.inr (12, (some 0))), .inr (.inr (23, (some 0))), .inl (io i), .inl (io r.1), .inl r.2.1] [] t2 Q := by
    refine x_goto (pc' := 2938) rfl rfl ?_
    exact fin
  by_cases h0 : r.1 = 0
  · refine x_if (a' := 732) (pc' := 720) (z := false) rfl rfl rfl (by rw [h0]; rfl) (fun h => by cases h) (fun _ => ?_)
    refine x_aload_n (pc' := 721) rfl rfl rfl rfl rfl ?_
    refine x_iconst (pc' := 722) rfl rfl ?_
    refine x_lald (pc' := 723) (N := 1) (x := r.2.1.toInt64) rfl rfl (kN_23_0 hc2) (by decide) (hout h0) ?_
    refine x_iload (pc' := 725) rfl rfl rfl ?_
    refine x_i2l (pc' := 726) rfl rfl rfl ?_
    refine x_lcmp (pc' := 727) (z := 0) rfl rfl (sLcmp_s _) ?_
    refine x_if (a' := 732) (pc' := 730) (z := true) rfl rfl rfl (by decide) (fun _ => gof) (fun h => by cases h)
  · refine x_if (a' := 732) (pc' := 720) (z := true) rfl rfl rfl ((ic_ne (p := r.1) (q := 0) (by omega) (by decide)).trans (decide_eq_true h0)) (fun _ => gof) (fun h => by cases h)
theorem lc_8 (hd : Hd t M n T Ls A B xs L) (hv : Hv M n e) (he : e ≤ 599) (hi : i + 7 ≤ L) (hL : L ≤ 3584) (hk : ((xs i) &&& 63) = 8)
    (q : ∀ t' T' Ls' (y5 y6 : sV), Hd t' (sp92 M n (xs (i + 1)) (xs (i + 2))).2.2.1 (sp92 M n (xs (i + 1)) (xs (i + 2))).2.2.2 T' Ls' (A + 2) (B + 12) xs L → Hv (sp92 M n (xs (i + 1)) (xs (i + 2))).2.2.1 (sp92 M n (xs (i + 1)) (xs (i + 2))).2.2.2 (e + 1) → X 297 23 [.inr (.inr (29, (some 0))), .inr (.inr (11, (some 0))), .inr (.inr (12, (some 0))), .inr (.inr (23, (some 0))), .inl (io (i + 7)), y5, y6] [] t' Q) :
    X 297 23 [.inr (.inr (29, (some 0))), .inr (.inr (11, (some 0))), .inr (.inr (12, (some 0))), .inr (.inr (23, (some 0))), .inl (io i), y0, y1] [] t Q := by
  have hTT := Hv_T hv
  have hTN : tN M = T := W_tN hd.1
  rw [hTN] at hTT
  have hI : mI M 801 = io T := hTT.2.2
  have hT4 : T < 4096 := by omega
  obtain ⟨j1, j2⟩ : (sp92 M n (xs (i + 1)) (xs (i + 2))).1 ≤ 2 ∧ mI (sp92 M n (xs (i + 1)) (xs (i + 2))).2.2.1 768 = io (sp92 M n (xs (i + 1)) (xs (i + 2))).1 := J92
  have hr : Hv (sp92 M n (xs (i + 1)) (xs (i + 2))).2.2.1 (sp92 M n (xs (i + 1)) (xs (i + 2))).2.2.2 (e + 1) := Hv_e (H92 hv)
  have HN : ∀ {t1 : sT}, lw t1 t → sN t1 29 0 = L := fun h => (congrFun h.2.1 0).trans hd.2.2.2.2
  have HA : ∀ {t1 : sT}, lw t1 t → ∀ p, sA t1 29 0 p = xs p := fun h p => (congrFun (congrFun h.1 0) p).trans (hd.2.2.2.1 p)
  have l0 : lw t t := ⟨rfl, rfl, rfl⟩
  refine hd_40 hd hi hL ?_
  refine x_switch (pc' := 735) rfl (by rw [hk]; decide) ?_
  refine x_aload_n (pc' := 736) rfl rfl rfl rfl rfl ?_
  refine x_aload_n (pc' := 737) rfl rfl rfl rfl rfl ?_
  refine x_iload (pc' := 739) rfl rfl rfl ?_
  refine x_iconst (pc' := 740) rfl rfl ?_
  refine x_iadd (pc' := 741) (z := io (i + 1)) rfl rfl (io_add i 1) ?_
  refine x_iald (pc' := 742) (N := L) (x := xs (i + 1)) rfl rfl rfl (HN l0) (io_in (p := i + 1) (N := L) (by omega) (by omega)) (Eq.trans (congrArg (sA t 29 0) (nn_io (p := i + 1) (by omega))) (HA l0 _)) ?_
  refine x_aload_n (pc' := 743) rfl rfl rfl rfl rfl ?_
  refine x_iload (pc' := 745) rfl rfl rfl ?_
  refine x_iconst (pc' := 746) rfl rfl ?_
  refine x_iadd (pc' := 747) (z := io (i + 2)) rfl rfl (io_add i 2) ?_
  refine x_iald (pc' := 748) (N := L) (x := xs (i + 2)) rfl rfl rfl (HN l0) (io_in (p := i + 2) (N := L) (by omega) (by omega)) (Eq.trans (congrArg (sA t 29 0) (nn_io (p := i + 2) (by omega))) (HA l0 _)) ?_
  refine x_aload_n (pc' := 749) rfl rfl rfl rfl rfl ?_
  refine x_cs (ls0 := [_, _, _, _, sJk]) (rest := []) rfl rfl rfl rfl ?_
  refine wr_267 (r := (sp92 M n (xs (i + 1)) (xs (i + 2)))) (w := 0) j1 hd.2.2.1 (fun Q' h => C92 hd.1 h) (fun t1 T1 L1 W1 l1 z1 o1 => ?_)
  refine sK_i (pc' := 752) rfl ?_
  refine x_istore (pc' := 754) (ls' := [_, _, _, _, _, _, _]) rfl rfl rfl rfl ?_
  have hV : Vr t1 M n := ⟨l1.2.2.trans hd.2.1, W1.2.1.1, hd.1.2.2.1⟩
  refine x_aload_n (pc' := 755) rfl rfl rfl rfl rfl ?_
  refine x_aload_n (pc' := 756) rfl rfl rfl rfl rfl ?_
  refine x_iload (pc' := 758) rfl rfl rfl ?_
  refine x_iconst (pc' := 759) rfl rfl ?_
  refine x_iadd (pc' := 760) (z := io (i + 1)) rfl rfl (io_add i 1) ?_
  refine x_iald (pc' := 761) (N := L) (x := xs (i + 1)) rfl rfl rfl (HN l1) (io_in (p := i + 1) (N := L) (by omega) (by omega)) (Eq.trans (congrArg (sA t1 29 0) (nn_io (p := i + 1) (by omega))) (HA l1 _)) ?_
  refine x_aload_n (pc' := 762) rfl rfl rfl rfl rfl ?_
  refine x_iload (pc' := 764) rfl rfl rfl ?_
  refine x_iconst (pc' := 765) rfl rfl ?_
  refine x_iadd (pc' := 766) (z := io (i + 2)) rfl rfl (io_add i 2) ?_
  refine x_iald (pc' := 767) (N := L) (x := xs (i + 2)) rfl rfl rfl (HN l1) (io_in (p := i + 2) (N := L) (by omega) (by omega)) (Eq.trans (congrArg (sA t1 29 0) (nn_io (p := i + 2) (by omega))) (HA l1 _)) ?_
  refine x_cv (ls0 := [_, _, _, sJk]) (rest := []) rfl rfl rfl rfl rfl ?_
  refine R198 hV (fun t2 h2 c2 => ?_)
  refine sK_i (pc' := 770) rfl ?_
  refine x_istore (pc' := 772) (ls' := [_, _, _, _, _, _, _]) rfl rfl rfl rfl ?_
  have W2 : Wc t2 (sp92 M n (xs (i + 1)) (xs (i + 2))).2.2.1 (sp92 M n (xs (i + 1)) (xs (i + 2))).2.2.2 T1 L1 (A + 2) (B + 12) := W_cp c2 W1
  have HN2 : sN t2 29 0 = L := (congrFun (congrFun (cpN c2) 29) 0).trans (HN l1)
  have HA2 : ∀ p, sA t2 29 0 p = xs p := fun p => (cpA c2 rfl).trans (HA l1 p)
  have HD2 := (⟨W2, h2, Zr_cp c2 z1, HA2, HN2⟩ : Hd t2 (sp92 M n (xs (i + 1)) (xs (i + 2))).2.2.1 (sp92 M n (xs (i + 1)) (xs (i + 2))).2.2.2 T1 L1 (A + 2) (B + 12) xs L)
  have q2 := fun y5 y6 => q t2 T1 L1 y5 y6 HD2 hr
  have hout : (sp92 M n (xs (i + 1)) (xs (i + 2))).1 = 0 → sL t2 23 0 0 = (sp92 M n (xs (i + 1)) (xs (i + 2))).2.1.toInt64 := fun h => (congrFun (congrFun (congrFun (cpL c2) 23) 0) 0).trans (o1 h)
  have hc2 : Cn t2 := W2.2.1.1
  clear q HD2 hr W2 W1 o1
  generalize (sp92 M n (xs (i + 1)) (xs (i + 2))) = r at *
  have fin : X 297 2938 [.inr (.inr (29, (some 0))), .inr (.inr (11, (some 0))), .inr (.inr (12, (some 0))), .inr (.inr (23, (some 0))), .inl (io i), .inl (io r.1), .inl r.2.1] [] t2 Q := by
    refine x_iinc (pc' := 2941) (y := io (i + 7)) (ls' := [_, _, _, _, _, _, _]) rfl rfl rfl (io_add i 7) rfl ?_
    refine x_goto (pc' := 23) rfl rfl ?_
    exact q2 _ _
  refine x_aload_n (pc' := 773) rfl rfl rfl rfl rfl ?_
  refine x_cv (ls0 := [_]) (rest := []) rfl rfl rfl rfl rfl ?_
  refine x_aload_n (pc' := 1) rfl rfl rfl rfl rfl ?_
  refine x_gI (pc' := 4) (x := io r.1) rfl rfl rfl ((gI h2 rfl).trans j2) ?_
  refine x_reti rfl rfl ?_
  refine sK_i (pc' := 776) rfl ?_
  refine x_iload (pc' := 778) rfl rfl rfl ?_
  refine x_icmp (a' := 783) (pc' := 781) (z := true) rfl rfl rfl (show decide (io r.1 = io r.1) = true from decide_eq_true rfl) (fun _ => ?_) (fun h => by cases h)
  refine x_iload (pc' := 785) rfl rfl rfl ?_
  have gof : X 297 800 [.inr (.inr (29, (some 0))), .inr (.inr (11, (some 0))), .inr (.inr (12, (some 0))), .inr (.inr (23, (some 0))), .inl (io i), .inl (io r.1), .inl r.2.1] [] t2 Q := by
    refine x_goto (pc' := 2938) rfl rfl ?_
    exact fin
  by_cases h0 : r.1 = 0
  · refine x_if (a' := 800) (pc' := 788) (z := false) rfl rfl rfl (by rw [h0]; rfl) (fun h => by cases h) (fun _ => ?_)
    refine x_aload_n (pc' := 789) rfl rfl rfl rfl rfl ?_
    refine x_iconst (pc' := 790) rfl rfl ?_
    refine x_lald (pc' := 791) (N := 1) (x := r.2.1.toInt64) rfl rfl (kN_23_0 hc2) (by decide) (hout h0) ?_
    refine x_iload (pc' := 793) rfl rfl rfl ?_
    refine x_i2l (pc' := 794) rfl rfl rfl ?_
    refine x_lcmp (pc' := 795) (z := 0) rfl rfl (sLcmp_s _) ?_
    refine x_if (a' := 800) (pc' := 798) (z := true) rfl rfl rfl (by decide) (fun _ => gof) (fun h => by cases h)
  · refine x_if (a' := 800) (pc' := 788) (z := true) rfl rfl rfl ((ic_ne (p := r.1) (q := 0) (by omega) (by decide)).trans (decide_eq_true h0)) (fun _ => gof) (fun h => by cases h)
theorem lc_9 (hd : Hd t M n T Ls A B xs L) (hv : Hv M n e) (he : e ≤ 599) (hi : i + 7 ≤ L) (hL : L ≤ 3584) (hk : ((xs i) &&& 63) = 9)
    (q : ∀ t' T' Ls' (y5 y6 : sV), Hd t' (sp93 M n (xs (i + 1)) (xs (i + 2)) (xs (i + 3))).2.2.1 (sp93 M n (xs (i + 1)) (xs (i + 2)) (xs (i + 3))).2.2.2 T' Ls' (A + 2) (B + 12) xs L → Hv (sp93 M n (xs (i + 1)) (xs (i + 2)) (xs (i + 3))).2.2.1 (sp93 M n (xs (i + 1)) (xs (i + 2)) (xs (i + 3))).2.2.2 (e + 1) → X 297 23 [.inr (.inr (29, (some 0))), .inr (.inr (11, (some 0))), .inr (.inr (12, (some 0))), .inr (.inr (23, (some 0))), .inl (io (i + 7)), y5, y6] [] t' Q) :
    X 297 23 [.inr (.inr (29, (some 0))), .inr (.inr (11, (some 0))), .inr (.inr (12, (some 0))), .inr (.inr (23, (some 0))), .inl (io i), y0, y1] [] t Q := by
  have hTT := Hv_T hv
  have hTN : tN M = T := W_tN hd.1
  rw [hTN] at hTT
  have hI : mI M 801 = io T := hTT.2.2
  have hT4 : T < 4096 := by omega
  obtain ⟨j1, j2⟩ : (sp93 M n (xs (i + 1)) (xs (i + 2)) (xs (i + 3))).1 ≤ 2 ∧ mI (sp93 M n (xs (i + 1)) (xs (i + 2)) (xs (i + 3))).2.2.1 768 = io (sp93 M n (xs (i + 1)) (xs (i + 2)) (xs (i + 3))).1 := J93
  have hr : Hv (sp93 M n (xs (i + 1)) (xs (i + 2)) (xs (i + 3))).2.2.1 (sp93 M n (xs (i + 1)) (xs (i + 2)) (xs (i + 3))).2.2.2 (e + 1) := Hv_e (H93 hv)
  have HN : ∀ {t1 : sT}, lw t1 t → sN t1 29 0 = L := fun h => (congrFun h.2.1 0).trans hd.2.2.2.2
  have HA : ∀ {t1 : sT}, lw t1 t → ∀ p, sA t1 29 0 p = xs p := fun h p => (congrFun (congrFun h.1 0) p).trans (hd.2.2.2.1 p)
  have l0 : lw t t := ⟨rfl, rfl, rfl⟩
  refine hd_40 hd hi hL ?_
  refine x_switch (pc' := 803) rfl (by rw [hk]; decide) ?_
  refine x_aload_n (pc' := 804) rfl rfl rfl rfl rfl ?_
  refine x_aload_n (pc' := 805) rfl rfl rfl rfl rfl ?_
  refine x_iload (pc' := 807) rfl rfl rfl ?_
  refine x_iconst (pc' := 808) rfl rfl ?_
  refine x_iadd (pc' := 809) (z := io (i + 1)) rfl rfl (io_add i 1) ?_
  refine x_iald (pc' := 810) (N := L) (x := xs (i + 1)) rfl rfl rfl (HN l0) (io_in (p := i + 1) (N := L) (by omega) (by omega)) (Eq.trans (congrArg (sA t 29 0) (nn_io (p := i + 1) (by omega))) (HA l0 _)) ?_
  refine x_aload_n (pc' := 811) rfl rfl rfl rfl rfl ?_
  refine x_iload (pc' := 813) rfl rfl rfl ?_
  refine x_iconst (pc' := 814) rfl rfl ?_
  refine x_iadd (pc' := 815) (z := io (i + 2)) rfl rfl (io_add i 2) ?_
  refine x_iald (pc' := 816) (N := L) (x := xs (i + 2)) rfl rfl rfl (HN l0) (io_in (p := i + 2) (N := L) (by omega) (by omega)) (Eq.trans (congrArg (sA t 29 0) (nn_io (p := i + 2) (by omega))) (HA l0 _)) ?_
  refine x_aload_n (pc' := 817) rfl rfl rfl rfl rfl ?_
  refine x_iload (pc' := 819) rfl rfl rfl ?_
  refine x_iconst (pc' := 820) rfl rfl ?_
  refine x_iadd (pc' := 821) (z := io (i + 3)) rfl rfl (io_add i 3) ?_
  refine x_iald (pc' := 822) (N := L) (x := xs (i + 3)) rfl rfl rfl (HN l0) (io_in (p := i + 3) (N := L) (by omega) (by omega)) (Eq.trans (congrArg (sA t 29 0) (nn_io (p := i + 3) (by omega))) (HA l0 _)) ?_
  refine x_aload_n (pc' := 823) rfl rfl rfl rfl rfl ?_
  refine x_cs (ls0 := [_, _, _, _, _, sJk]) (rest := []) rfl rfl rfl rfl ?_
  refine wr_268 (r := (sp93 M n (xs (i + 1)) (xs (i + 2)) (xs (i + 3)))) (w := 0) j1 hd.2.2.1 (fun Q' h => C93 hd.1 h) (fun t1 T1 L1 W1 l1 z1 o1 => ?_)
  refine sK_i (pc' := 826) rfl ?_
  refine x_istore (pc' := 828) (ls' := [_, _, _, _, _, _, _]) rfl rfl rfl rfl ?_
  have hV : Vr t1 M n := ⟨l1.2.2.trans hd.2.1, W1.2.1.1, hd.1.2.2.1⟩
  refine x_aload_n (pc' := 829) rfl rfl rfl rfl rfl ?_
  refine x_aload_n (pc' := 830) rfl rfl rfl rfl rfl ?_
  refine x_iload (pc' := 832) rfl rfl rfl ?_
  refine x_iconst (pc' := 833) rfl rfl ?_
  refine x_iadd (pc' := 834) (z := io (i + 1)) rfl rfl (io_add i 1) ?_
  refine x_iald (pc' := 835) (N := L) (x := xs (i + 1)) rfl rfl rfl (HN l1) (io_in (p := i + 1) (N := L) (by omega) (by omega)) (Eq.trans (congrArg (sA t1 29 0) (nn_io (p := i + 1) (by omega))) (HA l1 _)) ?_
  refine x_aload_n (pc' := 836) rfl rfl rfl rfl rfl ?_
  refine x_iload (pc' := 838) rfl rfl rfl ?_
  refine x_iconst (pc' := 839) rfl rfl ?_
  refine x_iadd (pc' := 840) (z := io (i + 2)) rfl rfl (io_add i 2) ?_
  refine x_iald (pc' := 841) (N := L) (x := xs (i + 2)) rfl rfl rfl (HN l1) (io_in (p := i + 2) (N := L) (by omega) (by omega)) (Eq.trans (congrArg (sA t1 29 0) (nn_io (p := i + 2) (by omega))) (HA l1 _)) ?_
  refine x_aload_n (pc' := 842) rfl rfl rfl rfl rfl ?_
  refine x_iload (pc' := 844) rfl rfl rfl ?_
  refine x_iconst (pc' := 845) rfl rfl ?_
  refine x_iadd (pc' := 846) (z := io (i + 3)) rfl rfl (io_add i 3) ?_
  refine x_iald (pc' := 847) (N := L) (x := xs (i + 3)) rfl rfl rfl (HN l1) (io_in (p := i + 3) (N := L) (by omega) (by omega)) (Eq.trans (congrArg (sA t1 29 0) (nn_io (p := i + 3) (by omega))) (HA l1 _)) ?_
  refine x_cv (ls0 := [_, _, _, _, sJk, sJk]) (rest := []) rfl rfl rfl rfl rfl ?_
  refine R199 hV (fun t2 h2 c2 => ?_)
  refine sK_i (pc' := 850) rfl ?_
  refine x_istore (pc' := 852) (ls' := [_, _, _, _, _, _, _]) rfl rfl rfl rfl ?_
  have W2 : Wc t2 (sp93 M n (xs (i + 1)) (xs (i + 2)) (xs (i + 3))).2.2.1 (sp93 M n (xs (i + 1)) (xs (i + 2)) (xs (i + 3))).2.2.2 T1 L1 (A + 2) (B + 12) := W_cp c2 W1
  have HN2 : sN t2 29 0 = L := (congrFun (congrFun (cpN c2) 29) 0).trans (HN l1)
  have HA2 : ∀ p, sA t2 29 0 p = xs p := fun p => (cpA c2 rfl).trans (HA l1 p)
  have HD2 := (⟨W2, h2, Zr_cp c2 z1, HA2, HN2⟩ : Hd t2 (sp93 M n (xs (i + 1)) (xs (i + 2)) (xs (i + 3))).2.2.1 (sp93 M n (xs (i + 1)) (xs (i + 2)) (xs (i + 3))).2.2.2 T1 L1 (A + 2) (B + 12) xs L)
  have q2 := fun y5 y6 => q t2 T1 L1 y5 y6 HD2 hr
  have hout : (sp93 M n (xs (i + 1)) (xs (i + 2)) (xs (i + 3))).1 = 0 → sL t2 23 0 0 = (sp93 M n (xs (i + 1)) (xs (i + 2)) (xs (i + 3))).2.1.toInt64 := fun h => (congrFun (congrFun (congrFun (cpL c2) 23) 0) 0).trans (o1 h)
  have hc2 : Cn t2 := W2.2.1.1
  clear q HD2 hr W2 W1 o1
  generalize (sp93 M n (xs (i + 1)) (xs (i + 2)) (xs (i + 3))) = r at *
  have fin : X 297 2938 [.inr (.inr (29, (some 0))), .inr (.inr (11, (some 0))), .inr (.inr (12, (some 0))), .inr (.inr (23, (some 0))), .inl (io i), .inl (io r.1), .inl r.2.1] [] t2 Q := by
    refine x_iinc (pc' := 2941) (y := io (i + 7)) (ls' := [_, _, _, _, _, _, _]) rfl rfl rfl (io_add i 7) rfl ?_
    refine x_goto (pc' := 23) rfl rfl ?_
    exact q2 _ _
  refine x_aload_n (pc' := 853) rfl rfl rfl rfl rfl ?_
  refine x_cv (ls0 := [_]) (rest := []) rfl rfl rfl rfl rfl ?_
  refine x_aload_n (pc' := 1) rfl rfl rfl rfl rfl ?_
  refine x_gI (pc' := 4) (x := io r.1) rfl rfl rfl ((gI h2 rfl).trans j2) ?_
  refine x_reti rfl rfl ?_
  refine sK_i (pc' := 856) rfl ?_
  refine x_iload (pc' := 858) rfl rfl rfl ?_
  refine x_icmp (a' := 863) (pc' := 861) (z := true) rfl rfl rfl (show decide (io r.1 = io r.1) = true from decide_eq_true rfl) (fun _ => ?_) (fun h => by cases h)
  refine x_iload (pc' := 865) rfl rfl rfl ?_
  have gof : X 297 880 [.inr (.inr (29, (some 0))), .inr (.inr (11, (some 0))), .inr (.inr (12, (some 0))), .inr (.inr (23, (some 0))), .inl (io i), .inl (io r.1), .inl r.2.1] [] t2 Q := by
    refine x_goto (pc' := 2938) rfl rfl ?_
    exact fin
  by_cases h0 : r.1 = 0
  · refine x_if (a' := 880) (pc' := 868) (z := false) rfl rfl rfl (by rw [h0]; rfl) (fun h => by cases h) (fun _ => ?_)
    refine x_aload_n (pc' := 869) rfl rfl rfl rfl rfl ?_
    refine x_iconst (pc' := 870) rfl rfl ?_
    refine x_lald (pc' := 871) (N := 1) (x := r.2.1.toInt64) rfl rfl (kN_23_0 hc2) (by decide) (hout h0) ?_
    refine x_iload (pc' := 873) rfl rfl rfl ?_
    refine x_i2l (pc' := 874) rfl rfl rfl ?_
    refine x_lcmp (pc' := 875) (z := 0) rfl rfl (sLcmp_s _) ?_
    refine x_if (a' := 880) (pc' := 878) (z := true) rfl rfl rfl (by decide) (fun _ => gof) (fun h => by cases h)
  · refine x_if (a' := 880) (pc' := 868) (z := true) rfl rfl rfl ((ic_ne (p := r.1) (q := 0) (by omega) (by decide)).trans (decide_eq_true h0)) (fun _ => gof) (fun h => by cases h)
theorem lc_10 (hd : Hd t M n T Ls A B xs L) (hv : Hv M n e) (he : e ≤ 599) (hi : i + 7 ≤ L) (hL : L ≤ 3584) (hk : ((xs i) &&& 63) = 10)
    (q : ∀ t' T' Ls' (y5 y6 : sV), Hd t' (sp94 M n (xs (i + 1)) (xs (i + 2)) (!(decide (xs (i + 3) = 0))) (xs (i + 4)) (xs (i + 5)) (xs (i + 6))).2.2.1 (sp94 M n (xs (i + 1)) (xs (i + 2)) (!(decide (xs (i + 3) = 0))) (xs (i + 4)) (xs (i + 5)) (xs (i + 6))).2.2.2 T' Ls' (A + 2) (B + 12) xs L → Hv (sp94 M n (xs (i + 1)) (xs (i + 2)) (!(decide (xs (i + 3) = 0))) (xs (i + 4)) (xs (i + 5)) (xs (i + 6))).2.2.1 (sp94 M n (xs (i + 1)) (xs (i + 2)) (!(decide (xs (i + 3) = 0))) (xs (i + 4)) (xs (i + 5)) (xs (i + 6))).2.2.2 (e + 1) → X 297 23 [.inr (.inr (29, (some 0))), .inr (.inr (11, (some 0))), .inr (.inr (12, (some 0))), .inr (.inr (23, (some 0))), .inl (io (i + 7)), y5, y6] [] t' Q) :
    X 297 23 [.inr (.inr (29, (some 0))), .inr (.inr (11, (some 0))), .inr (.inr (12, (some 0))), .inr (.inr (23, (some 0))), .inl (io i), y0, y1] [] t Q := by
  have hTT := Hv_T hv
  have hTN : tN M = T := W_tN hd.1
  rw [hTN] at hTT
  have hI : mI M 801 = io T := hTT.2.2
  have hT4 : T < 4096 := by omega
  have hP : Pv M := Hv_Pv hv (by omega)
  obtain ⟨j1, j2⟩ : (sp94 M n (xs (i + 1)) (xs (i + 2)) (!(decide (xs (i + 3) = 0))) (xs (i + 4)) (xs (i + 5)) (xs (i + 6))).1 ≤ 3 ∧ mI (sp94 M n (xs (i + 1)) (xs (i + 2)) (!(decide (xs (i + 3) = 0))) (xs (i + 4)) (xs (i + 5)) (xs (i + 6))).2.2.1 768 = io (sp94 M n (xs (i + 1)) (xs (i + 2)) (!(decide (xs (i + 3) = 0))) (xs (i + 4)) (xs (i + 5)) (xs (i + 6))).1 := J94
  have hr : Hv (sp94 M n (xs (i + 1)) (xs (i + 2)) (!(decide (xs (i + 3) = 0))) (xs (i + 4)) (xs (i + 5)) (xs (i + 6))).2.2.1 (sp94 M n (xs (i + 1)) (xs (i + 2)) (!(decide (xs (i + 3) = 0))) (xs (i + 4)) (xs (i + 5)) (xs (i + 6))).2.2.2 (e + 1) := Hv_e (H94 hv (by omega))
  have HN : ∀ {t1 : sT}, lw t1 t → sN t1 29 0 = L := fun h => (congrFun h.2.1 0).trans hd.2.2.2.2
  have HA : ∀ {t1 : sT}, lw t1 t → ∀ p, sA t1 29 0 p = xs p := fun h p => (congrFun (congrFun h.1 0) p).trans (hd.2.2.2.1 p)
  have l0 : lw t t := ⟨rfl, rfl, rfl⟩
  refine hd_40 hd hi hL ?_
  refine x_switch (pc' := 883) rfl (by rw [hk]; decide) ?_
  generalize hs : (!(decide (xs (i + 3) = 0))) = s at *
  refine x_aload_n (pc' := 884) rfl rfl rfl rfl rfl ?_
  refine x_aload_n (pc' := 885) rfl rfl rfl rfl rfl ?_
  refine x_iload (pc' := 887) rfl rfl rfl ?_
  refine x_iconst (pc' := 888) rfl rfl ?_
  refine x_iadd (pc' := 889) (z := io (i + 1)) rfl rfl (io_add i 1) ?_
  refine x_iald (pc' := 890) (N := L) (x := xs (i + 1)) rfl rfl rfl (HN l0) (io_in (p := i + 1) (N := L) (by omega) (by omega)) (Eq.trans (congrArg (sA t 29 0) (nn_io (p := i + 1) (by omega))) (HA l0 _)) ?_
  refine x_aload_n (pc' := 891) rfl rfl rfl rfl rfl ?_
  refine x_iload (pc' := 893) rfl rfl rfl ?_
  refine x_iconst (pc' := 894) rfl rfl ?_
  refine x_iadd (pc' := 895) (z := io (i + 2)) rfl rfl (io_add i 2) ?_
  refine x_iald (pc' := 896) (N := L) (x := xs (i + 2)) rfl rfl rfl (HN l0) (io_in (p := i + 2) (N := L) (by omega) (by omega)) (Eq.trans (congrArg (sA t 29 0) (nn_io (p := i + 2) (by omega))) (HA l0 _)) ?_
  refine x_aload_n (pc' := 897) rfl rfl rfl rfl rfl ?_
  refine x_iload (pc' := 899) rfl rfl rfl ?_
  refine x_iconst (pc' := 900) rfl rfl ?_
  refine x_iadd (pc' := 901) (z := io (i + 3)) rfl rfl (io_add i 3) ?_
  refine x_iald (pc' := 902) (N := L) (x := xs (i + 3)) rfl rfl rfl (HN l0) (io_in (p := i + 3) (N := L) (by omega) (by omega)) (Eq.trans (congrArg (sA t 29 0) (nn_io (p := i + 3) (by omega))) (HA l0 _)) ?_
  have hz909 : sCond .eq (xs (i + 3)) 0 = !s := by rw [← hs, Bool.not_not]; rfl
  have b909 : X 297 910 [.inr (.inr (29, (some 0))), .inr (.inr (11, (some 0))), .inr (.inr (12, (some 0))), .inr (.inr (23, (some 0))), .inl (io i), y0, y1] [.inl (bz s), .inl (xs (i + 2)), .inl (xs (i + 1)), .inr (.inr (11, (some 0)))] t Q := by
    refine x_aload_n (pc' := 911) rfl rfl rfl rfl rfl ?_
    refine x_iload (pc' := 913) rfl rfl rfl ?_
    refine x_iconst (pc' := 914) rfl rfl ?_
    refine x_iadd (pc' := 915) (z := io (i + 4)) rfl rfl (io_add i 4) ?_
    refine x_iald (pc' := 916) (N := L) (x := xs (i + 4)) rfl rfl rfl (HN l0) (io_in (p := i + 4) (N := L) (by omega) (by omega)) (Eq.trans (congrArg (sA t 29 0) (nn_io (p := i + 4) (by omega))) (HA l0 _)) ?_
    refine x_aload_n (pc' := 917) rfl rfl rfl rfl rfl ?_
    refine x_iload (pc' := 919) rfl rfl rfl ?_
    refine x_iconst (pc' := 920) rfl rfl ?_
    refine x_iadd (pc' := 921) (z := io (i + 5)) rfl rfl (io_add i 5) ?_
    refine x_iald (pc' := 922) (N := L) (x := xs (i + 5)) rfl rfl rfl (HN l0) (io_in (p := i + 5) (N := L) (by omega) (by omega)) (Eq.trans (congrArg (sA t 29 0) (nn_io (p := i + 5) (by omega))) (HA l0 _)) ?_
    refine x_aload_n (pc' := 923) rfl rfl rfl rfl rfl ?_
    refine x_iload (pc' := 925) rfl rfl rfl ?_
    refine x_bipush (pc' := 927) rfl rfl ?_
    refine x_iadd (pc' := 928) (z := io (i + 6)) rfl rfl (io_add i 6) ?_
    refine x_iald (pc' := 929) (N := L) (x := xs (i + 6)) rfl rfl rfl (HN l0) (io_in (p := i + 6) (N := L) (by omega) (by omega)) (Eq.trans (congrArg (sA t 29 0) (nn_io (p := i + 6) (by omega))) (HA l0 _)) ?_
    refine x_aload_n (pc' := 930) rfl rfl rfl rfl rfl ?_
    refine x_cs (ls0 := [_, _, _, _, _, _, _, _, sJk]) (rest := []) rfl rfl rfl rfl ?_
    refine wr_269 (r := (sp94 M n (xs (i + 1)) (xs (i + 2)) s (xs (i + 4)) (xs (i + 5)) (xs (i + 6)))) (w := 0) j1 hd.2.2.1 (fun Q' h => C94 hd.2.2.1 hd.1 hv.1 hP h) (fun t1 T1 L1 W1 l1 z1 o1 => ?_)
    refine sK_i (pc' := 933) rfl ?_
    refine x_istore (pc' := 935) (ls' := [_, _, _, _, _, _, _]) rfl rfl rfl rfl ?_
    have hV : Vr t1 M n := ⟨l1.2.2.trans hd.2.1, W1.2.1.1, hd.1.2.2.1⟩
    refine x_aload_n (pc' := 936) rfl rfl rfl rfl rfl ?_
    refine x_aload_n (pc' := 937) rfl rfl rfl rfl rfl ?_
    refine x_iload (pc' := 939) rfl rfl rfl ?_
    refine x_iconst (pc' := 940) rfl rfl ?_
    refine x_iadd (pc' := 941) (z := io (i + 1)) rfl rfl (io_add i 1) ?_
    refine x_iald (pc' := 942) (N := L) (x := xs (i + 1)) rfl rfl rfl (HN l1) (io_in (p := i + 1) (N := L) (by omega) (by omega)) (Eq.trans (congrArg (sA t1 29 0) (nn_io (p := i + 1) (by omega))) (HA l1 _)) ?_
    refine x_aload_n (pc' := 943) rfl rfl rfl rfl rfl ?_
    refine x_iload (pc' := 945) rfl rfl rfl ?_
    refine x_iconst (pc' := 946) rfl rfl ?_
    refine x_iadd (pc' := 947) (z := io (i + 2)) rfl rfl (io_add i 2) ?_
    refine x_iald (pc' := 948) (N := L) (x := xs (i + 2)) rfl rfl rfl (HN l1) (io_in (p := i + 2) (N := L) (by omega) (by omega)) (Eq.trans (congrArg (sA t1 29 0) (nn_io (p := i + 2) (by omega))) (HA l1 _)) ?_
    refine x_aload_n (pc' := 949) rfl rfl rfl rfl rfl ?_
    refine x_iload (pc' := 951) rfl rfl rfl ?_
    refine x_iconst (pc' := 952) rfl rfl ?_
    refine x_iadd (pc' := 953) (z := io (i + 3)) rfl rfl (io_add i 3) ?_
    refine x_iald (pc' := 954) (N := L) (x := xs (i + 3)) rfl rfl rfl (HN l1) (io_in (p := i + 3) (N := L) (by omega) (by omega)) (Eq.trans (congrArg (sA t1 29 0) (nn_io (p := i + 3) (by omega))) (HA l1 _)) ?_
    have hz961 : sCond .eq (xs (i + 3)) 0 = !s := by rw [← hs, Bool.not_not]; rfl
    have b961 : X 297 962 [.inr (.inr (29, (some 0))), .inr (.inr (11, (some 0))), .inr (.inr (12, (some 0))), .inr (.inr (23, (some 0))), .inl (io i), .inl (io (sp94 M n (xs (i + 1)) (xs (i + 2)) s (xs (i + 4)) (xs (i + 5)) (xs (i + 6))).1), y1] [.inl (bz s), .inl (xs (i + 2)), .inl (xs (i + 1)), .inr (.inr (12, (some 0)))] t1 Q := by
      refine x_aload_n (pc' := 963) rfl rfl rfl rfl rfl ?_
      refine x_iload (pc' := 965) rfl rfl rfl ?_
      refine x_iconst (pc' := 966) rfl rfl ?_
      refine x_iadd (pc' := 967) (z := io (i + 4)) rfl rfl (io_add i 4) ?_
      refine x_iald (pc' := 968) (N := L) (x := xs (i + 4)) rfl rfl rfl (HN l1) (io_in (p := i + 4) (N := L) (by omega) (by omega)) (Eq.trans (congrArg (sA t1 29 0) (nn_io (p := i + 4) (by omega))) (HA l1 _)) ?_
      refine x_aload_n (pc' := 969) rfl rfl rfl rfl rfl ?_
      refine x_iload (pc' := 971) rfl rfl rfl ?_
      refine x_iconst (pc' := 972) rfl rfl ?_
      refine x_iadd (pc' := 973) (z := io (i + 5)) rfl rfl (io_add i 5) ?_
      refine x_iald (pc' := 974) (N := L) (x := xs (i + 5)) rfl rfl rfl (HN l1) (io_in (p := i + 5) (N := L) (by omega) (by omega)) (Eq.trans (congrArg (sA t1 29 0) (nn_io (p := i + 5) (by omega))) (HA l1 _)) ?_
      refine x_aload_n (pc' := 975) rfl rfl rfl rfl rfl ?_
      refine x_iload (pc' := 977) rfl rfl rfl ?_
      refine x_bipush (pc' := 979) rfl rfl ?_
      refine x_iadd (pc' := 980) (z := io (i + 6)) rfl rfl (io_add i 6) ?_
      refine x_iald (pc' := 981) (N := L) (x := xs (i + 6)) rfl rfl rfl (HN l1) (io_in (p := i + 6) (N := L) (by omega) (by omega)) (Eq.trans (congrArg (sA t1 29 0) (nn_io (p := i + 6) (by omega))) (HA l1 _)) ?_
      refine x_cv (ls0 := [_, _, _, _, _, _, _, sJk, sJk]) (rest := []) rfl rfl rfl rfl rfl ?_
      refine R204 hV hv.1 hP (fun t2 h2 c2 => ?_)
      refine sK_i (pc' := 984) rfl ?_
      refine x_istore (pc' := 986) (ls' := [_, _, _, _, _, _, _]) rfl rfl rfl rfl ?_
      have W2 : Wc t2 (sp94 M n (xs (i + 1)) (xs (i + 2)) s (xs (i + 4)) (xs (i + 5)) (xs (i + 6))).2.2.1 (sp94 M n (xs (i + 1)) (xs (i + 2)) s (xs (i + 4)) (xs (i + 5)) (xs (i + 6))).2.2.2 T1 L1 (A + 2) (B + 12) := W_cp c2 W1
      have HN2 : sN t2 29 0 = L := (congrFun (congrFun (cpN c2) 29) 0).trans (HN l1)
      have HA2 : ∀ p, sA t2 29 0 p = xs p := fun p => (cpA c2 rfl).trans (HA l1 p)
      have HD2 := (⟨W2, h2, Zr_cp c2 z1, HA2, HN2⟩ : Hd t2 (sp94 M n (xs (i + 1)) (xs (i + 2)) s (xs (i + 4)) (xs (i + 5)) (xs (i + 6))).2.2.1 (sp94 M n (xs (i + 1)) (xs (i + 2)) s (xs (i + 4)) (xs (i + 5)) (xs (i + 6))).2.2.2 T1 L1 (A + 2) (B + 12) xs L)
      have q2 := fun y5 y6 => q t2 T1 L1 y5 y6 HD2 hr
      have hout : (sp94 M n (xs (i + 1)) (xs (i + 2)) s (xs (i + 4)) (xs (i + 5)) (xs (i + 6))).1 = 0 → sL t2 23 0 0 = (sp94 M n (xs (i + 1)) (xs (i + 2)) s (xs (i + 4)) (xs (i + 5)) (xs (i + 6))).2.1.toInt64 := fun h => (congrFun (congrFun (congrFun (cpL c2) 23) 0) 0).trans (o1 h)
      have hc2 : Cn t2 := W2.2.1.1
      clear q HD2 hr W2 W1 o1
      generalize (sp94 M n (xs (i + 1)) (xs (i + 2)) s (xs (i + 4)) (xs (i + 5)) (xs (i + 6))) = r at *
      have fin : X 297 2938 [.inr (.inr (29, (some 0))), .inr (.inr (11, (some 0))), .inr (.inr (12, (some 0))), .inr (.inr (23, (some 0))), .inl (io i), .inl (io r.1), .inl r.2.1] [] t2 Q := by
        refine x_iinc (pc' := 2941) (y := io (i + 7)) (ls' := [_, _, _, _, _, _, _]) rfl rfl rfl (io_add i 7) rfl ?_
        refine x_goto (pc' := 23) rfl rfl ?_
        exact q2 _ _
      refine x_aload_n (pc' := 987) rfl rfl rfl rfl rfl ?_
      refine x_cv (ls0 := [_]) (rest := []) rfl rfl rfl rfl rfl ?_
      refine x_aload_n (pc' := 1) rfl rfl rfl rfl rfl ?_
      refine x_gI (pc' := 4) (x := io r.1) rfl rfl rfl ((gI h2 rfl).trans j2) ?_
      refine x_reti rfl rfl ?_
      refine sK_i (pc' := 990) rfl ?_
      refine x_iload (pc' := 992) rfl rfl rfl ?_
      refine x_icmp (a' := 997) (pc' := 995) (z := true) rfl rfl rfl (show decide (io r.1 = io r.1) = true from decide_eq_true rfl) (fun _ => ?_) (fun h => by cases h)
      refine x_iload (pc' := 999) rfl rfl rfl ?_
      have gof : X 297 1014 [.inr (.inr (29, (some 0))), .inr (.inr (11, (some 0))), .inr (.inr (12, (some 0))), .inr (.inr (23, (some 0))), .inl (io i), .inl (io r.1), .inl r.2.1] [] t2 Q := by
        refine x_goto (pc' := 2938) rfl rfl ?_
        exact fin
      by_cases h0 : r.1 = 0
      · refine x_if (a' := 1014) (pc' := 1002) (z := false) rfl rfl rfl (by rw [h0]; rfl) (fun h => by cases h) (fun _ => ?_)
        refine x_aload_n (pc' := 1003) rfl rfl rfl rfl rfl ?_
        refine x_iconst (pc' := 1004) rfl rfl ?_
        refine x_lald (pc' := 1005) (N := 1) (x := r.2.1.toInt64) rfl rfl (kN_23_0 hc2) (by decide) (hout h0) ?_
        refine x_iload (pc' := 1007) rfl rfl rfl ?_
        refine x_i2l (pc' := 1008) rfl rfl rfl ?_
        refine x_lcmp (pc' := 1009) (z := 0) rfl rfl (sLcmp_s _) ?_
        refine x_if (a' := 1014) (pc' := 1012) (z := true) rfl rfl rfl (by decide) (fun _ => gof) (fun h => by cases h)
      · refine x_if (a' := 1014) (pc' := 1002) (z := true) rfl rfl rfl ((ic_ne (p := r.1) (q := 0) (by omega) (by decide)).trans (decide_eq_true h0)) (fun _ => gof) (fun h => by cases h)
    refine x_if (a' := 961) (pc' := 957) (z := !s) rfl rfl rfl hz961 (fun h => ?_) (fun h => ?_)
    · have es : s = false := by cases s; rfl; cases h
      subst es
      refine x_iconst (pc' := 962) rfl rfl ?_
      exact b961
    · have es : s = true := by cases s; cases h; rfl
      subst es
      refine x_iconst (pc' := 958) rfl rfl ?_
      refine x_goto (pc' := 962) rfl rfl ?_
      exact b961
  refine x_if (a' := 909) (pc' := 905) (z := !s) rfl rfl rfl hz909 (fun h => ?_) (fun h => ?_)
  · have es : s = false := by cases s; rfl; cases h
    subst es
    refine x_iconst (pc' := 910) rfl rfl ?_
    exact b909
  · have es : s = true := by cases s; cases h; rfl
    subst es
    refine x_iconst (pc' := 906) rfl rfl ?_
    refine x_goto (pc' := 910) rfl rfl ?_
    exact b909
theorem lc_11 (hd : Hd t M n T Ls A B xs L) (hv : Hv M n e) (he : e ≤ 599) (hi : i + 7 ≤ L) (hL : L ≤ 3584) (hk : ((xs i) &&& 63) = 11)
    (q : ∀ t' T' Ls' (y5 y6 : sV), Hd t' (sp95 M n (xs (i + 1)) (xs (i + 2)) (!(decide (xs (i + 3) = 0))) (xs (i + 4)) (xs (i + 5))).2.2.1 (sp95 M n (xs (i + 1)) (xs (i + 2)) (!(decide (xs (i + 3) = 0))) (xs (i + 4)) (xs (i + 5))).2.2.2 T' Ls' (A + 2) (B + 12) xs L → Hv (sp95 M n (xs (i + 1)) (xs (i + 2)) (!(decide (xs (i + 3) = 0))) (xs (i + 4)) (xs (i + 5))).2.2.1 (sp95 M n (xs (i + 1)) (xs (i + 2)) (!(decide (xs (i + 3) = 0))) (xs (i + 4)) (xs (i + 5))).2.2.2 (e + 1) → X 297 23 [.inr (.inr (29, (some 0))), .inr (.inr (11, (some 0))), .inr (.inr (12, (some 0))), .inr (.inr (23, (some 0))), .inl (io (i + 7)), y5, y6] [] t' Q) :
    X 297 23 [.inr (.inr (29, (some 0))), .inr (.inr (11, (some 0))), .inr (.inr (12, (some 0))), .inr (.inr (23, (some 0))), .inl (io i), y0, y1] [] t Q := by
  have hTT := Hv_T hv
  have hTN : tN M = T := W_tN hd.1
  rw [hTN] at hTT
  have hI : mI M 801 = io T := hTT.2.2
  have hT4 : T < 4096 := by omega
  have hP : Pv M := Hv_Pv hv (by omega)
  obtain ⟨j1, j2⟩ : (sp95 M n (xs (i + 1)) (xs (i + 2)) (!(decide (xs (i + 3) = 0))) (xs (i + 4)) (xs (i + 5))).1 ≤ 3 ∧ mI (sp95 M n (xs (i + 1)) (xs (i + 2)) (!(decide (xs (i + 3) = 0))) (xs (i + 4)) (xs (i + 5))).2.2.1 768 = io (sp95 M n (xs (i + 1)) (xs (i + 2)) (!(decide (xs (i + 3) = 0))) (xs (i + 4)) (xs (i + 5))).1 := J95
  have hr : Hv (sp95 M n (xs (i + 1)) (xs (i + 2)) (!(decide (xs (i + 3) = 0))) (xs (i + 4)) (xs (i + 5))).2.2.1 (sp95 M n (xs (i + 1)) (xs (i + 2)) (!(decide (xs (i + 3) = 0))) (xs (i + 4)) (xs (i + 5))).2.2.2 (e + 1) := Hv_e (H95 hv (by omega))
  have HN : ∀ {t1 : sT}, lw t1 t → sN t1 29 0 = L := fun h => (congrFun h.2.1 0).trans hd.2.2.2.2
  have HA : ∀ {t1 : sT}, lw t1 t → ∀ p, sA t1 29 0 p = xs p := fun h p => (congrFun (congrFun h.1 0) p).trans (hd.2.2.2.1 p)
  have l0 : lw t t := ⟨rfl, rfl, rfl⟩
  refine hd_40 hd hi hL ?_
  refine x_switch (pc' := 1017) rfl (by rw [hk]; decide) ?_
  generalize hs : (!(decide (xs (i + 3) = 0))) = s at *
  refine x_aload_n (pc' := 1018) rfl rfl rfl rfl rfl ?_
  refine x_aload_n (pc' := 1019) rfl rfl rfl rfl rfl ?_
  refine x_iload (pc' := 1021) rfl rfl rfl ?_
  refine x_iconst (pc' := 1022) rfl rfl ?_
  refine x_iadd (pc' := 1023) (z := io (i + 1)) rfl rfl (io_add i 1) ?_
  refine x_iald (pc' := 1024) (N := L) (x := xs (i + 1)) rfl rfl rfl (HN l0) (io_in (p := i + 1) (N := L) (by omega) (by omega)) (Eq.trans (congrArg (sA t 29 0) (nn_io (p := i + 1) (by omega))) (HA l0 _)) ?_
  refine x_aload_n (pc' := 1025) rfl rfl rfl rfl rfl ?_
  refine x_iload (pc' := 1027) rfl rfl rfl ?_
  refine x_iconst (pc' := 1028) rfl rfl ?_
  refine x_iadd (pc' := 1029) (z := io (i + 2)) rfl rfl (io_add i 2) ?_
  refine x_iald (pc' := 1030) (N := L) (x := xs (i + 2)) rfl rfl rfl (HN l0) (io_in (p := i + 2) (N := L) (by omega) (by omega)) (Eq.trans (congrArg (sA t 29 0) (nn_io (p := i + 2) (by omega))) (HA l0 _)) ?_
  refine x_aload_n (pc' := 1031) rfl rfl rfl rfl rfl ?_
  refine x_iload (pc' := 1033) rfl rfl rfl ?_
  refine x_iconst (pc' := 1034) rfl rfl ?_
  refine x_iadd (pc' := 1035) (z := io (i + 3)) rfl rfl (io_add i 3) ?_
  refine x_iald (pc' := 1036) (N := L) (x := xs (i + 3)) rfl rfl rfl (HN l0) (io_in (p := i + 3) (N := L) (by omega) (by omega)) (Eq.trans (congrArg (sA t 29 0) (nn_io (p := i + 3) (by omega))) (HA l0 _)) ?_
  have hz1043 : sCond .eq (xs (i + 3)) 0 = !s := by rw [← hs, Bool.not_not]; rfl
  have b1043 : X 297 1044 [.inr (.inr (29, (some 0))), .inr (.inr (11, (some 0))), .inr (.inr (12, (some 0))), .inr (.inr (23, (some 0))), .inl (io i), y0, y1] [.inl (bz s), .inl (xs (i + 2)), .inl (xs (i + 1)), .inr (.inr (11, (some 0)))] t Q := by
    refine x_aload_n (pc' := 1045) rfl rfl rfl rfl rfl ?_
    refine x_iload (pc' := 1047) rfl rfl rfl ?_
    refine x_iconst (pc' := 1048) rfl rfl ?_
    refine x_iadd (pc' := 1049) (z := io (i + 4)) rfl rfl (io_add i 4) ?_
    refine x_iald (pc' := 1050) (N := L) (x := xs (i + 4)) rfl rfl rfl (HN l0) (io_in (p := i + 4) (N := L) (by omega) (by omega)) (Eq.trans (congrArg (sA t 29 0) (nn_io (p := i + 4) (by omega))) (HA l0 _)) ?_
    refine x_aload_n (pc' := 1051) rfl rfl rfl rfl rfl ?_
    refine x_iload (pc' := 1053) rfl rfl rfl ?_
    refine x_iconst (pc' := 1054) rfl rfl ?_
    refine x_iadd (pc' := 1055) (z := io (i + 5)) rfl rfl (io_add i 5) ?_
    refine x_iald (pc' := 1056) (N := L) (x := xs (i + 5)) rfl rfl rfl (HN l0) (io_in (p := i + 5) (N := L) (by omega) (by omega)) (Eq.trans (congrArg (sA t 29 0) (nn_io (p := i + 5) (by omega))) (HA l0 _)) ?_
    refine x_aload_n (pc' := 1057) rfl rfl rfl rfl rfl ?_
    refine x_cs (ls0 := [_, _, _, _, _, _, _, sJk]) (rest := []) rfl rfl rfl rfl ?_
    refine wr_270 (r := (sp95 M n (xs (i + 1)) (xs (i + 2)) s (xs (i + 4)) (xs (i + 5)))) (w := 0) j1 hd.2.2.1 (fun Q' h => C95 hd.2.2.1 hd.1 hv.1 hP h) (fun t1 T1 L1 W1 l1 z1 o1 => ?_)
    refine sK_i (pc' := 1060) rfl ?_
    refine x_istore (pc' := 1062) (ls' := [_, _, _, _, _, _, _]) rfl rfl rfl rfl ?_
    have hV : Vr t1 M n := ⟨l1.2.2.trans hd.2.1, W1.2.1.1, hd.1.2.2.1⟩
    refine x_aload_n (pc' := 1063) rfl rfl rfl rfl rfl ?_
    refine x_aload_n (pc' := 1064) rfl rfl rfl rfl rfl ?_
    refine x_iload (pc' := 1066) rfl rfl rfl ?_
    refine x_iconst (pc' := 1067) rfl rfl ?_
    refine x_iadd (pc' := 1068) (z := io (i + 1)) rfl rfl (io_add i 1) ?_
    refine x_iald (pc' := 1069) (N := L) (x := xs (i + 1)) rfl rfl rfl (HN l1) (io_in (p := i + 1) (N := L) (by omega) (by omega)) (Eq.trans (congrArg (sA t1 29 0) (nn_io (p := i + 1) (by omega))) (HA l1 _)) ?_
    refine x_aload_n (pc' := 1070) rfl rfl rfl rfl rfl ?_
    refine x_iload (pc' := 1072) rfl rfl rfl ?_
    refine x_iconst (pc' := 1073) rfl rfl ?_
    refine x_iadd (pc' := 1074) (z := io (i + 2)) rfl rfl (io_add i 2) ?_
    refine x_iald (pc' := 1075) (N := L) (x := xs (i + 2)) rfl rfl rfl (HN l1) (io_in (p := i + 2) (N := L) (by omega) (by omega)) (Eq.trans (congrArg (sA t1 29 0) (nn_io (p := i + 2) (by omega))) (HA l1 _)) ?_
    refine x_aload_n (pc' := 1076) rfl rfl rfl rfl rfl ?_
    refine x_iload (pc' := 1078) rfl rfl rfl ?_
    refine x_iconst (pc' := 1079) rfl rfl ?_
    refine x_iadd (pc' := 1080) (z := io (i + 3)) rfl rfl (io_add i 3) ?_
    refine x_iald (pc' := 1081) (N := L) (x := xs (i + 3)) rfl rfl rfl (HN l1) (io_in (p := i + 3) (N := L) (by omega) (by omega)) (Eq.trans (congrArg (sA t1 29 0) (nn_io (p := i + 3) (by omega))) (HA l1 _)) ?_
    have hz1088 : sCond .eq (xs (i + 3)) 0 = !s := by rw [← hs, Bool.not_not]; rfl
    have b1088 : X 297 1089 [.inr (.inr (29, (some 0))), .inr (.inr (11, (some 0))), .inr (.inr (12, (some 0))), .inr (.inr (23, (some 0))), .inl (io i), .inl (io (sp95 M n (xs (i + 1)) (xs (i + 2)) s (xs (i + 4)) (xs (i + 5))).1), y1] [.inl (bz s), .inl (xs (i + 2)), .inl (xs (i + 1)), .inr (.inr (12, (some 0)))] t1 Q := by
      refine x_aload_n (pc' := 1090) rfl rfl rfl rfl rfl ?_
      refine x_iload (pc' := 1092) rfl rfl rfl ?_
      refine x_iconst (pc' := 1093) rfl rfl ?_
      refine x_iadd (pc' := 1094) (z := io (i + 4)) rfl rfl (io_add i 4) ?_
      refine x_iald (pc' := 1095) (N := L) (x := xs (i + 4)) rfl rfl rfl (HN l1) (io_in (p := i + 4) (N := L) (by omega) (by omega)) (Eq.trans (congrArg (sA t1 29 0) (nn_io (p := i + 4) (by omega))) (HA l1 _)) ?_
      refine x_aload_n (pc' := 1096) rfl rfl rfl rfl rfl ?_
      refine x_iload (pc' := 1098) rfl rfl rfl ?_
      refine x_iconst (pc' := 1099) rfl rfl ?_
      refine x_iadd (pc' := 1100) (z := io (i + 5)) rfl rfl (io_add i 5) ?_
      refine x_iald (pc' := 1101) (N := L) (x := xs (i + 5)) rfl rfl rfl (HN l1) (io_in (p := i + 5) (N := L) (by omega) (by omega)) (Eq.trans (congrArg (sA t1 29 0) (nn_io (p := i + 5) (by omega))) (HA l1 _)) ?_
      refine x_cv (ls0 := [_, _, _, _, _, _, sJk, sJk]) (rest := []) rfl rfl rfl rfl rfl ?_
      refine R205 hV hv.1 hP (fun t2 h2 c2 => ?_)
      refine sK_i (pc' := 1104) rfl ?_
      refine x_istore (pc' := 1106) (ls' := [_, _, _, _, _, _, _]) rfl rfl rfl rfl ?_
      have W2 : Wc t2 (sp95 M n (xs (i + 1)) (xs (i + 2)) s (xs (i + 4)) (xs (i + 5))).2.2.1 (sp95 M n (xs (i + 1)) (xs (i + 2)) s (xs (i + 4)) (xs (i + 5))).2.2.2 T1 L1 (A + 2) (B + 12) := W_cp c2 W1
      have HN2 : sN t2 29 0 = L := (congrFun (congrFun (cpN c2) 29) 0).trans (HN l1)
      have HA2 : ∀ p, sA t2 29 0 p = xs p := fun p => (cpA c2 rfl).trans (HA l1 p)
      have HD2 := (⟨W2, h2, Zr_cp c2 z1, HA2, HN2⟩ : Hd t2 (sp95 M n (xs (i + 1)) (xs (i + 2)) s (xs (i + 4)) (xs (i + 5))).2.2.1 (sp95 M n (xs (i + 1)) (xs (i + 2)) s (xs (i + 4)) (xs (i + 5))).2.2.2 T1 L1 (A + 2) (B + 12) xs L)
      have q2 := fun y5 y6 => q t2 T1 L1 y5 y6 HD2 hr
      have hout : (sp95 M n (xs (i + 1)) (xs (i + 2)) s (xs (i + 4)) (xs (i + 5))).1 = 0 → sL t2 23 0 0 = (sp95 M n (xs (i + 1)) (xs (i + 2)) s (xs (i + 4)) (xs (i + 5))).2.1.toInt64 := fun h => (congrFun (congrFun (congrFun (cpL c2) 23) 0) 0).trans (o1 h)
      have hc2 : Cn t2 := W2.2.1.1
      clear q HD2 hr W2 W1 o1
      generalize (sp95 M n (xs (i + 1)) (xs (i + 2)) s (xs (i + 4)) (xs (i + 5))) = r at *
      have fin : X 297 2938 [.inr (.inr (29, (some 0))), .inr (.inr (11, (some 0))), .inr (.inr (12, (some 0))), .inr (.inr (23, (some 0))), .inl (io i), .inl (io r.1), .inl r.2.1] [] t2 Q := by
        refine x_iinc (pc' := 2941) (y := io (i + 7)) (ls' := [_, _, _, _, _, _, _]) rfl rfl rfl (io_add i 7) rfl ?_
        refine x_goto (pc' := 23) rfl rfl ?_
        exact q2 _ _
      refine x_aload_n (pc' := 1107) rfl rfl rfl rfl rfl ?_
      refine x_cv (ls0 := [_]) (rest := []) rfl rfl rfl rfl rfl ?_
      refine x_aload_n (pc' := 1) rfl rfl rfl rfl rfl ?_
      refine x_gI (pc' := 4) (x := io r.1) rfl rfl rfl ((gI h2 rfl).trans j2) ?_
      refine x_reti rfl rfl ?_
      refine sK_i (pc' := 1110) rfl ?_
      refine x_iload (pc' := 1112) rfl rfl rfl ?_
      refine x_icmp (a' := 1117) (pc' := 1115) (z := true) rfl rfl rfl (show decide (io r.1 = io r.1) = true from decide_eq_true rfl) (fun _ => ?_) (fun h => by cases h)
      refine x_iload (pc' := 1119) rfl rfl rfl ?_
      have gof : X 297 1134 [.inr (.inr (29, (some 0))), .inr (.inr (11, (some 0))), .inr (.inr (12, (some 0))), .inr (.inr (23, (some 0))), .inl (io i), .inl (io r.1), .inl r.2.1] [] t2 Q := by
        refine x_goto (pc' := 2938) rfl rfl ?_
        exact fin
      by_cases h0 : r.1 = 0
      · refine x_if (a' := 1134) (pc' := 1122) (z := false) rfl rfl rfl (by rw [h0]; rfl) (fun h => by cases h) (fun _ => ?_)
        refine x_aload_n (pc' := 1123) rfl rfl rfl rfl rfl ?_
        refine x_iconst (pc' := 1124) rfl rfl ?_
        refine x_lald (pc' := 1125) (N := 1) (x := r.2.1.toInt64) rfl rfl (kN_23_0 hc2) (by decide) (hout h0) ?_
        refine x_iload (pc' := 1127) rfl rfl rfl ?_
        refine x_i2l (pc' := 1128) rfl rfl rfl ?_
        refine x_lcmp (pc' := 1129) (z := 0) rfl rfl (sLcmp_s _) ?_
        refine x_if (a' := 1134) (pc' := 1132) (z := true) rfl rfl rfl (by decide) (fun _ => gof) (fun h => by cases h)
      · refine x_if (a' := 1134) (pc' := 1122) (z := true) rfl rfl rfl ((ic_ne (p := r.1) (q := 0) (by omega) (by decide)).trans (decide_eq_true h0)) (fun _ => gof) (fun h => by cases h)
    refine x_if (a' := 1088) (pc' := 1084) (z := !s) rfl rfl rfl hz1088 (fun h => ?_) (fun h => ?_)
    · have es : s = false := by cases s; rfl; cases h
      subst es
      refine x_iconst (pc' := 1089) rfl rfl ?_
      exact b1088
    · have es : s = true := by cases s; cases h; rfl
      subst es
      refine x_iconst (pc' := 1085) rfl rfl ?_
      refine x_goto (pc' := 1089) rfl rfl ?_
      exact b1088
  refine x_if (a' := 1043) (pc' := 1039) (z := !s) rfl rfl rfl hz1043 (fun h => ?_) (fun h => ?_)
  · have es : s = false := by cases s; rfl; cases h
    subst es
    refine x_iconst (pc' := 1044) rfl rfl ?_
    exact b1043
  · have es : s = true := by cases s; cases h; rfl
    subst es
    refine x_iconst (pc' := 1040) rfl rfl ?_
    refine x_goto (pc' := 1044) rfl rfl ?_
    exact b1043
theorem lc_12 (hd : Hd t M n T Ls A B xs L) (hv : Hv M n e) (he : e ≤ 599) (hi : i + 7 ≤ L) (hL : L ≤ 3584) (hk : ((xs i) &&& 63) = 12)
    (q : ∀ t' T' Ls' (y5 y6 : sV), Hd t' (sp96 M n (xs (i + 1)) (xs (i + 2)) (!(decide (xs (i + 3) = 0))) (xs (i + 4)) (xs (i + 5)) (xs (i + 6))).2.2.1 (sp96 M n (xs (i + 1)) (xs (i + 2)) (!(decide (xs (i + 3) = 0))) (xs (i + 4)) (xs (i + 5)) (xs (i + 6))).2.2.2 T' Ls' (A + 2) (B + 12) xs L → Hv (sp96 M n (xs (i + 1)) (xs (i + 2)) (!(decide (xs (i + 3) = 0))) (xs (i + 4)) (xs (i + 5)) (xs (i + 6))).2.2.1 (sp96 M n (xs (i + 1)) (xs (i + 2)) (!(decide (xs (i + 3) = 0))) (xs (i + 4)) (xs (i + 5)) (xs (i + 6))).2.2.2 (e + 1) → X 297 23 [.inr (.inr (29, (some 0))), .inr (.inr (11, (some 0))), .inr (.inr (12, (some 0))), .inr (.inr (23, (some 0))), .inl (io (i + 7)), y5, y6] [] t' Q) :
    X 297 23 [.inr (.inr (29, (some 0))), .inr (.inr (11, (some 0))), .inr (.inr (12, (some 0))), .inr (.inr (23, (some 0))), .inl (io i), y0, y1] [] t Q := by
  have hTT := Hv_T hv
  have hTN : tN M = T := W_tN hd.1
  rw [hTN] at hTT
  have hI : mI M 801 = io T := hTT.2.2
  have hT4 : T < 4096 := by omega
  have hP : Pv M := Hv_Pv hv (by omega)
  obtain ⟨j1, j2⟩ : (sp96 M n (xs (i + 1)) (xs (i + 2)) (!(decide (xs (i + 3) = 0))) (xs (i + 4)) (xs (i + 5)) (xs (i + 6))).1 ≤ 3 ∧ mI (sp96 M n (xs (i + 1)) (xs (i + 2)) (!(decide (xs (i + 3) = 0))) (xs (i + 4)) (xs (i + 5)) (xs (i + 6))).2.2.1 768 = io (sp96 M n (xs (i + 1)) (xs (i + 2)) (!(decide (xs (i + 3) = 0))) (xs (i + 4)) (xs (i + 5)) (xs (i + 6))).1 := J96
  have hr : Hv (sp96 M n (xs (i + 1)) (xs (i + 2)) (!(decide (xs (i + 3) = 0))) (xs (i + 4)) (xs (i + 5)) (xs (i + 6))).2.2.1 (sp96 M n (xs (i + 1)) (xs (i + 2)) (!(decide (xs (i + 3) = 0))) (xs (i + 4)) (xs (i + 5)) (xs (i + 6))).2.2.2 (e + 1) := Hv_e (H96 hv (by omega))
  have HN : ∀ {t1 : sT}, lw t1 t → sN t1 29 0 = L := fun h => (congrFun h.2.1 0).trans hd.2.2.2.2
  have HA : ∀ {t1 : sT}, lw t1 t → ∀ p, sA t1 29 0 p = xs p := fun h p => (congrFun (congrFun h.1 0) p).trans (hd.2.2.2.1 p)
  have l0 : lw t t := ⟨rfl, rfl, rfl⟩
  refine hd_40 hd hi hL ?_
  refine x_switch (pc' := 1137) rfl (by rw [hk]; decide) ?_
  generalize hs : (!(decide (xs (i + 3) = 0))) = s at *
  refine x_aload_n (pc' := 1138) rfl rfl rfl rfl rfl ?_
  refine x_aload_n (pc' := 1139) rfl rfl rfl rfl rfl ?_
  refine x_iload (pc' := 1141) rfl rfl rfl ?_
  refine x_iconst (pc' := 1142) rfl rfl ?_
  refine x_iadd (pc' := 1143) (z := io (i + 1)) rfl rfl (io_add i 1) ?_
  refine x_iald (pc' := 1144) (N := L) (x := xs (i + 1)) rfl rfl rfl (HN l0) (io_in (p := i + 1) (N := L) (by omega) (by omega)) (Eq.trans (congrArg (sA t 29 0) (nn_io (p := i + 1) (by omega))) (HA l0 _)) ?_
  refine x_aload_n (pc' := 1145) rfl rfl rfl rfl rfl ?_
  refine x_iload (pc' := 1147) rfl rfl rfl ?_
  refine x_iconst (pc' := 1148) rfl rfl ?_
  refine x_iadd (pc' := 1149) (z := io (i + 2)) rfl rfl (io_add i 2) ?_
  refine x_iald (pc' := 1150) (N := L) (x := xs (i + 2)) rfl rfl rfl (HN l0) (io_in (p := i + 2) (N := L) (by omega) (by omega)) (Eq.trans (congrArg (sA t 29 0) (nn_io (p := i + 2) (by omega))) (HA l0 _)) ?_
  refine x_aload_n (pc' := 1151) rfl rfl rfl rfl rfl ?_
  refine x_iload (pc' := 1153) rfl rfl rfl ?_
  refine x_iconst (pc' := 1154) rfl rfl ?_
  refine x_iadd (pc' := 1155) (z := io (i + 3)) rfl rfl (io_add i 3) ?_
  refine x_iald (pc' := 1156) (N := L) (x := xs (i + 3)) rfl rfl rfl (HN l0) (io_in (p := i + 3) (N := L) (by omega) (by omega)) (Eq.trans (congrArg (sA t 29 0) (nn_io (p := i + 3) (by omega))) (HA l0 _)) ?_
  have hz1163 : sCond .eq (xs (i + 3)) 0 = !s := by rw [← hs, Bool.not_not]; rfl
  have b1163 : X 297 1164 [.inr (.inr (29, (some 0))), .inr (.inr (11, (some 0))), .inr (.inr (12, (some 0))), .inr (.inr (23, (some 0))), .inl (io i), y0, y1] [.inl (bz s), .inl (xs (i + 2)), .inl (xs (i + 1)), .inr (.inr (11, (some 0)))] t Q := by
    refine x_aload_n (pc' := 1165) rfl rfl rfl rfl rfl ?_
    refine x_iload (pc' := 1167) rfl rfl rfl ?_
    refine x_iconst (pc' := 1168) rfl rfl ?_
    refine x_iadd (pc' := 1169) (z := io (i + 4)) rfl rfl (io_add i 4) ?_
    refine x_iald (pc' := 1170) (N := L) (x := xs (i + 4)) rfl rfl rfl (HN l0) (io_in (p := i + 4) (N := L) (by omega) (by omega)) (Eq.trans (congrArg (sA t 29 0) (nn_io (p := i + 4) (by omega))) (HA l0 _)) ?_
    refine x_aload_n (pc' := 1171) rfl rfl rfl rfl rfl ?_
    refine x_iload (pc' := 1173) rfl rfl rfl ?_
    refine x_iconst (pc' := 1174) rfl rfl ?_
    refine x_iadd (pc' := 1175) (z := io (i + 5)) rfl rfl (io_add i 5) ?_
    refine x_iald (pc' := 1176) (N := L) (x := xs (i + 5)) rfl rfl rfl (HN l0) (io_in (p := i + 5) (N := L) (by omega) (by omega)) (Eq.trans (congrArg (sA t 29 0) (nn_io (p := i + 5) (by omega))) (HA l0 _)) ?_
    refine x_aload_n (pc' := 1177) rfl rfl rfl rfl rfl ?_
    refine x_iload (pc' := 1179) rfl rfl rfl ?_
    refine x_bipush (pc' := 1181) rfl rfl ?_
    refine x_iadd (pc' := 1182) (z := io (i + 6)) rfl rfl (io_add i 6) ?_
    refine x_iald (pc' := 1183) (N := L) (x := xs (i + 6)) rfl rfl rfl (HN l0) (io_in (p := i + 6) (N := L) (by omega) (by omega)) (Eq.trans (congrArg (sA t 29 0) (nn_io (p := i + 6) (by omega))) (HA l0 _)) ?_
    refine x_aload_n (pc' := 1184) rfl rfl rfl rfl rfl ?_
    refine x_cs (ls0 := [_, _, _, _, _, _, _, _, sJk]) (rest := []) rfl rfl rfl rfl ?_
    refine wr_271 (r := (sp96 M n (xs (i + 1)) (xs (i + 2)) s (xs (i + 4)) (xs (i + 5)) (xs (i + 6)))) (w := 0) j1 hd.2.2.1 (fun Q' h => C96 hd.2.2.1 hd.1 hv.1 hP h) (fun t1 T1 L1 W1 l1 z1 o1 => ?_)
    refine sK_i (pc' := 1187) rfl ?_
    refine x_istore (pc' := 1189) (ls' := [_, _, _, _, _, _, _]) rfl rfl rfl rfl ?_
    have hV : Vr t1 M n := ⟨l1.2.2.trans hd.2.1, W1.2.1.1, hd.1.2.2.1⟩
    refine x_aload_n (pc' := 1190) rfl rfl rfl rfl rfl ?_
    refine x_aload_n (pc' := 1191) rfl rfl rfl rfl rfl ?_
    refine x_iload (pc' := 1193) rfl rfl rfl ?_
    refine x_iconst (pc' := 1194) rfl rfl ?_
    refine x_iadd (pc' := 1195) (z := io (i + 1)) rfl rfl (io_add i 1) ?_
    refine x_iald (pc' := 1196) (N := L) (x := xs (i + 1)) rfl rfl rfl (HN l1) (io_in (p := i + 1) (N := L) (by omega) (by omega)) (Eq.trans (congrArg (sA t1 29 0) (nn_io (p := i + 1) (by omega))) (HA l1 _)) ?_
    refine x_aload_n (pc' := 1197) rfl rfl rfl rfl rfl ?_
    refine x_iload (pc' := 1199) rfl rfl rfl ?_
    refine x_iconst (pc' := 1200) rfl rfl ?_
    refine x_iadd (pc' := 1201) (z := io (i + 2)) rfl rfl (io_add i 2) ?_
    refine x_iald (pc' := 1202) (N := L) (x := xs (i + 2)) rfl rfl rfl (HN l1) (io_in (p := i + 2) (N := L) (by omega) (by omega)) (Eq.trans (congrArg (sA t1 29 0) (nn_io (p := i + 2) (by omega))) (HA l1 _)) ?_
    refine x_aload_n (pc' := 1203) rfl rfl rfl rfl rfl ?_
    refine x_iload (pc' := 1205) rfl rfl rfl ?_
    refine x_iconst (pc' := 1206) rfl rfl ?_
    refine x_iadd (pc' := 1207) (z := io (i + 3)) rfl rfl (io_add i 3) ?_
    refine x_iald (pc' := 1208) (N := L) (x := xs (i + 3)) rfl rfl rfl (HN l1) (io_in (p := i + 3) (N := L) (by omega) (by omega)) (Eq.trans (congrArg (sA t1 29 0) (nn_io (p := i + 3) (by omega))) (HA l1 _)) ?_
    have hz1215 : sCond .eq (xs (i + 3)) 0 = !s := by rw [← hs, Bool.not_not]; rfl
    have b1215 : X 297 1216 [.inr (.inr (29, (some 0))), .inr (.inr (11, (some 0))), .inr (.inr (12, (some 0))), .inr (.inr (23, (some 0))), .inl (io i), .inl (io (sp96 M n (xs (i + 1)) (xs (i + 2)) s (xs (i + 4)) (xs (i + 5)) (xs (i + 6))).1), y1] [.inl (bz s), .inl (xs (i + 2)), .inl (xs (i + 1)), .inr (.inr (12, (some 0)))] t1 Q := by
      refine x_aload_n (pc' := 1217) rfl rfl rfl rfl rfl ?_
      refine x_iload (pc' := 1219) rfl rfl rfl ?_
      refine x_iconst (pc' := 1220) rfl rfl ?_
      refine x_iadd (pc' := 1221) (z := io (i + 4)) rfl rfl (io_add i 4) ?_
      refine x_iald (pc' := 1222) (N := L) (x := xs (i + 4)) rfl rfl rfl (HN l1) (io_in (p := i + 4) (N := L) (by omega) (by omega)) (Eq.trans (congrArg (sA t1 29 0) (nn_io (p := i + 4) (by omega))) (HA l1 _)) ?_
      refine x_aload_n (pc' := 1223) rfl rfl rfl rfl rfl ?_
      refine x_iload (pc' := 1225) rfl rfl rfl ?_
      refine x_iconst (pc' := 1226) rfl rfl ?_
      refine x_iadd (pc' := 1227) (z := io (i + 5)) rfl rfl (io_add i 5) ?_
      refine x_iald (pc' := 1228) (N := L) (x := xs (i + 5)) rfl rfl rfl (HN l1) (io_in (p := i + 5) (N := L) (by omega) (by omega)) (Eq.trans (congrArg (sA t1 29 0) (nn_io (p := i + 5) (by omega))) (HA l1 _)) ?_
      refine x_aload_n (pc' := 1229) rfl rfl rfl rfl rfl ?_
      refine x_iload (pc' := 1231) rfl rfl rfl ?_
      refine x_bipush (pc' := 1233) rfl rfl ?_
      refine x_iadd (pc' := 1234) (z := io (i + 6)) rfl rfl (io_add i 6) ?_
      refine x_iald (pc' := 1235) (N := L) (x := xs (i + 6)) rfl rfl rfl (HN l1) (io_in (p := i + 6) (N := L) (by omega) (by omega)) (Eq.trans (congrArg (sA t1 29 0) (nn_io (p := i + 6) (by omega))) (HA l1 _)) ?_
      refine x_cv (ls0 := [_, _, _, _, _, _, _, sJk, sJk, sJk]) (rest := []) rfl rfl rfl rfl rfl ?_
      refine R206 hV hv.1 hP (fun t2 h2 c2 => ?_)
      refine sK_i (pc' := 1238) rfl ?_
      refine x_istore (pc' := 1240) (ls' := [_, _, _, _, _, _, _]) rfl rfl rfl rfl ?_
      have W2 : Wc t2 (sp96 M n (xs (i + 1)) (xs (i + 2)) s (xs (i + 4)) (xs (i + 5)) (xs (i + 6))).2.2.1 (sp96 M n (xs (i + 1)) (xs (i + 2)) s (xs (i + 4)) (xs (i + 5)) (xs (i + 6))).2.2.2 T1 L1 (A + 2) (B + 12) := W_cp c2 W1
      have HN2 : sN t2 29 0 = L := (congrFun (congrFun (cpN c2) 29) 0).trans (HN l1)
      have HA2 : ∀ p, sA t2 29 0 p = xs p := fun p => (cpA c2 rfl).trans (HA l1 p)
      have HD2 := (⟨W2, h2, Zr_cp c2 z1, HA2, HN2⟩ : Hd t2 (sp96 M n (xs (i + 1)) (xs (i + 2)) s (xs (i + 4)) (xs (i + 5)) (xs (i + 6))).2.2.1 (sp96 M n (xs (i + 1)) (xs (i + 2)) s (xs (i + 4)) (xs (i + 5)) (xs (i + 6))).2.2.2 T1 L1 (A + 2) (B + 12) xs L)
      have q2 := fun y5 y6 => q t2 T1 L1 y5 y6 HD2 hr
      have hout : (sp96 M n (xs (i + 1)) (xs (i + 2)) s (xs (i + 4)) (xs (i + 5)) (xs (i + 6))).1 = 0 → sL t2 23 0 0 = (sp96 M n (xs (i + 1)) (xs (i + 2)) s (xs (i + 4)) (xs (i + 5)) (xs (i + 6))).2.1.toInt64 := fun h => (congrFun (congrFun (congrFun (cpL c2) 23) 0) 0).trans (o1 h)
      have hc2 : Cn t2 := W2.2.1.1
      clear q HD2 hr W2 W1 o1
      generalize (sp96 M n (xs (i + 1)) (xs (i + 2)) s (xs (i + 4)) (xs (i + 5)) (xs (i + 6))) = r at *
      have fin : X 297 2938 [.inr (.inr (29, (some 0))), .inr (.inr (11, (some 0))), .inr (.inr (12, (some 0))), .inr (.inr (23, (some 0))), .inl (io i), .inl (io r.1), .inl r.2.1] [] t2 Q := by
        refine x_iinc (pc' := 2941) (y := io (i + 7)) (ls' := [_, _, _, _, _, _, _]) rfl rfl rfl (io_add i 7) rfl ?_
        refine x_goto (pc' := 23) rfl rfl ?_
        exact q2 _ _
      refine x_aload_n (pc' := 1241) rfl rfl rfl rfl rfl ?_
      refine x_cv (ls0 := [_]) (rest := []) rfl rfl rfl rfl rfl ?_
      refine x_aload_n (pc' := 1) rfl rfl rfl rfl rfl ?_
      refine x_gI (pc' := 4) (x := io r.1) rfl rfl rfl ((gI h2 rfl).trans j2) ?_
      refine x_reti rfl rfl ?_
      refine sK_i (pc' := 1244) rfl ?_
      refine x_iload (pc' := 1246) rfl rfl rfl ?_
      refine x_icmp (a' := 1251) (pc' := 1249) (z := true) rfl rfl rfl (show decide (io r.1 = io r.1) = true from decide_eq_true rfl) (fun _ => ?_) (fun h => by cases h)
      refine x_iload (pc' := 1253) rfl rfl rfl ?_
      have gof : X 297 1268 [.inr (.inr (29, (some 0))), .inr (.inr (11, (some 0))), .inr (.inr (12, (some 0))), .inr (.inr (23, (some 0))), .inl (io i), .inl (io r.1), .inl r.2.1] [] t2 Q := by
        refine x_goto (pc' := 2938) rfl rfl ?_
        exact fin
      by_cases h0 : r.1 = 0
      · refine x_if (a' := 1268) (pc' := 1256) (z := false) rfl rfl rfl (by rw [h0]; rfl) (fun h => by cases h) (fun _ => ?_)
        refine x_aload_n (pc' := 1257) rfl rfl rfl rfl rfl ?_
        refine x_iconst (pc' := 1258) rfl rfl ?_
        refine x_lald (pc' := 1259) (N := 1) (x := r.2.1.toInt64) rfl rfl (kN_23_0 hc2) (by decide) (hout h0) ?_
        refine x_iload (pc' := 1261) rfl rfl rfl ?_
        refine x_i2l (pc' := 1262) rfl rfl rfl ?_
        refine x_lcmp (pc' := 1263) (z := 0) rfl rfl (sLcmp_s _) ?_
        refine x_if (a' := 1268) (pc' := 1266) (z := true) rfl rfl rfl (by decide) (fun _ => gof) (fun h => by cases h)
      · refine x_if (a' := 1268) (pc' := 1256) (z := true) rfl rfl rfl ((ic_ne (p := r.1) (q := 0) (by omega) (by decide)).trans (decide_eq_true h0)) (fun _ => gof) (fun h => by cases h)
    refine x_if (a' := 1215) (pc' := 1211) (z := !s) rfl rfl rfl hz1215 (fun h => ?_) (fun h => ?_)
    · have es : s = false := by cases s; rfl; cases h
      subst es
      refine x_iconst (pc' := 1216) rfl rfl ?_
      exact b1215
    · have es : s = true := by cases s; cases h; rfl
      subst es
      refine x_iconst (pc' := 1212) rfl rfl ?_
      refine x_goto (pc' := 1216) rfl rfl ?_
      exact b1215
  refine x_if (a' := 1163) (pc' := 1159) (z := !s) rfl rfl rfl hz1163 (fun h => ?_) (fun h => ?_)
  · have es : s = false := by cases s; rfl; cases h
    subst es
    refine x_iconst (pc' := 1164) rfl rfl ?_
    exact b1163
  · have es : s = true := by cases s; cases h; rfl
    subst es
    refine x_iconst (pc' := 1160) rfl rfl ?_
    refine x_goto (pc' := 1164) rfl rfl ?_
    exact b1163
theorem lc_13 (hd : Hd t M n T Ls A B xs L) (hv : Hv M n e) (he : e ≤ 599) (hi : i + 7 ≤ L) (hL : L ≤ 3584) (hk : ((xs i) &&& 63) = 13)
    (q : ∀ t' T' Ls' (y5 y6 : sV), Hd t' (sp97 M n (xs (i + 1)) (xs (i + 2)) (xs (i + 3)) (xs (i + 4)) (xs (i + 5))).2.2.1 (sp97 M n (xs (i + 1)) (xs (i + 2)) (xs (i + 3)) (xs (i + 4)) (xs (i + 5))).2.2.2 T' Ls' (A + 2) (B + 12) xs L → Hv (sp97 M n (xs (i + 1)) (xs (i + 2)) (xs (i + 3)) (xs (i + 4)) (xs (i + 5))).2.2.1 (sp97 M n (xs (i + 1)) (xs (i + 2)) (xs (i + 3)) (xs (i + 4)) (xs (i + 5))).2.2.2 (e + 1) → X 297 23 [.inr (.inr (29, (some 0))), .inr (.inr (11, (some 0))), .inr (.inr (12, (some 0))), .inr (.inr (23, (some 0))), .inl (io (i + 7)), y5, y6] [] t' Q) :
    X 297 23 [.inr (.inr (29, (some 0))), .inr (.inr (11, (some 0))), .inr (.inr (12, (some 0))), .inr (.inr (23, (some 0))), .inl (io i), y0, y1] [] t Q := by
  have hTT := Hv_T hv
  have hTN : tN M = T := W_tN hd.1
  rw [hTN] at hTT
  have hI : mI M 801 = io T := hTT.2.2
  have hT4 : T < 4096 := by omega
  have hP : Pv M := Hv_Pv hv (by omega)
  have hQ := Qa_Qt hv.2.1.1
  obtain ⟨j1, j2⟩ : (sp97 M n (xs (i + 1)) (xs (i + 2)) (xs (i + 3)) (xs (i + 4)) (xs (i + 5))).1 ≤ 3 ∧ mI (sp97 M n (xs (i + 1)) (xs (i + 2)) (xs (i + 3)) (xs (i + 4)) (xs (i + 5))).2.2.1 768 = io (sp97 M n (xs (i + 1)) (xs (i + 2)) (xs (i + 3)) (xs (i + 4)) (xs (i + 5))).1 := J97
  have hr : Hv (sp97 M n (xs (i + 1)) (xs (i + 2)) (xs (i + 3)) (xs (i + 4)) (xs (i + 5))).2.2.1 (sp97 M n (xs (i + 1)) (xs (i + 2)) (xs (i + 3)) (xs (i + 4)) (xs (i + 5))).2.2.2 (e + 1) := Hv_e (H97 hv (by omega))
  have HN : ∀ {t1 : sT}, lw t1 t → sN t1 29 0 = L := fun h => (congrFun h.2.1 0).trans hd.2.2.2.2
  have HA : ∀ {t1 : sT}, lw t1 t → ∀ p, sA t1 29 0 p = xs p := fun h p => (congrFun (congrFun h.1 0) p).trans (hd.2.2.2.1 p)
  have l0 : lw t t := ⟨rfl, rfl, rfl⟩
  refine hd_40 hd hi hL ?_
  refine x_switch (pc' := 1271) rfl (by rw [hk]; decide) ?_
  refine x_aload_n (pc' := 1272) rfl rfl rfl rfl rfl ?_
  refine x_aload_n (pc' := 1273) rfl rfl rfl rfl rfl ?_
  refine x_iload (pc' := 1275) rfl rfl rfl ?_
  refine x_iconst (pc' := 1276) rfl rfl ?_
  refine x_iadd (pc' := 1277) (z := io (i + 1)) rfl rfl (io_add i 1) ?_
  refine x_iald (pc' := 1278) (N := L) (x := xs (i + 1)) rfl rfl rfl (HN l0) (io_in (p := i + 1) (N := L) (by omega) (by omega)) (Eq.trans (congrArg (sA t 29 0) (nn_io (p := i + 1) (by omega))) (HA l0 _)) ?_
  refine x_aload_n (pc' := 1279) rfl rfl rfl rfl rfl ?_
  refine x_iload (pc' := 1281) rfl rfl rfl ?_
  refine x_iconst (pc' := 1282) rfl rfl ?_
  refine x_iadd (pc' := 1283) (z := io (i + 2)) rfl rfl (io_add i 2) ?_
  refine x_iald (pc' := 1284) (N := L) (x := xs (i + 2)) rfl rfl rfl (HN l0) (io_in (p := i + 2) (N := L) (by omega) (by omega)) (Eq.trans (congrArg (sA t 29 0) (nn_io (p := i + 2) (by omega))) (HA l0 _)) ?_
  refine x_aload_n (pc' := 1285) rfl rfl rfl rfl rfl ?_
  refine x_iload (pc' := 1287) rfl rfl rfl ?_
  refine x_iconst (pc' := 1288) rfl rfl ?_
  refine x_iadd (pc' := 1289) (z := io (i + 3)) rfl rfl (io_add i 3) ?_
  refine x_iald (pc' := 1290) (N := L) (x := xs (i + 3)) rfl rfl rfl (HN l0) (io_in (p := i + 3) (N := L) (by omega) (by omega)) (Eq.trans (congrArg (sA t 29 0) (nn_io (p := i + 3) (by omega))) (HA l0 _)) ?_
  refine x_aload_n (pc' := 1291) rfl rfl rfl rfl rfl ?_
  refine x_iload (pc' := 1293) rfl rfl rfl ?_
  refine x_iconst (pc' := 1294) rfl rfl ?_
  refine x_iadd (pc' := 1295) (z := io (i + 4)) rfl rfl (io_add i 4) ?_
  refine x_iald (pc' := 1296) (N := L) (x := xs (i + 4)) rfl rfl rfl (HN l0) (io_in (p := i + 4) (N := L) (by omega) (by omega)) (Eq.trans (congrArg (sA t 29 0) (nn_io (p := i + 4) (by omega))) (HA l0 _)) ?_
  refine x_aload_n (pc' := 1297) rfl rfl rfl rfl rfl ?_
  refine x_iload (pc' := 1299) rfl rfl rfl ?_
  refine x_iconst (pc' := 1300) rfl rfl ?_
  refine x_iadd (pc' := 1301) (z := io (i + 5)) rfl rfl (io_add i 5) ?_
  refine x_iald (pc' := 1302) (N := L) (x := xs (i + 5)) rfl rfl rfl (HN l0) (io_in (p := i + 5) (N := L) (by omega) (by omega)) (Eq.trans (congrArg (sA t 29 0) (nn_io (p := i + 5) (by omega))) (HA l0 _)) ?_
  refine x_aload_n (pc' := 1303) rfl rfl rfl rfl rfl ?_
  refine x_cs (ls0 := [_, _, _, _, _, _, _, sJk]) (rest := []) rfl rfl rfl rfl ?_
  refine wr_272 (r := (sp97 M n (xs (i + 1)) (xs (i + 2)) (xs (i + 3)) (xs (i + 4)) (xs (i + 5)))) (w := 0) j1 hd.2.2.1 (fun Q' h => C97 hd.2.2.1 hd.1 hv.1 hP h) (fun t1 T1 L1 W1 l1 z1 o1 => ?_)
  refine sK_i (pc' := 1306) rfl ?_
  refine x_istore (pc' := 1308) (ls' := [_, _, _, _, _, _, _]) rfl rfl rfl rfl ?_
  have hV : Vr t1 M n := ⟨l1.2.2.trans hd.2.1, W1.2.1.1, hd.1.2.2.1⟩
  refine x_aload_n (pc' := 1309) rfl rfl rfl rfl rfl ?_
  refine x_aload_n (pc' := 1310) rfl rfl rfl rfl rfl ?_
  refine x_iload (pc' := 1312) rfl rfl rfl ?_
  refine x_iconst (pc' := 1313) rfl rfl ?_
  refine x_iadd (pc' := 1314) (z := io (i + 1)) rfl rfl (io_add i 1) ?_
  refine x_iald (pc' := 1315) (N := L) (x := xs (i + 1)) rfl rfl rfl (HN l1) (io_in (p := i + 1) (N := L) (by omega) (by omega)) (Eq.trans (congrArg (sA t1 29 0) (nn_io (p := i + 1) (by omega))) (HA l1 _)) ?_
  refine x_aload_n (pc' := 1316) rfl rfl rfl rfl rfl ?_
  refine x_iload (pc' := 1318) rfl rfl rfl ?_
  refine x_iconst (pc' := 1319) rfl rfl ?_
  refine x_iadd (pc' := 1320) (z := io (i + 2)) rfl rfl (io_add i 2) ?_
  refine x_iald (pc' := 1321) (N := L) (x := xs (i + 2)) rfl rfl rfl (HN l1) (io_in (p := i + 2) (N := L) (by omega) (by omega)) (Eq.trans (congrArg (sA t1 29 0) (nn_io (p := i + 2) (by omega))) (HA l1 _)) ?_
  refine x_aload_n (pc' := 1322) rfl rfl rfl rfl rfl ?_
  refine x_iload (pc' := 1324) rfl rfl rfl ?_
  refine x_iconst (pc' := 1325) rfl rfl ?_
  refine x_iadd (pc' := 1326) (z := io (i + 3)) rfl rfl (io_add i 3) ?_
  refine x_iald (pc' := 1327) (N := L) (x := xs (i + 3)) rfl rfl rfl (HN l1) (io_in (p := i + 3) (N := L) (by omega) (by omega)) (Eq.trans (congrArg (sA t1 29 0) (nn_io (p := i + 3) (by omega))) (HA l1 _)) ?_
  refine x_aload_n (pc' := 1328) rfl rfl rfl rfl rfl ?_
  refine x_iload (pc' := 1330) rfl rfl rfl ?_
  refine x_iconst (pc' := 1331) rfl rfl ?_
  refine x_iadd (pc' := 1332) (z := io (i + 4)) rfl rfl (io_add i 4) ?_
  refine x_iald (pc' := 1333) (N := L) (x := xs (i + 4)) rfl rfl rfl (HN l1) (io_in (p := i + 4) (N := L) (by omega) (by omega)) (Eq.trans (congrArg (sA t1 29 0) (nn_io (p := i + 4) (by omega))) (HA l1 _)) ?_
  refine x_aload_n (pc' := 1334) rfl rfl rfl rfl rfl ?_
  refine x_iload (pc' := 1336) rfl rfl rfl ?_
  refine x_iconst (pc' := 1337) rfl rfl ?_
  refine x_iadd (pc' := 1338) (z := io (i + 5)) rfl rfl (io_add i 5) ?_
  refine x_iald (pc' := 1339) (N := L) (x := xs (i + 5)) rfl rfl rfl (HN l1) (io_in (p := i + 5) (N := L) (by omega) (by omega)) (Eq.trans (congrArg (sA t1 29 0) (nn_io (p := i + 5) (by omega))) (HA l1 _)) ?_
  refine x_cv (ls0 := [_, _, _, _, _, _, sJk, sJk, sJk, sJk, sJk, sJk, sJk, sJk, sJk]) (rest := []) rfl rfl rfl rfl rfl ?_
  refine R208 hV hv.1 hP hQ (fun t2 h2 c2 => ?_)
  refine sK_i (pc' := 1342) rfl ?_
  refine x_istore (pc' := 1344) (ls' := [_, _, _, _, _, _, _]) rfl rfl rfl rfl ?_
  have W2 : Wc t2 (sp97 M n (xs (i + 1)) (xs (i + 2)) (xs (i + 3)) (xs (i + 4)) (xs (i + 5))).2.2.1 (sp97 M n (xs (i + 1)) (xs (i + 2)) (xs (i + 3)) (xs (i + 4)) (xs (i + 5))).2.2.2 T1 L1 (A + 2) (B + 12) := W_cp c2 W1
  have HN2 : sN t2 29 0 = L := (congrFun (congrFun (cpN c2) 29) 0).trans (HN l1)
  have HA2 : ∀ p, sA t2 29 0 p = xs p := fun p => (cpA c2 rfl).trans (HA l1 p)
  have HD2 := (⟨W2, h2, Zr_cp c2 z1, HA2, HN2⟩ : Hd t2 (sp97 M n (xs (i + 1)) (xs (i + 2)) (xs (i + 3)) (xs (i + 4)) (xs (i + 5))).2.2.1 (sp97 M n (xs (i + 1)) (xs (i + 2)) (xs (i + 3)) (xs (i + 4)) (xs (i + 5))).2.2.2 T1 L1 (A + 2) (B + 12) xs L)
  have q2 := fun y5 y6 => q t2 T1 L1 y5 y6 HD2 hr
  have hout : (sp97 M n (xs (i + 1)) (xs (i + 2)) (xs (i + 3)) (xs (i + 4)) (xs (i + 5))).1 = 0 → sL t2 23 0 0 = (sp97 M n (xs (i + 1)) (xs (i + 2)) (xs (i + 3)) (xs (i + 4)) (xs (i + 5))).2.1.toInt64 := fun h => (congrFun (congrFun (congrFun (cpL c2) 23) 0) 0).trans (o1 h)
  have hc2 : Cn t2 := W2.2.1.1
  clear q HD2 hr W2 W1 o1
  generalize (sp97 M n (xs (i + 1)) (xs (i + 2)) (xs (i + 3)) (xs (i + 4)) (xs (i + 5))) = r at *
  have fin : X 297 2938 [.inr (.inr (29, (some 0))), .inr (.inr (11, (some 0))), .inr (.inr (12, (some 0))), .inr (.inr (23, (some 0))), .inl (io i), .inl (io r.1), .inl r.2.1] [] t2 Q := by
    refine x_iinc (pc' := 2941) (y := io (i + 7)) (ls' := [_, _, _, _, _, _, _]) rfl rfl rfl (io_add i 7) rfl ?_
    refine x_goto (pc' := 23) rfl rfl ?_
    exact q2 _ _
  refine x_aload_n (pc' := 1345) rfl rfl rfl rfl rfl ?_
  refine x_cv (ls0 := [_]) (rest := []) rfl rfl rfl rfl rfl ?_
  refine x_aload_n (pc' := 1) rfl rfl rfl rfl rfl ?_
  refine x_gI (pc' := 4) (x := io r.1) rfl rfl rfl ((gI h2 rfl).trans j2) ?_
  refine x_reti rfl rfl ?_
  refine sK_i (pc' := 1348) rfl ?_
  refine x_iload (pc' := 1350) rfl rfl rfl ?_
  refine x_icmp (a' := 1355) (pc' := 1353) (z := true) rfl rfl rfl (show decide (io r.1 = io r.1) = true from decide_eq_true rfl) (fun _ => ?_) (fun h => by cases h)
  refine x_iload (pc' := 1357) rfl rfl rfl ?_
  have gof : X 297 1372 [.inr (.inr (29, (some 0))), .inr (.inr (11, (some 0))), .inr (.inr (12, (some 0))), .inr (.inr (23, (some 0))), .inl (io i), .inl (io r.1), .inl r.2.1] [] t2 Q := by
    refine x_goto (pc' := 2938) rfl rfl ?_
    exact fin
  by_cases h0 : r.1 = 0
  · refine x_if (a' := 1372) (pc' := 1360) (z := false) rfl rfl rfl (by rw [h0]; rfl) (fun h => by cases h) (fun _ => ?_)
    refine x_aload_n (pc' := 1361) rfl rfl rfl rfl rfl ?_
    refine x_iconst (pc' := 1362) rfl rfl ?_
    refine x_lald (pc' := 1363) (N := 1) (x := r.2.1.toInt64) rfl rfl (kN_23_0 hc2) (by decide) (hout h0) ?_
    refine x_iload (pc' := 1365) rfl rfl rfl ?_
    refine x_i2l (pc' := 1366) rfl rfl rfl ?_
    refine x_lcmp (pc' := 1367) (z := 0) rfl rfl (sLcmp_s _) ?_
    refine x_if (a' := 1372) (pc' := 1370) (z := true) rfl rfl rfl (by decide) (fun _ => gof) (fun h => by cases h)
  · refine x_if (a' := 1372) (pc' := 1360) (z := true) rfl rfl rfl ((ic_ne (p := r.1) (q := 0) (by omega) (by decide)).trans (decide_eq_true h0)) (fun _ => gof) (fun h => by cases h)
theorem lc_14 (hd : Hd t M n T Ls A B xs L) (hv : Hv M n e) (he : e ≤ 599) (hi : i + 7 ≤ L) (hL : L ≤ 3584) (hk : ((xs i) &&& 63) = 14)
    (q : ∀ t' T' Ls' (y5 y6 : sV), Hd t' (sp98 M n (xs (i + 1))).2.2.1 (sp98 M n (xs (i + 1))).2.2.2 T' Ls' (A + 2) (B + 12) xs L → Hv (sp98 M n (xs (i + 1))).2.2.1 (sp98 M n (xs (i + 1))).2.2.2 (e + 1) → X 297 23 [.inr (.inr (29, (some 0))), .inr (.inr (11, (some 0))), .inr (.inr (12, (some 0))), .inr (.inr (23, (some 0))), .inl (io (i + 7)), y5, y6] [] t' Q) :
    X 297 23 [.inr (.inr (29, (some 0))), .inr (.inr (11, (some 0))), .inr (.inr (12, (some 0))), .inr (.inr (23, (some 0))), .inl (io i), y0, y1] [] t Q := by
  have hTT := Hv_T hv
  have hTN : tN M = T := W_tN hd.1
  rw [hTN] at hTT
  have hI : mI M 801 = io T := hTT.2.2
  have hT4 : T < 4096 := by omega
  obtain ⟨j1, j2⟩ : (sp98 M n (xs (i + 1))).1 ≤ 2 ∧ mI (sp98 M n (xs (i + 1))).2.2.1 768 = io (sp98 M n (xs (i + 1))).1 := J98
  have hr : Hv (sp98 M n (xs (i + 1))).2.2.1 (sp98 M n (xs (i + 1))).2.2.2 (e + 1) := Hv_e (H98 hv (by omega))
  have HN : ∀ {t1 : sT}, lw t1 t → sN t1 29 0 = L := fun h => (congrFun h.2.1 0).trans hd.2.2.2.2
  have HA : ∀ {t1 : sT}, lw t1 t → ∀ p, sA t1 29 0 p = xs p := fun h p => (congrFun (congrFun h.1 0) p).trans (hd.2.2.2.1 p)
  have l0 : lw t t := ⟨rfl, rfl, rfl⟩
  refine hd_40 hd hi hL ?_
  refine x_switch (pc' := 1375) rfl (by rw [hk]; decide) ?_
  refine x_aload_n (pc' := 1376) rfl rfl rfl rfl rfl ?_
  refine x_aload_n (pc' := 1377) rfl rfl rfl rfl rfl ?_
  refine x_iload (pc' := 1379) rfl rfl rfl ?_
  refine x_iconst (pc' := 1380) rfl rfl ?_
  refine x_iadd (pc' := 1381) (z := io (i + 1)) rfl rfl (io_add i 1) ?_
  refine x_iald (pc' := 1382) (N := L) (x := xs (i + 1)) rfl rfl rfl (HN l0) (io_in (p := i + 1) (N := L) (by omega) (by omega)) (Eq.trans (congrArg (sA t 29 0) (nn_io (p := i + 1) (by omega))) (HA l0 _)) ?_
  refine x_aload_n (pc' := 1383) rfl rfl rfl rfl rfl ?_
  refine x_cs (ls0 := [_, _, _, sJk]) (rest := []) rfl rfl rfl rfl ?_
  refine wr_273 (r := (sp98 M n (xs (i + 1)))) (w := 0) j1 hd.2.2.1 (fun Q' h => C98 hd.1 h) (fun t1 T1 L1 W1 l1 z1 o1 => ?_)
  refine sK_i (pc' := 1386) rfl ?_
  refine x_istore (pc' := 1388) (ls' := [_, _, _, _, _, _, _]) rfl rfl rfl rfl ?_
  have hV : Vr t1 M n := ⟨l1.2.2.trans hd.2.1, W1.2.1.1, hd.1.2.2.1⟩
  refine x_aload_n (pc' := 1389) rfl rfl rfl rfl rfl ?_
  refine x_aload_n (pc' := 1390) rfl rfl rfl rfl rfl ?_
  refine x_iload (pc' := 1392) rfl rfl rfl ?_
  refine x_iconst (pc' := 1393) rfl rfl ?_
  refine x_iadd (pc' := 1394) (z := io (i + 1)) rfl rfl (io_add i 1) ?_
  refine x_iald (pc' := 1395) (N := L) (x := xs (i + 1)) rfl rfl rfl (HN l1) (io_in (p := i + 1) (N := L) (by omega) (by omega)) (Eq.trans (congrArg (sA t1 29 0) (nn_io (p := i + 1) (by omega))) (HA l1 _)) ?_
  refine x_cv (ls0 := [_, _, sJk]) (rest := []) rfl rfl rfl rfl rfl ?_
  refine R209 hV (fun t2 h2 c2 => ?_)
  refine sK_i (pc' := 1398) rfl ?_
  refine x_istore (pc' := 1400) (ls' := [_, _, _, _, _, _, _]) rfl rfl rfl rfl ?_
  have W2 : Wc t2 (sp98 M n (xs (i + 1))).2.2.1 (sp98 M n (xs (i + 1))).2.2.2 T1 L1 (A + 2) (B + 12) := W_cp c2 W1
  have HN2 : sN t2 29 0 = L := (congrFun (congrFun (cpN c2) 29) 0).trans (HN l1)
  have HA2 : ∀ p, sA t2 29 0 p = xs p := fun p => (cpA c2 rfl).trans (HA l1 p)
  have HD2 := (⟨W2, h2, Zr_cp c2 z1, HA2, HN2⟩ : Hd t2 (sp98 M n (xs (i + 1))).2.2.1 (sp98 M n (xs (i + 1))).2.2.2 T1 L1 (A + 2) (B + 12) xs L)
  have q2 := fun y5 y6 => q t2 T1 L1 y5 y6 HD2 hr
  have hout : (sp98 M n (xs (i + 1))).1 = 0 → sL t2 23 0 0 = (sp98 M n (xs (i + 1))).2.1.toInt64 := fun h => (congrFun (congrFun (congrFun (cpL c2) 23) 0) 0).trans (o1 h)
  have hc2 : Cn t2 := W2.2.1.1
  clear q HD2 hr W2 W1 o1
  generalize (sp98 M n (xs (i + 1))) = r at *
  have fin : X 297 2938 [.inr (.inr (29, (some 0))), .inr (.inr (11, (some 0))), .inr (.inr (12, (some 0))), .inr (.inr (23, (some 0))), .inl (io i), .inl (io r.1), .inl r.2.1] [] t2 Q := by
    refine x_iinc (pc' := 2941) (y := io (i + 7)) (ls' := [_, _, _, _, _, _, _]) rfl rfl rfl (io_add i 7) rfl ?_
    refine x_goto (pc' := 23) rfl rfl ?_
    exact q2 _ _
  refine x_aload_n (pc' := 1401) rfl rfl rfl rfl rfl ?_
  refine x_cv (ls0 := [_]) (rest := []) rfl rfl rfl rfl rfl ?_
  refine x_aload_n (pc' := 1) rfl rfl rfl rfl rfl ?_
  refine x_gI (pc' := 4) (x := io r.1) rfl rfl rfl ((gI h2 rfl).trans j2) ?_
  refine x_reti rfl rfl ?_
  refine sK_i (pc' := 1404) rfl ?_
  refine x_iload (pc' := 1406) rfl rfl rfl ?_
  refine x_icmp (a' := 1411) (pc' := 1409) (z := true) rfl rfl rfl (show decide (io r.1 = io r.1) = true from decide_eq_true rfl) (fun _ => ?_) (fun h => by cases h)
  refine x_iload (pc' := 1413) rfl rfl rfl ?_
  have gof : X 297 1428 [.inr (.inr (29, (some 0))), .inr (.inr (11, (some 0))), .inr (.inr (12, (some 0))), .inr (.inr (23, (some 0))), .inl (io i), .inl (io r.1), .inl r.2.1] [] t2 Q := by
    refine x_goto (pc' := 2938) rfl rfl ?_
    exact fin
  by_cases h0 : r.1 = 0
  · refine x_if (a' := 1428) (pc' := 1416) (z := false) rfl rfl rfl (by rw [h0]; rfl) (fun h => by cases h) (fun _ => ?_)
    refine x_aload_n (pc' := 1417) rfl rfl rfl rfl rfl ?_
    refine x_iconst (pc' := 1418) rfl rfl ?_
    refine x_lald (pc' := 1419) (N := 1) (x := r.2.1.toInt64) rfl rfl (kN_23_0 hc2) (by decide) (hout h0) ?_
    refine x_iload (pc' := 1421) rfl rfl rfl ?_
    refine x_i2l (pc' := 1422) rfl rfl rfl ?_
    refine x_lcmp (pc' := 1423) (z := 0) rfl rfl (sLcmp_s _) ?_
    refine x_if (a' := 1428) (pc' := 1426) (z := true) rfl rfl rfl (by decide) (fun _ => gof) (fun h => by cases h)
  · refine x_if (a' := 1428) (pc' := 1416) (z := true) rfl rfl rfl ((ic_ne (p := r.1) (q := 0) (by omega) (by decide)).trans (decide_eq_true h0)) (fun _ => gof) (fun h => by cases h)
theorem lc_15 (hd : Hd t M n T Ls A B xs L) (hv : Hv M n e) (he : e ≤ 599) (hi : i + 7 ≤ L) (hL : L ≤ 3584) (hk : ((xs i) &&& 63) = 15)
    (q : ∀ t' T' Ls' (y5 y6 : sV), Hd t' (sp99 M n T (xs (i + 1))).2.2.1 (sp99 M n T (xs (i + 1))).2.2.2 T' Ls' (A + 2) (B + 12) xs L → Hv (sp99 M n T (xs (i + 1))).2.2.1 (sp99 M n T (xs (i + 1))).2.2.2 (e + 1) → X 297 23 [.inr (.inr (29, (some 0))), .inr (.inr (11, (some 0))), .inr (.inr (12, (some 0))), .inr (.inr (23, (some 0))), .inl (io (i + 7)), y5, y6] [] t' Q) :
    X 297 23 [.inr (.inr (29, (some 0))), .inr (.inr (11, (some 0))), .inr (.inr (12, (some 0))), .inr (.inr (23, (some 0))), .inl (io i), y0, y1] [] t Q := by
  have hTT := Hv_T hv
  have hTN : tN M = T := W_tN hd.1
  rw [hTN] at hTT
  have hI : mI M 801 = io T := hTT.2.2
  have hT4 : T < 4096 := by omega
  have hTi : Ti M T := hd.1.2.1.2.2.2.2.2.1
  obtain ⟨j1, j2⟩ : (sp99 M n T (xs (i + 1))).1 ≤ 2 ∧ mI (sp99 M n T (xs (i + 1))).2.2.1 768 = io (sp99 M n T (xs (i + 1))).1 := J99
  have hr : Hv (sp99 M n T (xs (i + 1))).2.2.1 (sp99 M n T (xs (i + 1))).2.2.2 (e + 1) := H99 hv he hTN hTi
  have HN : ∀ {t1 : sT}, lw t1 t → sN t1 29 0 = L := fun h => (congrFun h.2.1 0).trans hd.2.2.2.2
  have HA : ∀ {t1 : sT}, lw t1 t → ∀ p, sA t1 29 0 p = xs p := fun h p => (congrFun (congrFun h.1 0) p).trans (hd.2.2.2.1 p)
  have l0 : lw t t := ⟨rfl, rfl, rfl⟩
  refine hd_40 hd hi hL ?_
  refine x_switch (pc' := 1431) rfl (by rw [hk]; decide) ?_
  refine x_aload_n (pc' := 1432) rfl rfl rfl rfl rfl ?_
  refine x_aload_n (pc' := 1433) rfl rfl rfl rfl rfl ?_
  refine x_iload (pc' := 1435) rfl rfl rfl ?_
  refine x_iconst (pc' := 1436) rfl rfl ?_
  refine x_iadd (pc' := 1437) (z := io (i + 1)) rfl rfl (io_add i 1) ?_
  refine x_iald (pc' := 1438) (N := L) (x := xs (i + 1)) rfl rfl rfl (HN l0) (io_in (p := i + 1) (N := L) (by omega) (by omega)) (Eq.trans (congrArg (sA t 29 0) (nn_io (p := i + 1) (by omega))) (HA l0 _)) ?_
  refine x_aload_n (pc' := 1439) rfl rfl rfl rfl rfl ?_
  refine x_cs (ls0 := [_, _, _, sJk]) (rest := []) rfl rfl rfl rfl ?_
  refine wr_274 (r := (sp99 M n T (xs (i + 1)))) (w := 0) j1 hd.2.2.1 (fun Q' h => C99 hd.1 h) (fun t1 T1 L1 W1 l1 z1 o1 => ?_)
  refine sK_i (pc' := 1442) rfl ?_
  refine x_istore (pc' := 1444) (ls' := [_, _, _, _, _, _, _]) rfl rfl rfl rfl ?_
  have hV : Vr t1 M n := ⟨l1.2.2.trans hd.2.1, W1.2.1.1, hd.1.2.2.1⟩
  refine x_aload_n (pc' := 1445) rfl rfl rfl rfl rfl ?_
  refine x_aload_n (pc' := 1446) rfl rfl rfl rfl rfl ?_
  refine x_iload (pc' := 1448) rfl rfl rfl ?_
  refine x_iconst (pc' := 1449) rfl rfl ?_
  refine x_iadd (pc' := 1450) (z := io (i + 1)) rfl rfl (io_add i 1) ?_
  refine x_iald (pc' := 1451) (N := L) (x := xs (i + 1)) rfl rfl rfl (HN l1) (io_in (p := i + 1) (N := L) (by omega) (by omega)) (Eq.trans (congrArg (sA t1 29 0) (nn_io (p := i + 1) (by omega))) (HA l1 _)) ?_
  refine x_cv (ls0 := [_, _, sJk, sJk]) (rest := []) rfl rfl rfl rfl rfl ?_
  refine R211 hV hI hT4 hTi (fun t2 h2 c2 => ?_)
  refine sK_i (pc' := 1454) rfl ?_
  refine x_istore (pc' := 1456) (ls' := [_, _, _, _, _, _, _]) rfl rfl rfl rfl ?_
  have W2 : Wc t2 (sp99 M n T (xs (i + 1))).2.2.1 (sp99 M n T (xs (i + 1))).2.2.2 T1 L1 (A + 2) (B + 12) := W_cp c2 W1
  have HN2 : sN t2 29 0 = L := (congrFun (congrFun (cpN c2) 29) 0).trans (HN l1)
  have HA2 : ∀ p, sA t2 29 0 p = xs p := fun p => (cpA c2 rfl).trans (HA l1 p)
  have HD2 := (⟨W2, h2, Zr_cp c2 z1, HA2, HN2⟩ : Hd t2 (sp99 M n T (xs (i + 1))).2.2.1 (sp99 M n T (xs (i + 1))).2.2.2 T1 L1 (A + 2) (B + 12) xs L)
  have q2 := fun y5 y6 => q t2 T1 L1 y5 y6 HD2 hr
  have hout : (sp99 M n T (xs (i + 1))).1 = 0 → sL t2 23 0 0 = (sp99 M n T (xs (i + 1))).2.1.toInt64 := fun h => (congrFun (congrFun (congrFun (cpL c2) 23) 0) 0).trans (o1 h)
  have hc2 : Cn t2 := W2.2.1.1
  clear q HD2 hr W2 W1 o1
  generalize (sp99 M n T (xs (i + 1))) = r at *
  have fin : X 297 2938 [.inr (.inr (29, (some 0))), .inr (.inr (11, (some 0))), .inr (.inr (12, (some 0))), .inr (.inr (23, (some 0))), .inl (io i), .inl (io r.1), .inl r.2.1] [] t2 Q := by
    refine x_iinc (pc' := 2941) (y := io (i + 7)) (ls' := [_, _, _, _, _, _, _]) rfl rfl rfl (io_add i 7) rfl ?_
    refine x_goto (pc' := 23) rfl rfl ?_
    exact q2 _ _
  refine x_aload_n (pc' := 1457) rfl rfl rfl rfl rfl ?_
  refine x_cv (ls0 := [_]) (rest := []) rfl rfl rfl rfl rfl ?_
  refine x_aload_n (pc' := 1) rfl rfl rfl rfl rfl ?_
  refine x_gI (pc' := 4) (x := io r.1) rfl rfl rfl ((gI h2 rfl).trans j2) ?_
  refine x_reti rfl rfl ?_
  refine sK_i (pc' := 1460) rfl ?_
  refine x_iload (pc' := 1462) rfl rfl rfl ?_
  refine x_icmp (a' := 1467) (pc' := 1465) (z := true) rfl rfl rfl (show decide (io r.1 = io r.1) = true from decide_eq_true rfl) (fun _ => ?_) (fun h => by cases h)
  refine x_iload (pc' := 1469) rfl rfl rfl ?_
  have gof : X 297 1484 [.inr (.inr (29, (some 0))), .inr (.inr (11, (some 0))), .inr (.inr (12, (some 0))), .inr (.inr (23, (some 0))), .inl (io i), .inl (io r.1), .inl r.2.1] [] t2 Q := by
    refine x_goto (pc' := 2938) rfl rfl ?_
    exact fin
  by_cases h0 : r.1 = 0
  · refine x_if (a' := 1484) (pc' := 1472) (z := false) rfl rfl rfl (by rw [h0]; rfl) (fun h => by cases h) (fun _ => ?_)
    refine x_aload_n (pc' := 1473) rfl rfl rfl rfl rfl ?_
    refine x_iconst (pc' := 1474) rfl rfl ?_
    refine x_lald (pc' := 1475) (N := 1) (x := r.2.1.toInt64) rfl rfl (kN_23_0 hc2) (by decide) (hout h0) ?_
    refine x_iload (pc' := 1477) rfl rfl rfl ?_
    refine x_i2l (pc' := 1478) rfl rfl rfl ?_
    refine x_lcmp (pc' := 1479) (z := 0) rfl rfl (sLcmp_s _) ?_
    refine x_if (a' := 1484) (pc' := 1482) (z := true) rfl rfl rfl (by decide) (fun _ => gof) (fun h => by cases h)
  · refine x_if (a' := 1484) (pc' := 1472) (z := true) rfl rfl rfl ((ic_ne (p := r.1) (q := 0) (by omega) (by decide)).trans (decide_eq_true h0)) (fun _ => gof) (fun h => by cases h)
theorem lc_16 (hd : Hd t M n T Ls A B xs L) (hv : Hv M n e) (he : e ≤ 599) (hi : i + 7 ≤ L) (hL : L ≤ 3584) (hk : ((xs i) &&& 63) = 16)
    (q : ∀ t' T' Ls' (y5 y6 : sV), Hd t' (sp100 M n (xs (i + 1)) (xs (i + 2))).2.2.1 (sp100 M n (xs (i + 1)) (xs (i + 2))).2.2.2 T' Ls' (A + 2) (B + 12) xs L → Hv (sp100 M n (xs (i + 1)) (xs (i + 2))).2.2.1 (sp100 M n (xs (i + 1)) (xs (i + 2))).2.2.2 (e + 1) → X 297 23 [.inr (.inr (29, (some 0))), .inr (.inr (11, (some 0))), .inr (.inr (12, (some 0))), .inr (.inr (23, (some 0))), .inl (io (i + 7)), y5, y6] [] t' Q) :
    X 297 23 [.inr (.inr (29, (some 0))), .inr (.inr (11, (some 0))), .inr (.inr (12, (some 0))), .inr (.inr (23, (some 0))), .inl (io i), y0, y1] [] t Q := by
  have hTT := Hv_T hv
  have hTN : tN M = T := W_tN hd.1
  rw [hTN] at hTT
  have hI : mI M 801 = io T := hTT.2.2
  have hT4 : T < 4096 := by omega
  obtain ⟨j1, j2⟩ : (sp100 M n (xs (i + 1)) (xs (i + 2))).1 ≤ 3 ∧ mI (sp100 M n (xs (i + 1)) (xs (i + 2))).2.2.1 768 = io (sp100 M n (xs (i + 1)) (xs (i + 2))).1 := J100
  have hr : Hv (sp100 M n (xs (i + 1)) (xs (i + 2))).2.2.1 (sp100 M n (xs (i + 1)) (xs (i + 2))).2.2.2 (e + 1) := Hv_e (H100 hv)
  have HN : ∀ {t1 : sT}, lw t1 t → sN t1 29 0 = L := fun h => (congrFun h.2.1 0).trans hd.2.2.2.2
  have HA : ∀ {t1 : sT}, lw t1 t → ∀ p, sA t1 29 0 p = xs p := fun h p => (congrFun (congrFun h.1 0) p).trans (hd.2.2.2.1 p)
  have l0 : lw t t := ⟨rfl, rfl, rfl⟩
  refine hd_40 hd hi hL ?_
  refine x_switch (pc' := 1487) rfl (by rw [hk]; decide) ?_
  refine x_aload_n (pc' := 1488) rfl rfl rfl rfl rfl ?_
  refine x_aload_n (pc' := 1489) rfl rfl rfl rfl rfl ?_
  refine x_iload (pc' := 1491) rfl rfl rfl ?_
  refine x_iconst (pc' := 1492) rfl rfl ?_
  refine x_iadd (pc' := 1493) (z := io (i + 1)) rfl rfl (io_add i 1) ?_
  refine x_iald (pc' := 1494) (N := L) (x := xs (i + 1)) rfl rfl rfl (HN l0) (io_in (p := i + 1) (N := L) (by omega) (by omega)) (Eq.trans (congrArg (sA t 29 0) (nn_io (p := i + 1) (by omega))) (HA l0 _)) ?_
  refine x_aload_n (pc' := 1495) rfl rfl rfl rfl rfl ?_
  refine x_iload (pc' := 1497) rfl rfl rfl ?_
  refine x_iconst (pc' := 1498) rfl rfl ?_
  refine x_iadd (pc' := 1499) (z := io (i + 2)) rfl rfl (io_add i 2) ?_
  refine x_iald (pc' := 1500) (N := L) (x := xs (i + 2)) rfl rfl rfl (HN l0) (io_in (p := i + 2) (N := L) (by omega) (by omega)) (Eq.trans (congrArg (sA t 29 0) (nn_io (p := i + 2) (by omega))) (HA l0 _)) ?_
  refine x_aload_n (pc' := 1501) rfl rfl rfl rfl rfl ?_
  refine x_cs (ls0 := [_, _, _, _, sJk]) (rest := []) rfl rfl rfl rfl ?_
  refine wr_275 (r := (sp100 M n (xs (i + 1)) (xs (i + 2)))) (w := 0) j1 hd.2.2.1 (fun Q' h => C100 hd.1 h) (fun t1 T1 L1 W1 l1 z1 o1 => ?_)
  refine sK_i (pc' := 1504) rfl ?_
  refine x_istore (pc' := 1506) (ls' := [_, _, _, _, _, _, _]) rfl rfl rfl rfl ?_
  have hV : Vr t1 M n := ⟨l1.2.2.trans hd.2.1, W1.2.1.1, hd.1.2.2.1⟩
  refine x_aload_n (pc' := 1507) rfl rfl rfl rfl rfl ?_
  refine x_aload_n (pc' := 1508) rfl rfl rfl rfl rfl ?_
  refine x_iload (pc' := 1510) rfl rfl rfl ?_
  refine x_iconst (pc' := 1511) rfl rfl ?_
  refine x_iadd (pc' := 1512) (z := io (i + 1)) rfl rfl (io_add i 1) ?_
  refine x_iald (pc' := 1513) (N := L) (x := xs (i + 1)) rfl rfl rfl (HN l1) (io_in (p := i + 1) (N := L) (by omega) (by omega)) (Eq.trans (congrArg (sA t1 29 0) (nn_io (p := i + 1) (by omega))) (HA l1 _)) ?_
  refine x_aload_n (pc' := 1514) rfl rfl rfl rfl rfl ?_
  refine x_iload (pc' := 1516) rfl rfl rfl ?_
  refine x_iconst (pc' := 1517) rfl rfl ?_
  refine x_iadd (pc' := 1518) (z := io (i + 2)) rfl rfl (io_add i 2) ?_
  refine x_iald (pc' := 1519) (N := L) (x := xs (i + 2)) rfl rfl rfl (HN l1) (io_in (p := i + 2) (N := L) (by omega) (by omega)) (Eq.trans (congrArg (sA t1 29 0) (nn_io (p := i + 2) (by omega))) (HA l1 _)) ?_
  refine x_cv (ls0 := [_, _, _, sJk, sJk, sJk]) (rest := []) rfl rfl rfl rfl rfl ?_
  refine R212 hV (fun t2 h2 c2 => ?_)
  refine sK_i (pc' := 1522) rfl ?_
  refine x_istore (pc' := 1524) (ls' := [_, _, _, _, _, _, _]) rfl rfl rfl rfl ?_
  have W2 : Wc t2 (sp100 M n (xs (i + 1)) (xs (i + 2))).2.2.1 (sp100 M n (xs (i + 1)) (xs (i + 2))).2.2.2 T1 L1 (A + 2) (B + 12) := W_cp c2 W1
  have HN2 : sN t2 29 0 = L := (congrFun (congrFun (cpN c2) 29) 0).trans (HN l1)
  have HA2 : ∀ p, sA t2 29 0 p = xs p := fun p => (cpA c2 rfl).trans (HA l1 p)
  have HD2 := (⟨W2, h2, Zr_cp c2 z1, HA2, HN2⟩ : Hd t2 (sp100 M n (xs (i + 1)) (xs (i + 2))).2.2.1 (sp100 M n (xs (i + 1)) (xs (i + 2))).2.2.2 T1 L1 (A + 2) (B + 12) xs L)
  have q2 := fun y5 y6 => q t2 T1 L1 y5 y6 HD2 hr
  have hout : (sp100 M n (xs (i + 1)) (xs (i + 2))).1 = 0 → sL t2 23 0 0 = (sp100 M n (xs (i + 1)) (xs (i + 2))).2.1.toInt64 := fun h => (congrFun (congrFun (congrFun (cpL c2) 23) 0) 0).trans (o1 h)
  have hc2 : Cn t2 := W2.2.1.1
  clear q HD2 hr W2 W1 o1
  generalize (sp100 M n (xs (i + 1)) (xs (i + 2))) = r at *
  have fin : X 297 2938 [.inr (.inr (29, (some 0))), .inr (.inr (11, (some 0))), .inr (.inr (12, (some 0))), .inr (.inr (23, (some 0))), .inl (io i), .inl (io r.1), .inl r.2.1] [] t2 Q := by
    refine x_iinc (pc' := 2941) (y := io (i + 7)) (ls' := [_, _, _, _, _, _, _]) rfl rfl rfl (io_add i 7) rfl ?_
    refine x_goto (pc' := 23) rfl rfl ?_
    exact q2 _ _
  refine x_aload_n (pc' := 1525) rfl rfl rfl rfl rfl ?_
  refine x_cv (ls0 := [_]) (rest := []) rfl rfl rfl rfl rfl ?_
  refine x_aload_n (pc' := 1) rfl rfl rfl rfl rfl ?_
  refine x_gI (pc' := 4) (x := io r.1) rfl rfl rfl ((gI h2 rfl).trans j2) ?_
  refine x_reti rfl rfl ?_
  refine sK_i (pc' := 1528) rfl ?_
  refine x_iload (pc' := 1530) rfl rfl rfl ?_
  refine x_icmp (a' := 1535) (pc' := 1533) (z := true) rfl rfl rfl (show decide (io r.1 = io r.1) = true from decide_eq_true rfl) (fun _ => ?_) (fun h => by cases h)
  refine x_iload (pc' := 1537) rfl rfl rfl ?_
  have gof : X 297 1552 [.inr (.inr (29, (some 0))), .inr (.inr (11, (some 0))), .inr (.inr (12, (some 0))), .inr (.inr (23, (some 0))), .inl (io i), .inl (io r.1), .inl r.2.1] [] t2 Q := by
    refine x_goto (pc' := 2938) rfl rfl ?_
    exact fin
  by_cases h0 : r.1 = 0
  · refine x_if (a' := 1552) (pc' := 1540) (z := false) rfl rfl rfl (by rw [h0]; rfl) (fun h => by cases h) (fun _ => ?_)
    refine x_aload_n (pc' := 1541) rfl rfl rfl rfl rfl ?_
    refine x_iconst (pc' := 1542) rfl rfl ?_
    refine x_lald (pc' := 1543) (N := 1) (x := r.2.1.toInt64) rfl rfl (kN_23_0 hc2) (by decide) (hout h0) ?_
    refine x_iload (pc' := 1545) rfl rfl rfl ?_
    refine x_i2l (pc' := 1546) rfl rfl rfl ?_
    refine x_lcmp (pc' := 1547) (z := 0) rfl rfl (sLcmp_s _) ?_
    refine x_if (a' := 1552) (pc' := 1550) (z := true) rfl rfl rfl (by decide) (fun _ => gof) (fun h => by cases h)
  · refine x_if (a' := 1552) (pc' := 1540) (z := true) rfl rfl rfl ((ic_ne (p := r.1) (q := 0) (by omega) (by decide)).trans (decide_eq_true h0)) (fun _ => gof) (fun h => by cases h)
theorem lc_17 (hd : Hd t M n T Ls A B xs L) (hv : Hv M n e) (he : e ≤ 599) (hi : i + 7 ≤ L) (hL : L ≤ 3584) (hk : ((xs i) &&& 63) = 17)
    (q : ∀ t' T' Ls' (y5 y6 : sV), Hd t' (sp101 M n (xs (i + 1))).2.2.1 (sp101 M n (xs (i + 1))).2.2.2 T' Ls' (A + 2) (B + 12) xs L → Hv (sp101 M n (xs (i + 1))).2.2.1 (sp101 M n (xs (i + 1))).2.2.2 (e + 1) → X 297 23 [.inr (.inr (29, (some 0))), .inr (.inr (11, (some 0))), .inr (.inr (12, (some 0))), .inr (.inr (23, (some 0))), .inl (io (i + 7)), y5, y6] [] t' Q) :
    X 297 23 [.inr (.inr (29, (some 0))), .inr (.inr (11, (some 0))), .inr (.inr (12, (some 0))), .inr (.inr (23, (some 0))), .inl (io i), y0, y1] [] t Q := by
  have hTT := Hv_T hv
  have hTN : tN M = T := W_tN hd.1
  rw [hTN] at hTT
  have hI : mI M 801 = io T := hTT.2.2
  have hT4 : T < 4096 := by omega
  have hT2 : T + 19 < 4096 := by omega
  have hF : ∀ m, m < 6 → mB M 2 m = false → Fo (waF_ (m0 M) n m) n m := fun m hm _ => Hv_Fo hv (by omega) hm
  obtain ⟨j1, j2⟩ : (sp101 M n (xs (i + 1))).1 ≤ 2 ∧ mI (sp101 M n (xs (i + 1))).2.2.1 768 = io (sp101 M n (xs (i + 1))).1 := J101
  have hr : Hv (sp101 M n (xs (i + 1))).2.2.1 (sp101 M n (xs (i + 1))).2.2.2 (e + 1) := Hv_e (H101 hv (by omega))
  have HN : ∀ {t1 : sT}, lw t1 t → sN t1 29 0 = L := fun h => (congrFun h.2.1 0).trans hd.2.2.2.2
  have HA : ∀ {t1 : sT}, lw t1 t → ∀ p, sA t1 29 0 p = xs p := fun h p => (congrFun (congrFun h.1 0) p).trans (hd.2.2.2.1 p)
  have l0 : lw t t := ⟨rfl, rfl, rfl⟩
  refine hd_40 hd hi hL ?_
  refine x_switch (pc' := 1555) rfl (by rw [hk]; decide) ?_
  refine x_aload_n (pc' := 1556) rfl rfl rfl rfl rfl ?_
  refine x_aload_n (pc' := 1557) rfl rfl rfl rfl rfl ?_
  refine x_iload (pc' := 1559) rfl rfl rfl ?_
  refine x_iconst (pc' := 1560) rfl rfl ?_
  refine x_iadd (pc' := 1561) (z := io (i + 1)) rfl rfl (io_add i 1) ?_
  refine x_iald (pc' := 1562) (N := L) (x := xs (i + 1)) rfl rfl rfl (HN l0) (io_in (p := i + 1) (N := L) (by omega) (by omega)) (Eq.trans (congrArg (sA t 29 0) (nn_io (p := i + 1) (by omega))) (HA l0 _)) ?_
  refine x_aload_n (pc' := 1563) rfl rfl rfl rfl rfl ?_
  refine x_cs (ls0 := [_, _, _, sJk]) (rest := []) rfl rfl rfl rfl ?_
  refine wr_276 (r := (sp101 M n (xs (i + 1)))) (w := 18) j1 hd.2.2.1 (fun Q' h => C101 hd.1 hF hT2 h) (fun t1 T1 L1 W1 l1 z1 o1 => ?_)
  refine sK_i (pc' := 1566) rfl ?_
  refine x_istore (pc' := 1568) (ls' := [_, _, _, _, _, _, _]) rfl rfl rfl rfl ?_
  have hV : Vr t1 M n := ⟨l1.2.2.trans hd.2.1, W1.2.1.1, hd.1.2.2.1⟩
  refine x_aload_n (pc' := 1569) rfl rfl rfl rfl rfl ?_
  refine x_aload_n (pc' := 1570) rfl rfl rfl rfl rfl ?_
  refine x_iload (pc' := 1572) rfl rfl rfl ?_
  refine x_iconst (pc' := 1573) rfl rfl ?_
  refine x_iadd (pc' := 1574) (z := io (i + 1)) rfl rfl (io_add i 1) ?_
  refine x_iald (pc' := 1575) (N := L) (x := xs (i + 1)) rfl rfl rfl (HN l1) (io_in (p := i + 1) (N := L) (by omega) (by omega)) (Eq.trans (congrArg (sA t1 29 0) (nn_io (p := i + 1) (by omega))) (HA l1 _)) ?_
  refine x_cv (ls0 := [_, _, sJk, sJk, sJk, sJk]) (rest := []) rfl rfl rfl rfl rfl ?_
  refine R219 hV hF hI hT2 (fun t2 h2 c2 => ?_)
  refine sK_i (pc' := 1578) rfl ?_
  refine x_istore (pc' := 1580) (ls' := [_, _, _, _, _, _, _]) rfl rfl rfl rfl ?_
  have W2 : Wc t2 (sp101 M n (xs (i + 1))).2.2.1 (sp101 M n (xs (i + 1))).2.2.2 T1 L1 (A + 2) (B + 12) := W_cp c2 W1
  have HN2 : sN t2 29 0 = L := (congrFun (congrFun (cpN c2) 29) 0).trans (HN l1)
  have HA2 : ∀ p, sA t2 29 0 p = xs p := fun p => (cpA c2 rfl).trans (HA l1 p)
  have HD2 := (⟨W2, h2, Zr_cp c2 z1, HA2, HN2⟩ : Hd t2 (sp101 M n (xs (i + 1))).2.2.1 (sp101 M n (xs (i + 1))).2.2.2 T1 L1 (A + 2) (B + 12) xs L)
  have q2 := fun y5 y6 => q t2 T1 L1 y5 y6 HD2 hr
  have hout : (sp101 M n (xs (i + 1))).1 = 0 → sL t2 23 0 0 = (sp101 M n (xs (i + 1))).2.1.toInt64 := fun h => (congrFun (congrFun (congrFun (cpL c2) 23) 0) 0).trans (o1 h)
  have hc2 : Cn t2 := W2.2.1.1
  clear q HD2 hr W2 W1 o1
  generalize (sp101 M n (xs (i + 1))) = r at *
  have fin : X 297 2938 [.inr (.inr (29, (some 0))), .inr (.inr (11, (some 0))), .inr (.inr (12, (some 0))), .inr (.inr (23, (some 0))), .inl (io i), .inl (io r.1), .inl r.2.1] [] t2 Q := by
    refine x_iinc (pc' := 2941) (y := io (i + 7)) (ls' := [_, _, _, _, _, _, _]) rfl rfl rfl (io_add i 7) rfl ?_
    refine x_goto (pc' := 23) rfl rfl ?_
    exact q2 _ _
  refine x_aload_n (pc' := 1581) rfl rfl rfl rfl rfl ?_
  refine x_cv (ls0 := [_]) (rest := []) rfl rfl rfl rfl rfl ?_
  refine x_aload_n (pc' := 1) rfl rfl rfl rfl rfl ?_
  refine x_gI (pc' := 4) (x := io r.1) rfl rfl rfl ((gI h2 rfl).trans j2) ?_
  refine x_reti rfl rfl ?_
  refine sK_i (pc' := 1584) rfl ?_
  refine x_iload (pc' := 1586) rfl rfl rfl ?_
  refine x_icmp (a' := 1591) (pc' := 1589) (z := true) rfl rfl rfl (show decide (io r.1 = io r.1) = true from decide_eq_true rfl) (fun _ => ?_) (fun h => by cases h)
  refine x_iload (pc' := 1593) rfl rfl rfl ?_
  have gof : X 297 1608 [.inr (.inr (29, (some 0))), .inr (.inr (11, (some 0))), .inr (.inr (12, (some 0))), .inr (.inr (23, (some 0))), .inl (io i), .inl (io r.1), .inl r.2.1] [] t2 Q := by
    refine x_goto (pc' := 2938) rfl rfl ?_
    exact fin
  by_cases h0 : r.1 = 0
  · refine x_if (a' := 1608) (pc' := 1596) (z := false) rfl rfl rfl (by rw [h0]; rfl) (fun h => by cases h) (fun _ => ?_)
    refine x_aload_n (pc' := 1597) rfl rfl rfl rfl rfl ?_
    refine x_iconst (pc' := 1598) rfl rfl ?_
    refine x_lald (pc' := 1599) (N := 1) (x := r.2.1.toInt64) rfl rfl (kN_23_0 hc2) (by decide) (hout h0) ?_
    refine x_iload (pc' := 1601) rfl rfl rfl ?_
    refine x_i2l (pc' := 1602) rfl rfl rfl ?_
    refine x_lcmp (pc' := 1603) (z := 0) rfl rfl (sLcmp_s _) ?_
    refine x_if (a' := 1608) (pc' := 1606) (z := true) rfl rfl rfl (by decide) (fun _ => gof) (fun h => by cases h)
  · refine x_if (a' := 1608) (pc' := 1596) (z := true) rfl rfl rfl ((ic_ne (p := r.1) (q := 0) (by omega) (by decide)).trans (decide_eq_true h0)) (fun _ => gof) (fun h => by cases h)
theorem lc_18 (hd : Hd t M n T Ls A B xs L) (hv : Hv M n e) (he : e ≤ 599) (hi : i + 7 ≤ L) (hL : L ≤ 3584) (hk : ((xs i) &&& 63) = 18)
    (q : ∀ t' T' Ls' (y5 y6 : sV), Hd t' (sp102 M n (xs (i + 1))).2.2.1 (sp102 M n (xs (i + 1))).2.2.2 T' Ls' (A + 2) (B + 12) xs L → Hv (sp102 M n (xs (i + 1))).2.2.1 (sp102 M n (xs (i + 1))).2.2.2 (e + 1) → X 297 23 [.inr (.inr (29, (some 0))), .inr (.inr (11, (some 0))), .inr (.inr (12, (some 0))), .inr (.inr (23, (some 0))), .inl (io (i + 7)), y5, y6] [] t' Q) :
    X 297 23 [.inr (.inr (29, (some 0))), .inr (.inr (11, (some 0))), .inr (.inr (12, (some 0))), .inr (.inr (23, (some 0))), .inl (io i), y0, y1] [] t Q := by
  have hTT := Hv_T hv
  have hTN : tN M = T := W_tN hd.1
  rw [hTN] at hTT
  have hI : mI M 801 = io T := hTT.2.2
  have hT4 : T < 4096 := by omega
  obtain ⟨j1, j2⟩ : (sp102 M n (xs (i + 1))).1 ≤ 1 ∧ mI (sp102 M n (xs (i + 1))).2.2.1 768 = io (sp102 M n (xs (i + 1))).1 := J102
  have hr : Hv (sp102 M n (xs (i + 1))).2.2.1 (sp102 M n (xs (i + 1))).2.2.2 (e + 1) := Hv_e (H102 hv)
  have HN : ∀ {t1 : sT}, lw t1 t → sN t1 29 0 = L := fun h => (congrFun h.2.1 0).trans hd.2.2.2.2
  have HA : ∀ {t1 : sT}, lw t1 t → ∀ p, sA t1 29 0 p = xs p := fun h p => (congrFun (congrFun h.1 0) p).trans (hd.2.2.2.1 p)
  have l0 : lw t t := ⟨rfl, rfl, rfl⟩
  refine hd_40 hd hi hL ?_
  refine x_switch (pc' := 1611) rfl (by rw [hk]; decide) ?_
  refine x_aload_n (pc' := 1612) rfl rfl rfl rfl rfl ?_
  refine x_aload_n (pc' := 1613) rfl rfl rfl rfl rfl ?_
  refine x_iload (pc' := 1615) rfl rfl rfl ?_
  refine x_iconst (pc' := 1616) rfl rfl ?_
  refine x_iadd (pc' := 1617) (z := io (i + 1)) rfl rfl (io_add i 1) ?_
  refine x_iald (pc' := 1618) (N := L) (x := xs (i + 1)) rfl rfl rfl (HN l0) (io_in (p := i + 1) (N := L) (by omega) (by omega)) (Eq.trans (congrArg (sA t 29 0) (nn_io (p := i + 1) (by omega))) (HA l0 _)) ?_
  refine x_aload_n (pc' := 1619) rfl rfl rfl rfl rfl ?_
  refine x_cs (ls0 := [_, _, _, sJk]) (rest := []) rfl rfl rfl rfl ?_
  refine wr_277 (r := (sp102 M n (xs (i + 1)))) (w := 0) j1 hd.2.2.1 (fun Q' h => C102 hd.1 h) (fun t1 T1 L1 W1 l1 z1 o1 => ?_)
  refine sK_i (pc' := 1622) rfl ?_
  refine x_istore (pc' := 1624) (ls' := [_, _, _, _, _, _, _]) rfl rfl rfl rfl ?_
  have hV : Vr t1 M n := ⟨l1.2.2.trans hd.2.1, W1.2.1.1, hd.1.2.2.1⟩
  refine x_aload_n (pc' := 1625) rfl rfl rfl rfl rfl ?_
  refine x_aload_n (pc' := 1626) rfl rfl rfl rfl rfl ?_
  refine x_iload (pc' := 1628) rfl rfl rfl ?_
  refine x_iconst (pc' := 1629) rfl rfl ?_
  refine x_iadd (pc' := 1630) (z := io (i + 1)) rfl rfl (io_add i 1) ?_
  refine x_iald (pc' := 1631) (N := L) (x := xs (i + 1)) rfl rfl rfl (HN l1) (io_in (p := i + 1) (N := L) (by omega) (by omega)) (Eq.trans (congrArg (sA t1 29 0) (nn_io (p := i + 1) (by omega))) (HA l1 _)) ?_
  refine x_cv (ls0 := [_, _]) (rest := []) rfl rfl rfl rfl rfl ?_
  refine R220 hV (fun t2 h2 c2 => ?_)
  refine sK_i (pc' := 1634) rfl ?_
  refine x_istore (pc' := 1636) (ls' := [_, _, _, _, _, _, _]) rfl rfl rfl rfl ?_
  have W2 : Wc t2 (sp102 M n (xs (i + 1))).2.2.1 (sp102 M n (xs (i + 1))).2.2.2 T1 L1 (A + 2) (B + 12) := W_cp c2 W1
  have HN2 : sN t2 29 0 = L := (congrFun (congrFun (cpN c2) 29) 0).trans (HN l1)
  have HA2 : ∀ p, sA t2 29 0 p = xs p := fun p => (cpA c2 rfl).trans (HA l1 p)
  have HD2 := (⟨W2, h2, Zr_cp c2 z1, HA2, HN2⟩ : Hd t2 (sp102 M n (xs (i + 1))).2.2.1 (sp102 M n (xs (i + 1))).2.2.2 T1 L1 (A + 2) (B + 12) xs L)
  have q2 := fun y5 y6 => q t2 T1 L1 y5 y6 HD2 hr
  have hout : (sp102 M n (xs (i + 1))).1 = 0 → sL t2 23 0 0 = (sp102 M n (xs (i + 1))).2.1.toInt64 := fun h => (congrFun (congrFun (congrFun (cpL c2) 23) 0) 0).trans (o1 h)
  have hc2 : Cn t2 := W2.2.1.1
  clear q HD2 hr W2 W1 o1
  generalize (sp102 M n (xs (i + 1))) = r at *
  have fin : X 297 2938 [.inr (.inr (29, (some 0))), .inr (.inr (11, (some 0))), .inr (.inr (12, (some 0))), .inr (.inr (23, (some 0))), .inl (io i), .inl (io r.1), .inl r.2.1] [] t2 Q := by
    refine x_iinc (pc' := 2941) (y := io (i + 7)) (ls' := [_, _, _, _, _, _, _]) rfl rfl rfl (io_add i 7) rfl ?_
    refine x_goto (pc' := 23) rfl rfl ?_
    exact q2 _ _
  refine x_aload_n (pc' := 1637) rfl rfl rfl rfl rfl ?_
  refine x_cv (ls0 := [_]) (rest := []) rfl rfl rfl rfl rfl ?_
  refine x_aload_n (pc' := 1) rfl rfl rfl rfl rfl ?_
  refine x_gI (pc' := 4) (x := io r.1) rfl rfl rfl ((gI h2 rfl).trans j2) ?_
  refine x_reti rfl rfl ?_
  refine sK_i (pc' := 1640) rfl ?_
  refine x_iload (pc' := 1642) rfl rfl rfl ?_
  refine x_icmp (a' := 1647) (pc' := 1645) (z := true) rfl rfl rfl (show decide (io r.1 = io r.1) = true from decide_eq_true rfl) (fun _ => ?_) (fun h => by cases h)
  refine x_iload (pc' := 1649) rfl rfl rfl ?_
  have gof : X 297 1664 [.inr (.inr (29, (some 0))), .inr (.inr (11, (some 0))), .inr (.inr (12, (some 0))), .inr (.inr (23, (some 0))), .inl (io i), .inl (io r.1), .inl r.2.1] [] t2 Q := by
    refine x_goto (pc' := 2938) rfl rfl ?_
    exact fin
  by_cases h0 : r.1 = 0
  · refine x_if (a' := 1664) (pc' := 1652) (z := false) rfl rfl rfl (by rw [h0]; rfl) (fun h => by cases h) (fun _ => ?_)
    refine x_aload_n (pc' := 1653) rfl rfl rfl rfl rfl ?_
    refine x_iconst (pc' := 1654) rfl rfl ?_
    refine x_lald (pc' := 1655) (N := 1) (x := r.2.1.toInt64) rfl rfl (kN_23_0 hc2) (by decide) (hout h0) ?_
    refine x_iload (pc' := 1657) rfl rfl rfl ?_
    refine x_i2l (pc' := 1658) rfl rfl rfl ?_
    refine x_lcmp (pc' := 1659) (z := 0) rfl rfl (sLcmp_s _) ?_
    refine x_if (a' := 1664) (pc' := 1662) (z := true) rfl rfl rfl (by decide) (fun _ => gof) (fun h => by cases h)
  · refine x_if (a' := 1664) (pc' := 1652) (z := true) rfl rfl rfl ((ic_ne (p := r.1) (q := 0) (by omega) (by decide)).trans (decide_eq_true h0)) (fun _ => gof) (fun h => by cases h)
theorem lc_19 (hd : Hd t M n T Ls A B xs L) (hv : Hv M n e) (he : e ≤ 599) (hi : i + 7 ≤ L) (hL : L ≤ 3584) (hk : ((xs i) &&& 63) = 19)
    (q : ∀ t' T' Ls' (y5 y6 : sV), Hd t' (sp103 M n).2.2.1 (sp103 M n).2.2.2 T' Ls' (A + 2) (B + 12) xs L → Hv (sp103 M n).2.2.1 (sp103 M n).2.2.2 (e + 1) → X 297 23 [.inr (.inr (29, (some 0))), .inr (.inr (11, (some 0))), .inr (.inr (12, (some 0))), .inr (.inr (23, (some 0))), .inl (io (i + 7)), y5, y6] [] t' Q) :
    X 297 23 [.inr (.inr (29, (some 0))), .inr (.inr (11, (some 0))), .inr (.inr (12, (some 0))), .inr (.inr (23, (some 0))), .inl (io i), y0, y1] [] t Q := by
  have hTT := Hv_T hv
  have hTN : tN M = T := W_tN hd.1
  rw [hTN] at hTT
  have hI : mI M 801 = io T := hTT.2.2
  have hT4 : T < 4096 := by omega
  obtain ⟨j1, j2⟩ : (sp103 M n).1 ≤ 0 ∧ mI (sp103 M n).2.2.1 768 = io (sp103 M n).1 := J103
  have hr : Hv (sp103 M n).2.2.1 (sp103 M n).2.2.2 (e + 1) := Hv_e (H103 hv)
  have HN : ∀ {t1 : sT}, lw t1 t → sN t1 29 0 = L := fun h => (congrFun h.2.1 0).trans hd.2.2.2.2
  have HA : ∀ {t1 : sT}, lw t1 t → ∀ p, sA t1 29 0 p = xs p := fun h p => (congrFun (congrFun h.1 0) p).trans (hd.2.2.2.1 p)
  have l0 : lw t t := ⟨rfl, rfl, rfl⟩
  refine hd_40 hd hi hL ?_
  refine x_switch (pc' := 1667) rfl (by rw [hk]; decide) ?_
  refine x_aload_n (pc' := 1668) rfl rfl rfl rfl rfl ?_
  refine x_cv (ls0 := [_]) (rest := []) rfl rfl rfl rfl rfl ?_
  refine X_zr hd.2.2.1 (C103 hd.1 (fun t1 T1 L1 W1 e1 _ z1 => ?_))
  have l1 := lw_ep e1
  refine sK_i (pc' := 1671) rfl ?_
  refine x_aload_n (pc' := 1672) rfl rfl rfl rfl rfl ?_
  have hV : Vr t1 M n := ⟨l1.2.2.trans hd.2.1, W1.2.1.1, hd.1.2.2.1⟩
  refine x_cv (ls0 := [_]) (rest := [_]) rfl rfl rfl rfl rfl ?_
  refine R221 hV (fun t2 h2 c2 => ?_)
  refine sK_i (pc' := 1675) rfl ?_
  have W2 : Wc t2 (sp103 M n).2.2.1 (sp103 M n).2.2.2 T1 L1 (A + 2) (B + 12) := W_cp c2 W1
  have HN2 : sN t2 29 0 = L := (congrFun (congrFun (cpN c2) 29) 0).trans (HN l1)
  have HA2 : ∀ p, sA t2 29 0 p = xs p := fun p => (cpA c2 rfl).trans (HA l1 p)
  refine x_icmp (a' := 2938) (pc' := 1678) (z := true) rfl rfl rfl (decide_eq_true rfl) (fun _ => ?_) (fun h => by cases h)
  refine x_iinc (pc' := 2941) (y := io (i + 7)) (ls' := [_, _, _, _, _, _, _]) rfl rfl rfl (io_add i 7) rfl ?_
  refine x_goto (pc' := 23) rfl rfl ?_
  exact q t2 T1 L1 _ _ ⟨W2, h2, Zr_cp c2 z1, HA2, HN2⟩ hr
theorem lc_20 (hd : Hd t M n T Ls A B xs L) (hv : Hv M n e) (he : e ≤ 599) (hi : i + 7 ≤ L) (hL : L ≤ 3584) (hk : ((xs i) &&& 63) = 20)
    (q : ∀ t' T' Ls' (y5 y6 : sV), Hd t' (sp104 M n (xs (i + 1))).2.2.1 (sp104 M n (xs (i + 1))).2.2.2 T' Ls' (A + 2) (B + 12) xs L → Hv (sp104 M n (xs (i + 1))).2.2.1 (sp104 M n (xs (i + 1))).2.2.2 (e + 1) → X 297 23 [.inr (.inr (29, (some 0))), .inr (.inr (11, (some 0))), .inr (.inr (12, (some 0))), .inr (.inr (23, (some 0))), .inl (io (i + 7)), y5, y6] [] t' Q) :
    X 297 23 [.inr (.inr (29, (some 0))), .inr (.inr (11, (some 0))), .inr (.inr (12, (some 0))), .inr (.inr (23, (some 0))), .inl (io i), y0, y1] [] t Q := by
  have hTT := Hv_T hv
  have hTN : tN M = T := W_tN hd.1
  rw [hTN] at hTT
  have hI : mI M 801 = io T := hTT.2.2
  have hT4 : T < 4096 := by omega
  obtain ⟨j1, j2⟩ : (sp104 M n (xs (i + 1))).1 ≤ 1 ∧ mI (sp104 M n (xs (i + 1))).2.2.1 768 = io (sp104 M n (xs (i + 1))).1 := J104
  have hr : Hv (sp104 M n (xs (i + 1))).2.2.1 (sp104 M n (xs (i + 1))).2.2.2 (e + 1) := Hv_e (H104 hv)
  have HN : ∀ {t1 : sT}, lw t1 t → sN t1 29 0 = L := fun h => (congrFun h.2.1 0).trans hd.2.2.2.2
  have HA : ∀ {t1 : sT}, lw t1 t → ∀ p, sA t1 29 0 p = xs p := fun h p => (congrFun (congrFun h.1 0) p).trans (hd.2.2.2.1 p)
  have l0 : lw t t := ⟨rfl, rfl, rfl⟩
  refine hd_40 hd hi hL ?_
  refine x_switch (pc' := 1680) rfl (by rw [hk]; decide) ?_
  refine x_aload_n (pc' := 1681) rfl rfl rfl rfl rfl ?_
  refine x_aload_n (pc' := 1682) rfl rfl rfl rfl rfl ?_
  refine x_iload (pc' := 1684) rfl rfl rfl ?_
  refine x_iconst (pc' := 1685) rfl rfl ?_
  refine x_iadd (pc' := 1686) (z := io (i + 1)) rfl rfl (io_add i 1) ?_
  refine x_iald (pc' := 1687) (N := L) (x := xs (i + 1)) rfl rfl rfl (HN l0) (io_in (p := i + 1) (N := L) (by omega) (by omega)) (Eq.trans (congrArg (sA t 29 0) (nn_io (p := i + 1) (by omega))) (HA l0 _)) ?_
  refine x_aload_n (pc' := 1688) rfl rfl rfl rfl rfl ?_
  refine x_cs (ls0 := [_, _, _, sJk]) (rest := []) rfl rfl rfl rfl ?_
  refine wr_278 (r := (sp104 M n (xs (i + 1)))) (w := 0) j1 hd.2.2.1 (fun Q' h => C104 hd.1 h) (fun t1 T1 L1 W1 l1 z1 o1 => ?_)
  refine sK_i (pc' := 1691) rfl ?_
  refine x_istore (pc' := 1693) (ls' := [_, _, _, _, _, _, _]) rfl rfl rfl rfl ?_
  have hV : Vr t1 M n := ⟨l1.2.2.trans hd.2.1, W1.2.1.1, hd.1.2.2.1⟩
  refine x_aload_n (pc' := 1694) rfl rfl rfl rfl rfl ?_
  refine x_aload_n (pc' := 1695) rfl rfl rfl rfl rfl ?_
  refine x_iload (pc' := 1697) rfl rfl rfl ?_
  refine x_iconst (pc' := 1698) rfl rfl ?_
  refine x_iadd (pc' := 1699) (z := io (i + 1)) rfl rfl (io_add i 1) ?_
  refine x_iald (pc' := 1700) (N := L) (x := xs (i + 1)) rfl rfl rfl (HN l1) (io_in (p := i + 1) (N := L) (by omega) (by omega)) (Eq.trans (congrArg (sA t1 29 0) (nn_io (p := i + 1) (by omega))) (HA l1 _)) ?_
  refine x_cv (ls0 := [_, _]) (rest := []) rfl rfl rfl rfl rfl ?_
  refine R222 hV (fun t2 h2 c2 => ?_)
  refine sK_i (pc' := 1703) rfl ?_
  refine x_istore (pc' := 1705) (ls' := [_, _, _, _, _, _, _]) rfl rfl rfl rfl ?_
  have W2 : Wc t2 (sp104 M n (xs (i + 1))).2.2.1 (sp104 M n (xs (i + 1))).2.2.2 T1 L1 (A + 2) (B + 12) := W_cp c2 W1
  have HN2 : sN t2 29 0 = L := (congrFun (congrFun (cpN c2) 29) 0).trans (HN l1)
  have HA2 : ∀ p, sA t2 29 0 p = xs p := fun p => (cpA c2 rfl).trans (HA l1 p)
  have HD2 := (⟨W2, h2, Zr_cp c2 z1, HA2, HN2⟩ : Hd t2 (sp104 M n (xs (i + 1))).2.2.1 (sp104 M n (xs (i + 1))).2.2.2 T1 L1 (A + 2) (B + 12) xs L)
  have q2 := fun y5 y6 => q t2 T1 L1 y5 y6 HD2 hr
  have hout : (sp104 M n (xs (i + 1))).1 = 0 → sL t2 23 0 0 = (sp104 M n (xs (i + 1))).2.1.toInt64 := fun h => (congrFun (congrFun (congrFun (cpL c2) 23) 0) 0).trans (o1 h)
  have hc2 : Cn t2 := W2.2.1.1
  clear q HD2 hr W2 W1 o1
  generalize (sp104 M n (xs (i + 1))) = r at *
  have fin : X 297 2938 [.inr (.inr (29, (some 0))), .inr (.inr (11, (some 0))), .inr (.inr (12, (some 0))), .inr (.inr (23, (some 0))), .inl (io i), .inl (io r.1), .inl r.2.1] [] t2 Q := by
    refine x_iinc (pc' := 2941) (y := io (i + 7)) (ls' := [_, _, _, _, _, _, _]) rfl rfl rfl (io_add i 7) rfl ?_
    refine x_goto (pc' := 23) rfl rfl ?_
    exact q2 _ _
  refine x_aload_n (pc' := 1706) rfl rfl rfl rfl rfl ?_
  refine x_cv (ls0 := [_]) (rest := []) rfl rfl rfl rfl rfl ?_
  refine x_aload_n (pc' := 1) rfl rfl rfl rfl rfl ?_
  refine x_gI (pc' := 4) (x := io r.1) rfl rfl rfl ((gI h2 rfl).trans j2) ?_
  refine x_reti rfl rfl ?_
  refine sK_i (pc' := 1709) rfl ?_
  refine x_iload (pc' := 1711) rfl rfl rfl ?_
  refine x_icmp (a' := 1716) (pc' := 1714) (z := true) rfl rfl rfl (show decide (io r.1 = io r.1) = true from decide_eq_true rfl) (fun _ => ?_) (fun h => by cases h)
  refine x_iload (pc' := 1718) rfl rfl rfl ?_
  have gof : X 297 1733 [.inr (.inr (29, (some 0))), .inr (.inr (11, (some 0))), .inr (.inr (12, (some 0))), .inr (.inr (23, (some 0))), .inl (io i), .inl (io r.1), .inl r.2.1] [] t2 Q := by
    refine x_goto (pc' := 2938) rfl rfl ?_
    exact fin
  by_cases h0 : r.1 = 0
  · refine x_if (a' := 1733) (pc' := 1721) (z := false) rfl rfl rfl (by rw [h0]; rfl) (fun h => by cases h) (fun _ => ?_)
    refine x_aload_n (pc' := 1722) rfl rfl rfl rfl rfl ?_
    refine x_iconst (pc' := 1723) rfl rfl ?_
    refine x_lald (pc' := 1724) (N := 1) (x := r.2.1.toInt64) rfl rfl (kN_23_0 hc2) (by decide) (hout h0) ?_
    refine x_iload (pc' := 1726) rfl rfl rfl ?_
    refine x_i2l (pc' := 1727) rfl rfl rfl ?_
    refine x_lcmp (pc' := 1728) (z := 0) rfl rfl (sLcmp_s _) ?_
    refine x_if (a' := 1733) (pc' := 1731) (z := true) rfl rfl rfl (by decide) (fun _ => gof) (fun h => by cases h)
  · refine x_if (a' := 1733) (pc' := 1721) (z := true) rfl rfl rfl ((ic_ne (p := r.1) (q := 0) (by omega) (by decide)).trans (decide_eq_true h0)) (fun _ => gof) (fun h => by cases h)
theorem lc_21 (hd : Hd t M n T Ls A B xs L) (hv : Hv M n e) (he : e ≤ 599) (hi : i + 7 ≤ L) (hL : L ≤ 3584) (hk : ((xs i) &&& 63) = 21)
    (q : ∀ t' T' Ls' (y5 y6 : sV), Hd t' (sp105 M n (xs (i + 1))).2.2.1 (sp105 M n (xs (i + 1))).2.2.2 T' Ls' (A + 2) (B + 12) xs L → Hv (sp105 M n (xs (i + 1))).2.2.1 (sp105 M n (xs (i + 1))).2.2.2 (e + 1) → X 297 23 [.inr (.inr (29, (some 0))), .inr (.inr (11, (some 0))), .inr (.inr (12, (some 0))), .inr (.inr (23, (some 0))), .inl (io (i + 7)), y5, y6] [] t' Q) :
    X 297 23 [.inr (.inr (29, (some 0))), .inr (.inr (11, (some 0))), .inr (.inr (12, (some 0))), .inr (.inr (23, (some 0))), .inl (io i), y0, y1] [] t Q := by
  have hTT := Hv_T hv
  have hTN : tN M = T := W_tN hd.1
  rw [hTN] at hTT
  have hI : mI M 801 = io T := hTT.2.2
  have hT4 : T < 4096 := by omega
  obtain ⟨j1, j2⟩ : (sp105 M n (xs (i + 1))).1 ≤ 1 ∧ mI (sp105 M n (xs (i + 1))).2.2.1 768 = io (sp105 M n (xs (i + 1))).1 := J105
  have hr : Hv (sp105 M n (xs (i + 1))).2.2.1 (sp105 M n (xs (i + 1))).2.2.2 (e + 1) := Hv_e (H105 hv)
  have HN : ∀ {t1 : sT}, lw t1 t → sN t1 29 0 = L := fun h => (congrFun h.2.1 0).trans hd.2.2.2.2
  have HA : ∀ {t1 : sT}, lw t1 t → ∀ p, sA t1 29 0 p = xs p := fun h p => (congrFun (congrFun h.1 0) p).trans (hd.2.2.2.1 p)
  have l0 : lw t t := ⟨rfl, rfl, rfl⟩
  refine hd_40 hd hi hL ?_
  refine x_switch (pc' := 1736) rfl (by rw [hk]; decide) ?_
  refine x_aload_n (pc' := 1737) rfl rfl rfl rfl rfl ?_
  refine x_aload_n (pc' := 1738) rfl rfl rfl rfl rfl ?_
  refine x_iload (pc' := 1740) rfl rfl rfl ?_
  refine x_iconst (pc' := 1741) rfl rfl ?_
  refine x_iadd (pc' := 1742) (z := io (i + 1)) rfl rfl (io_add i 1) ?_
  refine x_iald (pc' := 1743) (N := L) (x := xs (i + 1)) rfl rfl rfl (HN l0) (io_in (p := i + 1) (N := L) (by omega) (by omega)) (Eq.trans (congrArg (sA t 29 0) (nn_io (p := i + 1) (by omega))) (HA l0 _)) ?_
  refine x_aload_n (pc' := 1744) rfl rfl rfl rfl rfl ?_
  refine x_cs (ls0 := [_, _, _, sJk]) (rest := []) rfl rfl rfl rfl ?_
  refine wr_279 (r := (sp105 M n (xs (i + 1)))) (w := 0) j1 hd.2.2.1 (fun Q' h => C105 hd.1 h) (fun t1 T1 L1 W1 l1 z1 o1 => ?_)
  refine sK_i (pc' := 1747) rfl ?_
  refine x_istore (pc' := 1749) (ls' := [_, _, _, _, _, _, _]) rfl rfl rfl rfl ?_
  have hV : Vr t1 M n := ⟨l1.2.2.trans hd.2.1, W1.2.1.1, hd.1.2.2.1⟩
  refine x_aload_n (pc' := 1750) rfl rfl rfl rfl rfl ?_
  refine x_aload_n (pc' := 1751) rfl rfl rfl rfl rfl ?_
  refine x_iload (pc' := 1753) rfl rfl rfl ?_
  refine x_iconst (pc' := 1754) rfl rfl ?_
  refine x_iadd (pc' := 1755) (z := io (i + 1)) rfl rfl (io_add i 1) ?_
  refine x_iald (pc' := 1756) (N := L) (x := xs (i + 1)) rfl rfl rfl (HN l1) (io_in (p := i + 1) (N := L) (by omega) (by omega)) (Eq.trans (congrArg (sA t1 29 0) (nn_io (p := i + 1) (by omega))) (HA l1 _)) ?_
  refine x_cv (ls0 := [_, _]) (rest := []) rfl rfl rfl rfl rfl ?_
  refine R223 hV (fun t2 h2 c2 => ?_)
  refine sK_i (pc' := 1759) rfl ?_
  refine x_istore (pc' := 1761) (ls' := [_, _, _, _, _, _, _]) rfl rfl rfl rfl ?_
  have W2 : Wc t2 (sp105 M n (xs (i + 1))).2.2.1 (sp105 M n (xs (i + 1))).2.2.2 T1 L1 (A + 2) (B + 12) := W_cp c2 W1
  have HN2 : sN t2 29 0 = L := (congrFun (congrFun (cpN c2) 29) 0).trans (HN l1)
  have HA2 : ∀ p, sA t2 29 0 p = xs p := fun p => (cpA c2 rfl).trans (HA l1 p)
  have HD2 := (⟨W2, h2, Zr_cp c2 z1, HA2, HN2⟩ : Hd t2 (sp105 M n (xs (i + 1))).2.2.1 (sp105 M n (xs (i + 1))).2.2.2 T1 L1 (A + 2) (B + 12) xs L)
  have q2 := fun y5 y6 => q t2 T1 L1 y5 y6 HD2 hr
  have hout : (sp105 M n (xs (i + 1))).1 = 0 → sL t2 23 0 0 = (sp105 M n (xs (i + 1))).2.1.toInt64 := fun h => (congrFun (congrFun (congrFun (cpL c2) 23) 0) 0).trans (o1 h)
  have hc2 : Cn t2 := W2.2.1.1
  clear q HD2 hr W2 W1 o1
  generalize (sp105 M n (xs (i + 1))) = r at *
  have fin : X 297 2938 [.inr (.inr (29, (some 0))), .inr (.inr (11, (some 0))), .inr (.inr (12, (some 0))), .inr (.inr (23, (some 0))), .inl (io i), .inl (io r.1), .inl r.2.1] [] t2 Q := by
    refine x_iinc (pc' := 2941) (y := io (i + 7)) (ls' := [_, _, _, _, _, _, _]) rfl rfl rfl (io_add i 7) rfl ?_
    refine x_goto (pc' := 23) rfl rfl ?_
    exact q2 _ _
  refine x_aload_n (pc' := 1762) rfl rfl rfl rfl rfl ?_
  refine x_cv (ls0 := [_]) (rest := []) rfl rfl rfl rfl rfl ?_
  refine x_aload_n (pc' := 1) rfl rfl rfl rfl rfl ?_
  refine x_gI (pc' := 4) (x := io r.1) rfl rfl rfl ((gI h2 rfl).trans j2) ?_
  refine x_reti rfl rfl ?_
  refine sK_i (pc' := 1765) rfl ?_
  refine x_iload (pc' := 1767) rfl rfl rfl ?_
  refine x_icmp (a' := 1772) (pc' := 1770) (z := true) rfl rfl rfl (show decide (io r.1 = io r.1) = true from decide_eq_true rfl) (fun _ => ?_) (fun h => by cases h)
  refine x_iload (pc' := 1774) rfl rfl rfl ?_
  have gof : X 297 1789 [.inr (.inr (29, (some 0))), .inr (.inr (11, (some 0))), .inr (.inr (12, (some 0))), .inr (.inr (23, (some 0))), .inl (io i), .inl (io r.1), .inl r.2.1] [] t2 Q := by
    refine x_goto (pc' := 2938) rfl rfl ?_
    exact fin
  by_cases h0 : r.1 = 0
  · refine x_if (a' := 1789) (pc' := 1777) (z := false) rfl rfl rfl (by rw [h0]; rfl) (fun h => by cases h) (fun _ => ?_)
    refine x_aload_n (pc' := 1778) rfl rfl rfl rfl rfl ?_
    refine x_iconst (pc' := 1779) rfl rfl ?_
    refine x_lald (pc' := 1780) (N := 1) (x := r.2.1.toInt64) rfl rfl (kN_23_0 hc2) (by decide) (hout h0) ?_
    refine x_iload (pc' := 1782) rfl rfl rfl ?_
    refine x_i2l (pc' := 1783) rfl rfl rfl ?_
    refine x_lcmp (pc' := 1784) (z := 0) rfl rfl (sLcmp_s _) ?_
    refine x_if (a' := 1789) (pc' := 1787) (z := true) rfl rfl rfl (by decide) (fun _ => gof) (fun h => by cases h)
  · refine x_if (a' := 1789) (pc' := 1777) (z := true) rfl rfl rfl ((ic_ne (p := r.1) (q := 0) (by omega) (by decide)).trans (decide_eq_true h0)) (fun _ => gof) (fun h => by cases h)
theorem lc_22 (hd : Hd t M n T Ls A B xs L) (hv : Hv M n e) (he : e ≤ 599) (hi : i + 7 ≤ L) (hL : L ≤ 3584) (hk : ((xs i) &&& 63) = 22)
    (q : ∀ t' T' Ls' (y5 y6 : sV), Hd t' (sp106 M n (xs (i + 1))).2.2.1 (sp106 M n (xs (i + 1))).2.2.2 T' Ls' (A + 2) (B + 12) xs L → Hv (sp106 M n (xs (i + 1))).2.2.1 (sp106 M n (xs (i + 1))).2.2.2 (e + 1) → X 297 23 [.inr (.inr (29, (some 0))), .inr (.inr (11, (some 0))), .inr (.inr (12, (some 0))), .inr (.inr (23, (some 0))), .inl (io (i + 7)), y5, y6] [] t' Q) :
    X 297 23 [.inr (.inr (29, (some 0))), .inr (.inr (11, (some 0))), .inr (.inr (12, (some 0))), .inr (.inr (23, (some 0))), .inl (io i), y0, y1] [] t Q := by
  have hTT := Hv_T hv
  have hTN : tN M = T := W_tN hd.1
  rw [hTN] at hTT
  have hI : mI M 801 = io T := hTT.2.2
  have hT4 : T < 4096 := by omega
  obtain ⟨j1, j2⟩ : (sp106 M n (xs (i + 1))).1 ≤ 1 ∧ mI (sp106 M n (xs (i + 1))).2.2.1 768 = io (sp106 M n (xs (i + 1))).1 := J106
  have hr : Hv (sp106 M n (xs (i + 1))).2.2.1 (sp106 M n (xs (i + 1))).2.2.2 (e + 1) := Hv_e (H106 hv)
  have HN : ∀ {t1 : sT}, lw t1 t → sN t1 29 0 = L := fun h => (congrFun h.2.1 0).trans hd.2.2.2.2
  have HA : ∀ {t1 : sT}, lw t1 t → ∀ p, sA t1 29 0 p = xs p := fun h p => (congrFun (congrFun h.1 0) p).trans (hd.2.2.2.1 p)
  have l0 : lw t t := ⟨rfl, rfl, rfl⟩
  refine hd_40 hd hi hL ?_
  refine x_switch (pc' := 1792) rfl (by rw [hk]; decide) ?_
  refine x_aload_n (pc' := 1793) rfl rfl rfl rfl rfl ?_
  refine x_aload_n (pc' := 1794) rfl rfl rfl rfl rfl ?_
  refine x_iload (pc' := 1796) rfl rfl rfl ?_
  refine x_iconst (pc' := 1797) rfl rfl ?_
  refine x_iadd (pc' := 1798) (z := io (i + 1)) rfl rfl (io_add i 1) ?_
  refine x_iald (pc' := 1799) (N := L) (x := xs (i + 1)) rfl rfl rfl (HN l0) (io_in (p := i + 1) (N := L) (by omega) (by omega)) (Eq.trans (congrArg (sA t 29 0) (nn_io (p := i + 1) (by omega))) (HA l0 _)) ?_
  refine x_aload_n (pc' := 1800) rfl rfl rfl rfl rfl ?_
  refine x_cs (ls0 := [_, _, _, sJk]) (rest := []) rfl rfl rfl rfl ?_
  refine wr_280 (r := (sp106 M n (xs (i + 1)))) (w := 0) j1 hd.2.2.1 (fun Q' h => C106 hd.1 h) (fun t1 T1 L1 W1 l1 z1 o1 => ?_)
  refine sK_i (pc' := 1803) rfl ?_
  refine x_istore (pc' := 1805) (ls' := [_, _, _, _, _, _, _]) rfl rfl rfl rfl ?_
  have hV : Vr t1 M n := ⟨l1.2.2.trans hd.2.1, W1.2.1.1, hd.1.2.2.1⟩
  refine x_aload_n (pc' := 1806) rfl rfl rfl rfl rfl ?_
  refine x_aload_n (pc' := 1807) rfl rfl rfl rfl rfl ?_
  refine x_iload (pc' := 1809) rfl rfl rfl ?_
  refine x_iconst (pc' := 1810) rfl rfl ?_
  refine x_iadd (pc' := 1811) (z := io (i + 1)) rfl rfl (io_add i 1) ?_
  refine x_iald (pc' := 1812) (N := L) (x := xs (i + 1)) rfl rfl rfl (HN l1) (io_in (p := i + 1) (N := L) (by omega) (by omega)) (Eq.trans (congrArg (sA t1 29 0) (nn_io (p := i + 1) (by omega))) (HA l1 _)) ?_
  refine x_cv (ls0 := [_, _]) (rest := []) rfl rfl rfl rfl rfl ?_
  refine R224 hV (fun t2 h2 c2 => ?_)
  refine sK_i (pc' := 1815) rfl ?_
  refine x_istore (pc' := 1817) (ls' := [_, _, _, _, _, _, _]) rfl rfl rfl rfl ?_
  have W2 : Wc t2 (sp106 M n (xs (i + 1))).2.2.1 (sp106 M n (xs (i + 1))).2.2.2 T1 L1 (A + 2) (B + 12) := W_cp c2 W1
  have HN2 : sN t2 29 0 = L := (congrFun (congrFun (cpN c2) 29) 0).trans (HN l1)
  have HA2 : ∀ p, sA t2 29 0 p = xs p := fun p => (cpA c2 rfl).trans (HA l1 p)
  have HD2 := (⟨W2, h2, Zr_cp c2 z1, HA2, HN2⟩ : Hd t2 (sp106 M n (xs (i + 1))).2.2.1 (sp106 M n (xs (i + 1))).2.2.2 T1 L1 (A + 2) (B + 12) xs L)
  have q2 := fun y5 y6 => q t2 T1 L1 y5 y6 HD2 hr
  have hout : (sp106 M n (xs (i + 1))).1 = 0 → sL t2 23 0 0 = (sp106 M n (xs (i + 1))).2.1.toInt64 := fun h => (congrFun (congrFun (congrFun (cpL c2) 23) 0) 0).trans (o1 h)
  have hc2 : Cn t2 := W2.2.1.1
  clear q HD2 hr W2 W1 o1
  generalize (sp106 M n (xs (i + 1))) = r at *
  have fin : X 297 2938 [.inr (.inr (29, (some 0))), .inr (.inr (11, (some 0))), .inr (.inr (12, (some 0))), .inr (.inr (23, (some 0))), .inl (io i), .inl (io r.1), .inl r.2.1] [] t2 Q := by
    refine x_iinc (pc' := 2941) (y := io (i + 7)) (ls' := [_, _, _, _, _, _, _]) rfl rfl rfl (io_add i 7) rfl ?_
    refine x_goto (pc' := 23) rfl rfl ?_
    exact q2 _ _
  refine x_aload_n (pc' := 1818) rfl rfl rfl rfl rfl ?_
  refine x_cv (ls0 := [_]) (rest := []) rfl rfl rfl rfl rfl ?_
  refine x_aload_n (pc' := 1) rfl rfl rfl rfl rfl ?_
  refine x_gI (pc' := 4) (x := io r.1) rfl rfl rfl ((gI h2 rfl).trans j2) ?_
  refine x_reti rfl rfl ?_
  refine sK_i (pc' := 1821) rfl ?_
  refine x_iload (pc' := 1823) rfl rfl rfl ?_
  refine x_icmp (a' := 1828) (pc' := 1826) (z := true) rfl rfl rfl (show decide (io r.1 = io r.1) = true from decide_eq_true rfl) (fun _ => ?_) (fun h => by cases h)
  refine x_iload (pc' := 1830) rfl rfl rfl ?_
  have gof : X 297 1845 [.inr (.inr (29, (some 0))), .inr (.inr (11, (some 0))), .inr (.inr (12, (some 0))), .inr (.inr (23, (some 0))), .inl (io i), .inl (io r.1), .inl r.2.1] [] t2 Q := by
    refine x_goto (pc' := 2938) rfl rfl ?_
    exact fin
  by_cases h0 : r.1 = 0
  · refine x_if (a' := 1845) (pc' := 1833) (z := false) rfl rfl rfl (by rw [h0]; rfl) (fun h => by cases h) (fun _ => ?_)
    refine x_aload_n (pc' := 1834) rfl rfl rfl rfl rfl ?_
    refine x_iconst (pc' := 1835) rfl rfl ?_
    refine x_lald (pc' := 1836) (N := 1) (x := r.2.1.toInt64) rfl rfl (kN_23_0 hc2) (by decide) (hout h0) ?_
    refine x_iload (pc' := 1838) rfl rfl rfl ?_
    refine x_i2l (pc' := 1839) rfl rfl rfl ?_
    refine x_lcmp (pc' := 1840) (z := 0) rfl rfl (sLcmp_s _) ?_
    refine x_if (a' := 1845) (pc' := 1843) (z := true) rfl rfl rfl (by decide) (fun _ => gof) (fun h => by cases h)
  · refine x_if (a' := 1845) (pc' := 1833) (z := true) rfl rfl rfl ((ic_ne (p := r.1) (q := 0) (by omega) (by decide)).trans (decide_eq_true h0)) (fun _ => gof) (fun h => by cases h)
theorem lc_23 (hd : Hd t M n T Ls A B xs L) (hv : Hv M n e) (he : e ≤ 599) (hi : i + 7 ≤ L) (hL : L ≤ 3584) (hk : ((xs i) &&& 63) = 23)
    (q : ∀ t' T' Ls' (y5 y6 : sV), Hd t' (sp107 M n (xs (i + 1)) (!(decide (xs (i + 2) = 0)))).2.2.1 (sp107 M n (xs (i + 1)) (!(decide (xs (i + 2) = 0)))).2.2.2 T' Ls' (A + 2) (B + 12) xs L → Hv (sp107 M n (xs (i + 1)) (!(decide (xs (i + 2) = 0)))).2.2.1 (sp107 M n (xs (i + 1)) (!(decide (xs (i + 2) = 0)))).2.2.2 (e + 1) → X 297 23 [.inr (.inr (29, (some 0))), .inr (.inr (11, (some 0))), .inr (.inr (12, (some 0))), .inr (.inr (23, (some 0))), .inl (io (i + 7)), y5, y6] [] t' Q) :
    X 297 23 [.inr (.inr (29, (some 0))), .inr (.inr (11, (some 0))), .inr (.inr (12, (some 0))), .inr (.inr (23, (some 0))), .inl (io i), y0, y1] [] t Q := by
  have hTT := Hv_T hv
  have hTN : tN M = T := W_tN hd.1
  rw [hTN] at hTT
  have hI : mI M 801 = io T := hTT.2.2
  have hT4 : T < 4096 := by omega
  obtain ⟨j1, j2⟩ : (sp107 M n (xs (i + 1)) (!(decide (xs (i + 2) = 0)))).1 ≤ 1 ∧ mI (sp107 M n (xs (i + 1)) (!(decide (xs (i + 2) = 0)))).2.2.1 768 = io (sp107 M n (xs (i + 1)) (!(decide (xs (i + 2) = 0)))).1 := J107
  have hr : Hv (sp107 M n (xs (i + 1)) (!(decide (xs (i + 2) = 0)))).2.2.1 (sp107 M n (xs (i + 1)) (!(decide (xs (i + 2) = 0)))).2.2.2 (e + 1) := Hv_e (H107 hv)
  have HN : ∀ {t1 : sT}, lw t1 t → sN t1 29 0 = L := fun h => (congrFun h.2.1 0).trans hd.2.2.2.2
  have HA : ∀ {t1 : sT}, lw t1 t → ∀ p, sA t1 29 0 p = xs p := fun h p => (congrFun (congrFun h.1 0) p).trans (hd.2.2.2.1 p)
  have l0 : lw t t := ⟨rfl, rfl, rfl⟩
  refine hd_40 hd hi hL ?_
  refine x_switch (pc' := 1848) rfl (by rw [hk]; decide) ?_
  generalize hs : (!(decide (xs (i + 2) = 0))) = s at *
  refine x_aload_n (pc' := 1849) rfl rfl rfl rfl rfl ?_
  refine x_aload_n (pc' := 1850) rfl rfl rfl rfl rfl ?_
  refine x_iload (pc' := 1852) rfl rfl rfl ?_
  refine x_iconst (pc' := 1853) rfl rfl ?_
  refine x_iadd (pc' := 1854) (z := io (i + 1)) rfl rfl (io_add i 1) ?_
  refine x_iald (pc' := 1855) (N := L) (x := xs (i + 1)) rfl rfl rfl (HN l0) (io_in (p := i + 1) (N := L) (by omega) (by omega)) (Eq.trans (congrArg (sA t 29 0) (nn_io (p := i + 1) (by omega))) (HA l0 _)) ?_
  refine x_aload_n (pc' := 1856) rfl rfl rfl rfl rfl ?_
  refine x_iload (pc' := 1858) rfl rfl rfl ?_
  refine x_iconst (pc' := 1859) rfl rfl ?_
  refine x_iadd (pc' := 1860) (z := io (i + 2)) rfl rfl (io_add i 2) ?_
  refine x_iald (pc' := 1861) (N := L) (x := xs (i + 2)) rfl rfl rfl (HN l0) (io_in (p := i + 2) (N := L) (by omega) (by omega)) (Eq.trans (congrArg (sA t 29 0) (nn_io (p := i + 2) (by omega))) (HA l0 _)) ?_
  have hz1868 : sCond .eq (xs (i + 2)) 0 = !s := by rw [← hs, Bool.not_not]; rfl
  have b1868 : X 297 1869 [.inr (.inr (29, (some 0))), .inr (.inr (11, (some 0))), .inr (.inr (12, (some 0))), .inr (.inr (23, (some 0))), .inl (io i), y0, y1] [.inl (bz s), .inl (xs (i + 1)), .inr (.inr (11, (some 0)))] t Q := by
    refine x_aload_n (pc' := 1870) rfl rfl rfl rfl rfl ?_
    refine x_cs (ls0 := [_, _, _, _, sJk]) (rest := []) rfl rfl rfl rfl ?_
    refine wr_281 (r := (sp107 M n (xs (i + 1)) s)) (w := 0) j1 hd.2.2.1 (fun Q' h => C107 hd.1 h) (fun t1 T1 L1 W1 l1 z1 o1 => ?_)
    refine sK_i (pc' := 1873) rfl ?_
    refine x_istore (pc' := 1875) (ls' := [_, _, _, _, _, _, _]) rfl rfl rfl rfl ?_
    have hV : Vr t1 M n := ⟨l1.2.2.trans hd.2.1, W1.2.1.1, hd.1.2.2.1⟩
    refine x_aload_n (pc' := 1876) rfl rfl rfl rfl rfl ?_
    refine x_aload_n (pc' := 1877) rfl rfl rfl rfl rfl ?_
    refine x_iload (pc' := 1879) rfl rfl rfl ?_
    refine x_iconst (pc' := 1880) rfl rfl ?_
    refine x_iadd (pc' := 1881) (z := io (i + 1)) rfl rfl (io_add i 1) ?_
    refine x_iald (pc' := 1882) (N := L) (x := xs (i + 1)) rfl rfl rfl (HN l1) (io_in (p := i + 1) (N := L) (by omega) (by omega)) (Eq.trans (congrArg (sA t1 29 0) (nn_io (p := i + 1) (by omega))) (HA l1 _)) ?_
    refine x_aload_n (pc' := 1883) rfl rfl rfl rfl rfl ?_
    refine x_iload (pc' := 1885) rfl rfl rfl ?_
    refine x_iconst (pc' := 1886) rfl rfl ?_
    refine x_iadd (pc' := 1887) (z := io (i + 2)) rfl rfl (io_add i 2) ?_
    refine x_iald (pc' := 1888) (N := L) (x := xs (i + 2)) rfl rfl rfl (HN l1) (io_in (p := i + 2) (N := L) (by omega) (by omega)) (Eq.trans (congrArg (sA t1 29 0) (nn_io (p := i + 2) (by omega))) (HA l1 _)) ?_
    have hz1895 : sCond .eq (xs (i + 2)) 0 = !s := by rw [← hs, Bool.not_not]; rfl
    have b1895 : X 297 1896 [.inr (.inr (29, (some 0))), .inr (.inr (11, (some 0))), .inr (.inr (12, (some 0))), .inr (.inr (23, (some 0))), .inl (io i), .inl (io (sp107 M n (xs (i + 1)) s).1), y1] [.inl (bz s), .inl (xs (i + 1)), .inr (.inr (12, (some 0)))] t1 Q := by
      refine x_cv (ls0 := [_, _, _]) (rest := []) rfl rfl rfl rfl rfl ?_
      refine R225 hV (fun t2 h2 c2 => ?_)
      refine sK_i (pc' := 1899) rfl ?_
      refine x_istore (pc' := 1901) (ls' := [_, _, _, _, _, _, _]) rfl rfl rfl rfl ?_
      have W2 : Wc t2 (sp107 M n (xs (i + 1)) s).2.2.1 (sp107 M n (xs (i + 1)) s).2.2.2 T1 L1 (A + 2) (B + 12) := W_cp c2 W1
      have HN2 : sN t2 29 0 = L := (congrFun (congrFun (cpN c2) 29) 0).trans (HN l1)
      have HA2 : ∀ p, sA t2 29 0 p = xs p := fun p => (cpA c2 rfl).trans (HA l1 p)
      have HD2 := (⟨W2, h2, Zr_cp c2 z1, HA2, HN2⟩ : Hd t2 (sp107 M n (xs (i + 1)) s).2.2.1 (sp107 M n (xs (i + 1)) s).2.2.2 T1 L1 (A + 2) (B + 12) xs L)
      have q2 := fun y5 y6 => q t2 T1 L1 y5 y6 HD2 hr
      have hout : (sp107 M n (xs (i + 1)) s).1 = 0 → sL t2 23 0 0 = (sp107 M n (xs (i + 1)) s).2.1.toInt64 := fun h => (congrFun (congrFun (congrFun (cpL c2) 23) 0) 0).trans (o1 h)
      have hc2 : Cn t2 := W2.2.1.1
      clear q HD2 hr W2 W1 o1
      generalize (sp107 M n (xs (i + 1)) s) = r at *
      have fin : X 297 2938 [.inr (.inr (29, (some 0))), .inr (.inr (11, (some 0))), .inr (.inr (12, (some 0))), .inr (.inr (23, (some 0))), .inl (io i), .inl (io r.1), .inl r.2.1] [] t2 Q := by
        refine x_iinc (pc' := 2941) (y := io (i + 7)) (ls' := [_, _, _, _, _, _, _]) rfl rfl rfl (io_add i 7) rfl ?_
        refine x_goto (pc' := 23) rfl rfl ?_
        exact q2 _ _
      refine x_aload_n (pc' := 1902) rfl rfl rfl rfl rfl ?_
      refine x_cv (ls0 := [_]) (rest := []) rfl rfl rfl rfl rfl ?_
      refine x_aload_n (pc' := 1) rfl rfl rfl rfl rfl ?_
      refine x_gI (pc' := 4) (x := io r.1) rfl rfl rfl ((gI h2 rfl).trans j2) ?_
      refine x_reti rfl rfl ?_
      refine sK_i (pc' := 1905) rfl ?_
      refine x_iload (pc' := 1907) rfl rfl rfl ?_
      refine x_icmp (a' := 1912) (pc' := 1910) (z := true) rfl rfl rfl (show decide (io r.1 = io r.1) = true from decide_eq_true rfl) (fun _ => ?_) (fun h => by cases h)
      refine x_iload (pc' := 1914) rfl rfl rfl ?_
      have gof : X 297 1929 [.inr (.inr (29, (some 0))), .inr (.inr (11, (some 0))), .inr (.inr (12, (some 0))), .inr (.inr (23, (some 0))), .inl (io i), .inl (io r.1), .inl r.2.1] [] t2 Q := by
        refine x_goto (pc' := 2938) rfl rfl ?_
        exact fin
      by_cases h0 : r.1 = 0
      · refine x_if (a' := 1929) (pc' := 1917) (z := false) rfl rfl rfl (by rw [h0]; rfl) (fun h => by cases h) (fun _ => ?_)
        refine x_aload_n (pc' := 1918) rfl rfl rfl rfl rfl ?_
        refine x_iconst (pc' := 1919) rfl rfl ?_
        refine x_lald (pc' := 1920) (N := 1) (x := r.2.1.toInt64) rfl rfl (kN_23_0 hc2) (by decide) (hout h0) ?_
        refine x_iload (pc' := 1922) rfl rfl rfl ?_
        refine x_i2l (pc' := 1923) rfl rfl rfl ?_
        refine x_lcmp (pc' := 1924) (z := 0) rfl rfl (sLcmp_s _) ?_
        refine x_if (a' := 1929) (pc' := 1927) (z := true) rfl rfl rfl (by decide) (fun _ => gof) (fun h => by cases h)
      · refine x_if (a' := 1929) (pc' := 1917) (z := true) rfl rfl rfl ((ic_ne (p := r.1) (q := 0) (by omega) (by decide)).trans (decide_eq_true h0)) (fun _ => gof) (fun h => by cases h)
    refine x_if (a' := 1895) (pc' := 1891) (z := !s) rfl rfl rfl hz1895 (fun h => ?_) (fun h => ?_)
    · have es : s = false := by cases s; rfl; cases h
      subst es
      refine x_iconst (pc' := 1896) rfl rfl ?_
      exact b1895
    · have es : s = true := by cases s; cases h; rfl
      subst es
      refine x_iconst (pc' := 1892) rfl rfl ?_
      refine x_goto (pc' := 1896) rfl rfl ?_
      exact b1895
  refine x_if (a' := 1868) (pc' := 1864) (z := !s) rfl rfl rfl hz1868 (fun h => ?_) (fun h => ?_)
  · have es : s = false := by cases s; rfl; cases h
    subst es
    refine x_iconst (pc' := 1869) rfl rfl ?_
    exact b1868
  · have es : s = true := by cases s; cases h; rfl
    subst es
    refine x_iconst (pc' := 1865) rfl rfl ?_
    refine x_goto (pc' := 1869) rfl rfl ?_
    exact b1868
theorem lc_24 (hd : Hd t M n T Ls A B xs L) (hv : Hv M n e) (he : e ≤ 599) (hi : i + 7 ≤ L) (hL : L ≤ 3584) (hk : ((xs i) &&& 63) = 24)
    (q : ∀ t' T' Ls' (y5 y6 : sV), Hd t' (sp107 M n (xs (i + 1)) (!(decide (xs (i + 2) = 0)))).2.2.1 (sp107 M n (xs (i + 1)) (!(decide (xs (i + 2) = 0)))).2.2.2 T' Ls' (A + 2) (B + 12) xs L → Hv (sp107 M n (xs (i + 1)) (!(decide (xs (i + 2) = 0)))).2.2.1 (sp107 M n (xs (i + 1)) (!(decide (xs (i + 2) = 0)))).2.2.2 (e + 1) → X 297 23 [.inr (.inr (29, (some 0))), .inr (.inr (11, (some 0))), .inr (.inr (12, (some 0))), .inr (.inr (23, (some 0))), .inl (io (i + 7)), y5, y6] [] t' Q) :
    X 297 23 [.inr (.inr (29, (some 0))), .inr (.inr (11, (some 0))), .inr (.inr (12, (some 0))), .inr (.inr (23, (some 0))), .inl (io i), y0, y1] [] t Q := by
  have hTT := Hv_T hv
  have hTN : tN M = T := W_tN hd.1
  rw [hTN] at hTT
  have hI : mI M 801 = io T := hTT.2.2
  have hT4 : T < 4096 := by omega
  obtain ⟨j1, j2⟩ : (sp107 M n (xs (i + 1)) (!(decide (xs (i + 2) = 0)))).1 ≤ 1 ∧ mI (sp107 M n (xs (i + 1)) (!(decide (xs (i + 2) = 0)))).2.2.1 768 = io (sp107 M n (xs (i + 1)) (!(decide (xs (i + 2) = 0)))).1 := J107
  have hr : Hv (sp107 M n (xs (i + 1)) (!(decide (xs (i + 2) = 0)))).2.2.1 (sp107 M n (xs (i + 1)) (!(decide (xs (i + 2) = 0)))).2.2.2 (e + 1) := Hv_e (H107 hv)
  have HN : ∀ {t1 : sT}, lw t1 t → sN t1 29 0 = L := fun h => (congrFun h.2.1 0).trans hd.2.2.2.2
  have HA : ∀ {t1 : sT}, lw t1 t → ∀ p, sA t1 29 0 p = xs p := fun h p => (congrFun (congrFun h.1 0) p).trans (hd.2.2.2.1 p)
  have l0 : lw t t := ⟨rfl, rfl, rfl⟩
  refine hd_40 hd hi hL ?_
  refine x_switch (pc' := 1932) rfl (by rw [hk]; decide) ?_
  generalize hs : (!(decide (xs (i + 2) = 0))) = s at *
  refine x_aload_n (pc' := 1933) rfl rfl rfl rfl rfl ?_
  refine x_aload_n (pc' := 1934) rfl rfl rfl rfl rfl ?_
  refine x_iload (pc' := 1936) rfl rfl rfl ?_
  refine x_iconst (pc' := 1937) rfl rfl ?_
  refine x_iadd (pc' := 1938) (z := io (i + 1)) rfl rfl (io_add i 1) ?_
  refine x_iald (pc' := 1939) (N := L) (x := xs (i + 1)) rfl rfl rfl (HN l0) (io_in (p := i + 1) (N := L) (by omega) (by omega)) (Eq.trans (congrArg (sA t 29 0) (nn_io (p := i + 1) (by omega))) (HA l0 _)) ?_
  refine x_aload_n (pc' := 1940) rfl rfl rfl rfl rfl ?_
  refine x_iload (pc' := 1942) rfl rfl rfl ?_
  refine x_iconst (pc' := 1943) rfl rfl ?_
  refine x_iadd (pc' := 1944) (z := io (i + 2)) rfl rfl (io_add i 2) ?_
  refine x_iald (pc' := 1945) (N := L) (x := xs (i + 2)) rfl rfl rfl (HN l0) (io_in (p := i + 2) (N := L) (by omega) (by omega)) (Eq.trans (congrArg (sA t 29 0) (nn_io (p := i + 2) (by omega))) (HA l0 _)) ?_
  have hz1952 : sCond .eq (xs (i + 2)) 0 = !s := by rw [← hs, Bool.not_not]; rfl
  have b1952 : X 297 1953 [.inr (.inr (29, (some 0))), .inr (.inr (11, (some 0))), .inr (.inr (12, (some 0))), .inr (.inr (23, (some 0))), .inl (io i), y0, y1] [.inl (bz s), .inl (xs (i + 1)), .inr (.inr (11, (some 0)))] t Q := by
    refine x_aload_n (pc' := 1954) rfl rfl rfl rfl rfl ?_
    refine x_cs (ls0 := [_, _, _, _, sJk]) (rest := []) rfl rfl rfl rfl ?_
    refine wr_282 (r := (sp107 M n (xs (i + 1)) s)) (w := 0) j1 hd.2.2.1 (fun Q' h => C108 hd.1 h) (fun t1 T1 L1 W1 l1 z1 o1 => ?_)
    refine sK_i (pc' := 1957) rfl ?_
    refine x_istore (pc' := 1959) (ls' := [_, _, _, _, _, _, _]) rfl rfl rfl rfl ?_
    have hV : Vr t1 M n := ⟨l1.2.2.trans hd.2.1, W1.2.1.1, hd.1.2.2.1⟩
    refine x_aload_n (pc' := 1960) rfl rfl rfl rfl rfl ?_
    refine x_aload_n (pc' := 1961) rfl rfl rfl rfl rfl ?_
    refine x_iload (pc' := 1963) rfl rfl rfl ?_
    refine x_iconst (pc' := 1964) rfl rfl ?_
    refine x_iadd (pc' := 1965) (z := io (i + 1)) rfl rfl (io_add i 1) ?_
    refine x_iald (pc' := 1966) (N := L) (x := xs (i + 1)) rfl rfl rfl (HN l1) (io_in (p := i + 1) (N := L) (by omega) (by omega)) (Eq.trans (congrArg (sA t1 29 0) (nn_io (p := i + 1) (by omega))) (HA l1 _)) ?_
    refine x_aload_n (pc' := 1967) rfl rfl rfl rfl rfl ?_
    refine x_iload (pc' := 1969) rfl rfl rfl ?_
    refine x_iconst (pc' := 1970) rfl rfl ?_
    refine x_iadd (pc' := 1971) (z := io (i + 2)) rfl rfl (io_add i 2) ?_
    refine x_iald (pc' := 1972) (N := L) (x := xs (i + 2)) rfl rfl rfl (HN l1) (io_in (p := i + 2) (N := L) (by omega) (by omega)) (Eq.trans (congrArg (sA t1 29 0) (nn_io (p := i + 2) (by omega))) (HA l1 _)) ?_
    have hz1979 : sCond .eq (xs (i + 2)) 0 = !s := by rw [← hs, Bool.not_not]; rfl
    have b1979 : X 297 1980 [.inr (.inr (29, (some 0))), .inr (.inr (11, (some 0))), .inr (.inr (12, (some 0))), .inr (.inr (23, (some 0))), .inl (io i), .inl (io (sp107 M n (xs (i + 1)) s).1), y1] [.inl (bz s), .inl (xs (i + 1)), .inr (.inr (12, (some 0)))] t1 Q := by
      refine x_cv (ls0 := [_, _, _]) (rest := []) rfl rfl rfl rfl rfl ?_
      refine R226 hV (fun t2 h2 c2 => ?_)
      refine sK_i (pc' := 1983) rfl ?_
      refine x_istore (pc' := 1985) (ls' := [_, _, _, _, _, _, _]) rfl rfl rfl rfl ?_
      have W2 : Wc t2 (sp107 M n (xs (i + 1)) s).2.2.1 (sp107 M n (xs (i + 1)) s).2.2.2 T1 L1 (A + 2) (B + 12) := W_cp c2 W1
      have HN2 : sN t2 29 0 = L := (congrFun (congrFun (cpN c2) 29) 0).trans (HN l1)
      have HA2 : ∀ p, sA t2 29 0 p = xs p := fun p => (cpA c2 rfl).trans (HA l1 p)
      have HD2 := (⟨W2, h2, Zr_cp c2 z1, HA2, HN2⟩ : Hd t2 (sp107 M n (xs (i + 1)) s).2.2.1 (sp107 M n (xs (i + 1)) s).2.2.2 T1 L1 (A + 2) (B + 12) xs L)
      have q2 := fun y5 y6 => q t2 T1 L1 y5 y6 HD2 hr
      have hout : (sp107 M n (xs (i + 1)) s).1 = 0 → sL t2 23 0 0 = (sp107 M n (xs (i + 1)) s).2.1.toInt64 := fun h => (congrFun (congrFun (congrFun (cpL c2) 23) 0) 0).trans (o1 h)
      have hc2 : Cn t2 := W2.2.1.1
      clear q HD2 hr W2 W1 o1
      generalize (sp107 M n (xs (i + 1)) s) = r at *
      have fin : X 297 2938 [.inr (.inr (29, (some 0))), .inr (.inr (11, (some 0))), .inr (.inr (12, (some 0))), .inr (.inr (23, (some 0))), .inl (io i), .inl (io r.1), .inl r.2.1] [] t2 Q := by
        refine x_iinc (pc' := 2941) (y := io (i + 7)) (ls' := [_, _, _, _, _, _, _]) rfl rfl rfl (io_add i 7) rfl ?_
        refine x_goto (pc' := 23) rfl rfl ?_
        exact q2 _ _
      refine x_aload_n (pc' := 1986) rfl rfl rfl rfl rfl ?_
      refine x_cv (ls0 := [_]) (rest := []) rfl rfl rfl rfl rfl ?_
      refine x_aload_n (pc' := 1) rfl rfl rfl rfl rfl ?_
      refine x_gI (pc' := 4) (x := io r.1) rfl rfl rfl ((gI h2 rfl).trans j2) ?_
      refine x_reti rfl rfl ?_
      refine sK_i (pc' := 1989) rfl ?_
      refine x_iload (pc' := 1991) rfl rfl rfl ?_
      refine x_icmp (a' := 1996) (pc' := 1994) (z := true) rfl rfl rfl (show decide (io r.1 = io r.1) = true from decide_eq_true rfl) (fun _ => ?_) (fun h => by cases h)
      refine x_iload (pc' := 1998) rfl rfl rfl ?_
      have gof : X 297 2013 [.inr (.inr (29, (some 0))), .inr (.inr (11, (some 0))), .inr (.inr (12, (some 0))), .inr (.inr (23, (some 0))), .inl (io i), .inl (io r.1), .inl r.2.1] [] t2 Q := by
        refine x_goto (pc' := 2938) rfl rfl ?_
        exact fin
      by_cases h0 : r.1 = 0
      · refine x_if (a' := 2013) (pc' := 2001) (z := false) rfl rfl rfl (by rw [h0]; rfl) (fun h => by cases h) (fun _ => ?_)
        refine x_aload_n (pc' := 2002) rfl rfl rfl rfl rfl ?_
        refine x_iconst (pc' := 2003) rfl rfl ?_
        refine x_lald (pc' := 2004) (N := 1) (x := r.2.1.toInt64) rfl rfl (kN_23_0 hc2) (by decide) (hout h0) ?_
        refine x_iload (pc' := 2006) rfl rfl rfl ?_
        refine x_i2l (pc' := 2007) rfl rfl rfl ?_
        refine x_lcmp (pc' := 2008) (z := 0) rfl rfl (sLcmp_s _) ?_
        refine x_if (a' := 2013) (pc' := 2011) (z := true) rfl rfl rfl (by decide) (fun _ => gof) (fun h => by cases h)
      · refine x_if (a' := 2013) (pc' := 2001) (z := true) rfl rfl rfl ((ic_ne (p := r.1) (q := 0) (by omega) (by decide)).trans (decide_eq_true h0)) (fun _ => gof) (fun h => by cases h)
    refine x_if (a' := 1979) (pc' := 1975) (z := !s) rfl rfl rfl hz1979 (fun h => ?_) (fun h => ?_)
    · have es : s = false := by cases s; rfl; cases h
      subst es
      refine x_iconst (pc' := 1980) rfl rfl ?_
      exact b1979
    · have es : s = true := by cases s; cases h; rfl
      subst es
      refine x_iconst (pc' := 1976) rfl rfl ?_
      refine x_goto (pc' := 1980) rfl rfl ?_
      exact b1979
  refine x_if (a' := 1952) (pc' := 1948) (z := !s) rfl rfl rfl hz1952 (fun h => ?_) (fun h => ?_)
  · have es : s = false := by cases s; rfl; cases h
    subst es
    refine x_iconst (pc' := 1953) rfl rfl ?_
    exact b1952
  · have es : s = true := by cases s; cases h; rfl
    subst es
    refine x_iconst (pc' := 1949) rfl rfl ?_
    refine x_goto (pc' := 1953) rfl rfl ?_
    exact b1952
theorem lc_25 (hd : Hd t M n T Ls A B xs L) (hv : Hv M n e) (he : e ≤ 599) (hi : i + 7 ≤ L) (hL : L ≤ 3584) (hk : ((xs i) &&& 63) = 25)
    (q : ∀ t' T' Ls' (y5 y6 : sV), Hd t' (sp109 M n (xs (i + 1)) (!(decide (xs (i + 2) = 0)))).2.2.1 (sp109 M n (xs (i + 1)) (!(decide (xs (i + 2) = 0)))).2.2.2 T' Ls' (A + 2) (B + 12) xs L → Hv (sp109 M n (xs (i + 1)) (!(decide (xs (i + 2) = 0)))).2.2.1 (sp109 M n (xs (i + 1)) (!(decide (xs (i + 2) = 0)))).2.2.2 (e + 1) → X 297 23 [.inr (.inr (29, (some 0))), .inr (.inr (11, (some 0))), .inr (.inr (12, (some 0))), .inr (.inr (23, (some 0))), .inl (io (i + 7)), y5, y6] [] t' Q) :
    X 297 23 [.inr (.inr (29, (some 0))), .inr (.inr (11, (some 0))), .inr (.inr (12, (some 0))), .inr (.inr (23, (some 0))), .inl (io i), y0, y1] [] t Q := by
  have hTT := Hv_T hv
  have hTN : tN M = T := W_tN hd.1
  rw [hTN] at hTT
  have hI : mI M 801 = io T := hTT.2.2
  have hT4 : T < 4096 := by omega
  obtain ⟨j1, j2⟩ : (sp109 M n (xs (i + 1)) (!(decide (xs (i + 2) = 0)))).1 ≤ 1 ∧ mI (sp109 M n (xs (i + 1)) (!(decide (xs (i + 2) = 0)))).2.2.1 768 = io (sp109 M n (xs (i + 1)) (!(decide (xs (i + 2) = 0)))).1 := J109
  have hr : Hv (sp109 M n (xs (i + 1)) (!(decide (xs (i + 2) = 0)))).2.2.1 (sp109 M n (xs (i + 1)) (!(decide (xs (i + 2) = 0)))).2.2.2 (e + 1) := Hv_e (H109 hv)
  have HN : ∀ {t1 : sT}, lw t1 t → sN t1 29 0 = L := fun h => (congrFun h.2.1 0).trans hd.2.2.2.2
  have HA : ∀ {t1 : sT}, lw t1 t → ∀ p, sA t1 29 0 p = xs p := fun h p => (congrFun (congrFun h.1 0) p).trans (hd.2.2.2.1 p)
  have l0 : lw t t := ⟨rfl, rfl, rfl⟩
  refine hd_40 hd hi hL ?_
  refine x_switch (pc' := 2016) rfl (by rw [hk]; decide) ?_
  generalize hs : (!(decide (xs (i + 2) = 0))) = s at *
  refine x_aload_n (pc' := 2017) rfl rfl rfl rfl rfl ?_
  refine x_aload_n (pc' := 2018) rfl rfl rfl rfl rfl ?_
  refine x_iload (pc' := 2020) rfl rfl rfl ?_
  refine x_iconst (pc' := 2021) rfl rfl ?_
  refine x_iadd (pc' := 2022) (z := io (i + 1)) rfl rfl (io_add i 1) ?_
  refine x_iald (pc' := 2023) (N := L) (x := xs (i + 1)) rfl rfl rfl (HN l0) (io_in (p := i + 1) (N := L) (by omega) (by omega)) (Eq.trans (congrArg (sA t 29 0) (nn_io (p := i + 1) (by omega))) (HA l0 _)) ?_
  refine x_aload_n (pc' := 2024) rfl rfl rfl rfl rfl ?_
  refine x_iload (pc' := 2026) rfl rfl rfl ?_
  refine x_iconst (pc' := 2027) rfl rfl ?_
  refine x_iadd (pc' := 2028) (z := io (i + 2)) rfl rfl (io_add i 2) ?_
  refine x_iald (pc' := 2029) (N := L) (x := xs (i + 2)) rfl rfl rfl (HN l0) (io_in (p := i + 2) (N := L) (by omega) (by omega)) (Eq.trans (congrArg (sA t 29 0) (nn_io (p := i + 2) (by omega))) (HA l0 _)) ?_
  have hz2036 : sCond .eq (xs (i + 2)) 0 = !s := by rw [← hs, Bool.not_not]; rfl
  have b2036 : X 297 2037 [.inr (.inr (29, (some 0))), .inr (.inr (11, (some 0))), .inr (.inr (12, (some 0))), .inr (.inr (23, (some 0))), .inl (io i), y0, y1] [.inl (bz s), .inl (xs (i + 1)), .inr (.inr (11, (some 0)))] t Q := by
    refine x_aload_n (pc' := 2038) rfl rfl rfl rfl rfl ?_
    refine x_cs (ls0 := [_, _, _, _, sJk]) (rest := []) rfl rfl rfl rfl ?_
    refine wr_283 (r := (sp109 M n (xs (i + 1)) s)) (w := 0) j1 hd.2.2.1 (fun Q' h => C109 hd.1 hv.1 h) (fun t1 T1 L1 W1 l1 z1 o1 => ?_)
    refine sK_i (pc' := 2041) rfl ?_
    refine x_istore (pc' := 2043) (ls' := [_, _, _, _, _, _, _]) rfl rfl rfl rfl ?_
    have hV : Vr t1 M n := ⟨l1.2.2.trans hd.2.1, W1.2.1.1, hd.1.2.2.1⟩
    refine x_aload_n (pc' := 2044) rfl rfl rfl rfl rfl ?_
    refine x_aload_n (pc' := 2045) rfl rfl rfl rfl rfl ?_
    refine x_iload (pc' := 2047) rfl rfl rfl ?_
    refine x_iconst (pc' := 2048) rfl rfl ?_
    refine x_iadd (pc' := 2049) (z := io (i + 1)) rfl rfl (io_add i 1) ?_
    refine x_iald (pc' := 2050) (N := L) (x := xs (i + 1)) rfl rfl rfl (HN l1) (io_in (p := i + 1) (N := L) (by omega) (by omega)) (Eq.trans (congrArg (sA t1 29 0) (nn_io (p := i + 1) (by omega))) (HA l1 _)) ?_
    refine x_aload_n (pc' := 2051) rfl rfl rfl rfl rfl ?_
    refine x_iload (pc' := 2053) rfl rfl rfl ?_
    refine x_iconst (pc' := 2054) rfl rfl ?_
    refine x_iadd (pc' := 2055) (z := io (i + 2)) rfl rfl (io_add i 2) ?_
    refine x_iald (pc' := 2056) (N := L) (x := xs (i + 2)) rfl rfl rfl (HN l1) (io_in (p := i + 2) (N := L) (by omega) (by omega)) (Eq.trans (congrArg (sA t1 29 0) (nn_io (p := i + 2) (by omega))) (HA l1 _)) ?_
    have hz2063 : sCond .eq (xs (i + 2)) 0 = !s := by rw [← hs, Bool.not_not]; rfl
    have b2063 : X 297 2064 [.inr (.inr (29, (some 0))), .inr (.inr (11, (some 0))), .inr (.inr (12, (some 0))), .inr (.inr (23, (some 0))), .inl (io i), .inl (io (sp109 M n (xs (i + 1)) s).1), y1] [.inl (bz s), .inl (xs (i + 1)), .inr (.inr (12, (some 0)))] t1 Q := by
      refine x_cv (ls0 := [_, _, _]) (rest := []) rfl rfl rfl rfl rfl ?_
      refine R227 hV (fun t2 h2 c2 => ?_)
      refine sK_i (pc' := 2067) rfl ?_
      refine x_istore (pc' := 2069) (ls' := [_, _, _, _, _, _, _]) rfl rfl rfl rfl ?_
      have W2 : Wc t2 (sp109 M n (xs (i + 1)) s).2.2.1 (sp109 M n (xs (i + 1)) s).2.2.2 T1 L1 (A + 2) (B + 12) := W_cp c2 W1
      have HN2 : sN t2 29 0 = L := (congrFun (congrFun (cpN c2) 29) 0).trans (HN l1)
      have HA2 : ∀ p, sA t2 29 0 p = xs p := fun p => (cpA c2 rfl).trans (HA l1 p)
      have HD2 := (⟨W2, h2, Zr_cp c2 z1, HA2, HN2⟩ : Hd t2 (sp109 M n (xs (i + 1)) s).2.2.1 (sp109 M n (xs (i + 1)) s).2.2.2 T1 L1 (A + 2) (B + 12) xs L)
      have q2 := fun y5 y6 => q t2 T1 L1 y5 y6 HD2 hr
      have hout : (sp109 M n (xs (i + 1)) s).1 = 0 → sL t2 23 0 0 = (sp109 M n (xs (i + 1)) s).2.1.toInt64 := fun h => (congrFun (congrFun (congrFun (cpL c2) 23) 0) 0).trans (o1 h)
      have hc2 : Cn t2 := W2.2.1.1
      clear q HD2 hr W2 W1 o1
      generalize (sp109 M n (xs (i + 1)) s) = r at *
      have fin : X 297 2938 [.inr (.inr (29, (some 0))), .inr (.inr (11, (some 0))), .inr (.inr (12, (some 0))), .inr (.inr (23, (some 0))), .inl (io i), .inl (io r.1), .inl r.2.1] [] t2 Q := by
        refine x_iinc (pc' := 2941) (y := io (i + 7)) (ls' := [_, _, _, _, _, _, _]) rfl rfl rfl (io_add i 7) rfl ?_
        refine x_goto (pc' := 23) rfl rfl ?_
        exact q2 _ _
      refine x_aload_n (pc' := 2070) rfl rfl rfl rfl rfl ?_
      refine x_cv (ls0 := [_]) (rest := []) rfl rfl rfl rfl rfl ?_
      refine x_aload_n (pc' := 1) rfl rfl rfl rfl rfl ?_
      refine x_gI (pc' := 4) (x := io r.1) rfl rfl rfl ((gI h2 rfl).trans j2) ?_
      refine x_reti rfl rfl ?_
      refine sK_i (pc' := 2073) rfl ?_
      refine x_iload (pc' := 2075) rfl rfl rfl ?_
      refine x_icmp (a' := 2080) (pc' := 2078) (z := true) rfl rfl rfl (show decide (io r.1 = io r.1) = true from decide_eq_true rfl) (fun _ => ?_) (fun h => by cases h)
      refine x_iload (pc' := 2082) rfl rfl rfl ?_
      have gof : X 297 2097 [.inr (.inr (29, (some 0))), .inr (.inr (11, (some 0))), .inr (.inr (12, (some 0))), .inr (.inr (23, (some 0))), .inl (io i), .inl (io r.1), .inl r.2.1] [] t2 Q := by
        refine x_goto (pc' := 2938) rfl rfl ?_
        exact fin
      by_cases h0 : r.1 = 0
      · refine x_if (a' := 2097) (pc' := 2085) (z := false) rfl rfl rfl (by rw [h0]; rfl) (fun h => by cases h) (fun _ => ?_)
        refine x_aload_n (pc' := 2086) rfl rfl rfl rfl rfl ?_
        refine x_iconst (pc' := 2087) rfl rfl ?_
        refine x_lald (pc' := 2088) (N := 1) (x := r.2.1.toInt64) rfl rfl (kN_23_0 hc2) (by decide) (hout h0) ?_
        refine x_iload (pc' := 2090) rfl rfl rfl ?_
        refine x_i2l (pc' := 2091) rfl rfl rfl ?_
        refine x_lcmp (pc' := 2092) (z := 0) rfl rfl (sLcmp_s _) ?_
        refine x_if (a' := 2097) (pc' := 2095) (z := true) rfl rfl rfl (by decide) (fun _ => gof) (fun h => by cases h)
      · refine x_if (a' := 2097) (pc' := 2085) (z := true) rfl rfl rfl ((ic_ne (p := r.1) (q := 0) (by omega) (by decide)).trans (decide_eq_true h0)) (fun _ => gof) (fun h => by cases h)
    refine x_if (a' := 2063) (pc' := 2059) (z := !s) rfl rfl rfl hz2063 (fun h => ?_) (fun h => ?_)
    · have es : s = false := by cases s; rfl; cases h
      subst es
      refine x_iconst (pc' := 2064) rfl rfl ?_
      exact b2063
    · have es : s = true := by cases s; cases h; rfl
      subst es
      refine x_iconst (pc' := 2060) rfl rfl ?_
      refine x_goto (pc' := 2064) rfl rfl ?_
      exact b2063
  refine x_if (a' := 2036) (pc' := 2032) (z := !s) rfl rfl rfl hz2036 (fun h => ?_) (fun h => ?_)
  · have es : s = false := by cases s; rfl; cases h
    subst es
    refine x_iconst (pc' := 2037) rfl rfl ?_
    exact b2036
  · have es : s = true := by cases s; cases h; rfl
    subst es
    refine x_iconst (pc' := 2033) rfl rfl ?_
    refine x_goto (pc' := 2037) rfl rfl ?_
    exact b2036
theorem lc_26 (hd : Hd t M n T Ls A B xs L) (hv : Hv M n e) (he : e ≤ 599) (hi : i + 7 ≤ L) (hL : L ≤ 3584) (hk : ((xs i) &&& 63) = 26)
    (q : ∀ t' T' Ls' (y5 y6 : sV), Hd t' (sp110 M n (xs (i + 1)) (!(decide (xs (i + 2) = 0)))).2.2.1 (sp110 M n (xs (i + 1)) (!(decide (xs (i + 2) = 0)))).2.2.2 T' Ls' (A + 2) (B + 12) xs L → Hv (sp110 M n (xs (i + 1)) (!(decide (xs (i + 2) = 0)))).2.2.1 (sp110 M n (xs (i + 1)) (!(decide (xs (i + 2) = 0)))).2.2.2 (e + 1) → X 297 23 [.inr (.inr (29, (some 0))), .inr (.inr (11, (some 0))), .inr (.inr (12, (some 0))), .inr (.inr (23, (some 0))), .inl (io (i + 7)), y5, y6] [] t' Q) :
    X 297 23 [.inr (.inr (29, (some 0))), .inr (.inr (11, (some 0))), .inr (.inr (12, (some 0))), .inr (.inr (23, (some 0))), .inl (io i), y0, y1] [] t Q := by
  have hTT := Hv_T hv
  have hTN : tN M = T := W_tN hd.1
  rw [hTN] at hTT
  have hI : mI M 801 = io T := hTT.2.2
  have hT4 : T < 4096 := by omega
  obtain ⟨j1, j2⟩ : (sp110 M n (xs (i + 1)) (!(decide (xs (i + 2) = 0)))).1 ≤ 1 ∧ mI (sp110 M n (xs (i + 1)) (!(decide (xs (i + 2) = 0)))).2.2.1 768 = io (sp110 M n (xs (i + 1)) (!(decide (xs (i + 2) = 0)))).1 := J110
  have hr : Hv (sp110 M n (xs (i + 1)) (!(decide (xs (i + 2) = 0)))).2.2.1 (sp110 M n (xs (i + 1)) (!(decide (xs (i + 2) = 0)))).2.2.2 (e + 1) := Hv_e (H110 hv)
  have HN : ∀ {t1 : sT}, lw t1 t → sN t1 29 0 = L := fun h => (congrFun h.2.1 0).trans hd.2.2.2.2
  have HA : ∀ {t1 : sT}, lw t1 t → ∀ p, sA t1 29 0 p = xs p := fun h p => (congrFun (congrFun h.1 0) p).trans (hd.2.2.2.1 p)
  have l0 : lw t t := ⟨rfl, rfl, rfl⟩
  refine hd_40 hd hi hL ?_
  refine x_switch (pc' := 2100) rfl (by rw [hk]; decide) ?_
  generalize hs : (!(decide (xs (i + 2) = 0))) = s at *
  refine x_aload_n (pc' := 2101) rfl rfl rfl rfl rfl ?_
  refine x_aload_n (pc' := 2102) rfl rfl rfl rfl rfl ?_
  refine x_iload (pc' := 2104) rfl rfl rfl ?_
  refine x_iconst (pc' := 2105) rfl rfl ?_
  refine x_iadd (pc' := 2106) (z := io (i + 1)) rfl rfl (io_add i 1) ?_
  refine x_iald (pc' := 2107) (N := L) (x := xs (i + 1)) rfl rfl rfl (HN l0) (io_in (p := i + 1) (N := L) (by omega) (by omega)) (Eq.trans (congrArg (sA t 29 0) (nn_io (p := i + 1) (by omega))) (HA l0 _)) ?_
  refine x_aload_n (pc' := 2108) rfl rfl rfl rfl rfl ?_
  refine x_iload (pc' := 2110) rfl rfl rfl ?_
  refine x_iconst (pc' := 2111) rfl rfl ?_
  refine x_iadd (pc' := 2112) (z := io (i + 2)) rfl rfl (io_add i 2) ?_
  refine x_iald (pc' := 2113) (N := L) (x := xs (i + 2)) rfl rfl rfl (HN l0) (io_in (p := i + 2) (N := L) (by omega) (by omega)) (Eq.trans (congrArg (sA t 29 0) (nn_io (p := i + 2) (by omega))) (HA l0 _)) ?_
  have hz2120 : sCond .eq (xs (i + 2)) 0 = !s := by rw [← hs, Bool.not_not]; rfl
  have b2120 : X 297 2121 [.inr (.inr (29, (some 0))), .inr (.inr (11, (some 0))), .inr (.inr (12, (some 0))), .inr (.inr (23, (some 0))), .inl (io i), y0, y1] [.inl (bz s), .inl (xs (i + 1)), .inr (.inr (11, (some 0)))] t Q := by
    refine x_aload_n (pc' := 2122) rfl rfl rfl rfl rfl ?_
    refine x_cs (ls0 := [_, _, _, _, sJk]) (rest := []) rfl rfl rfl rfl ?_
    refine wr_284 (r := (sp110 M n (xs (i + 1)) s)) (w := 0) j1 hd.2.2.1 (fun Q' h => C110 hd.1 hv.1 h) (fun t1 T1 L1 W1 l1 z1 o1 => ?_)
    refine sK_i (pc' := 2125) rfl ?_
    refine x_istore (pc' := 2127) (ls' := [_, _, _, _, _, _, _]) rfl rfl rfl rfl ?_
    have hV : Vr t1 M n := ⟨l1.2.2.trans hd.2.1, W1.2.1.1, hd.1.2.2.1⟩
    refine x_aload_n (pc' := 2128) rfl rfl rfl rfl rfl ?_
    refine x_aload_n (pc' := 2129) rfl rfl rfl rfl rfl ?_
    refine x_iload (pc' := 2131) rfl rfl rfl ?_
    refine x_iconst (pc' := 2132) rfl rfl ?_
    refine x_iadd (pc' := 2133) (z := io (i + 1)) rfl rfl (io_add i 1) ?_
    refine x_iald (pc' := 2134) (N := L) (x := xs (i + 1)) rfl rfl rfl (HN l1) (io_in (p := i + 1) (N := L) (by omega) (by omega)) (Eq.trans (congrArg (sA t1 29 0) (nn_io (p := i + 1) (by omega))) (HA l1 _)) ?_
    refine x_aload_n (pc' := 2135) rfl rfl rfl rfl rfl ?_
    refine x_iload (pc' := 2137) rfl rfl rfl ?_
    refine x_iconst (pc' := 2138) rfl rfl ?_
    refine x_iadd (pc' := 2139) (z := io (i + 2)) rfl rfl (io_add i 2) ?_
    refine x_iald (pc' := 2140) (N := L) (x := xs (i + 2)) rfl rfl rfl (HN l1) (io_in (p := i + 2) (N := L) (by omega) (by omega)) (Eq.trans (congrArg (sA t1 29 0) (nn_io (p := i + 2) (by omega))) (HA l1 _)) ?_
    have hz2147 : sCond .eq (xs (i + 2)) 0 = !s := by rw [← hs, Bool.not_not]; rfl
    have b2147 : X 297 2148 [.inr (.inr (29, (some 0))), .inr (.inr (11, (some 0))), .inr (.inr (12, (some 0))), .inr (.inr (23, (some 0))), .inl (io i), .inl (io (sp110 M n (xs (i + 1)) s).1), y1] [.inl (bz s), .inl (xs (i + 1)), .inr (.inr (12, (some 0)))] t1 Q := by
      refine x_cv (ls0 := [_, _, _, sJk]) (rest := []) rfl rfl rfl rfl rfl ?_
      refine R228 hV (fun t2 h2 c2 => ?_)
      refine sK_i (pc' := 2151) rfl ?_
      refine x_istore (pc' := 2153) (ls' := [_, _, _, _, _, _, _]) rfl rfl rfl rfl ?_
      have W2 : Wc t2 (sp110 M n (xs (i + 1)) s).2.2.1 (sp110 M n (xs (i + 1)) s).2.2.2 T1 L1 (A + 2) (B + 12) := W_cp c2 W1
      have HN2 : sN t2 29 0 = L := (congrFun (congrFun (cpN c2) 29) 0).trans (HN l1)
      have HA2 : ∀ p, sA t2 29 0 p = xs p := fun p => (cpA c2 rfl).trans (HA l1 p)
      have HD2 := (⟨W2, h2, Zr_cp c2 z1, HA2, HN2⟩ : Hd t2 (sp110 M n (xs (i + 1)) s).2.2.1 (sp110 M n (xs (i + 1)) s).2.2.2 T1 L1 (A + 2) (B + 12) xs L)
      have q2 := fun y5 y6 => q t2 T1 L1 y5 y6 HD2 hr
      have hout : (sp110 M n (xs (i + 1)) s).1 = 0 → sL t2 23 0 0 = (sp110 M n (xs (i + 1)) s).2.1.toInt64 := fun h => (congrFun (congrFun (congrFun (cpL c2) 23) 0) 0).trans (o1 h)
      have hc2 : Cn t2 := W2.2.1.1
      clear q HD2 hr W2 W1 o1
      generalize (sp110 M n (xs (i + 1)) s) = r at *
      have fin : X 297 2938 [.inr (.inr (29, (some 0))), .inr (.inr (11, (some 0))), .inr (.inr (12, (some 0))), .inr (.inr (23, (some 0))), .inl (io i), .inl (io r.1), .inl r.2.1] [] t2 Q := by
        refine x_iinc (pc' := 2941) (y := io (i + 7)) (ls' := [_, _, _, _, _, _, _]) rfl rfl rfl (io_add i 7) rfl ?_
        refine x_goto (pc' := 23) rfl rfl ?_
        exact q2 _ _
      refine x_aload_n (pc' := 2154) rfl rfl rfl rfl rfl ?_
      refine x_cv (ls0 := [_]) (rest := []) rfl rfl rfl rfl rfl ?_
      refine x_aload_n (pc' := 1) rfl rfl rfl rfl rfl ?_
      refine x_gI (pc' := 4) (x := io r.1) rfl rfl rfl ((gI h2 rfl).trans j2) ?_
      refine x_reti rfl rfl ?_
      refine sK_i (pc' := 2157) rfl ?_
      refine x_iload (pc' := 2159) rfl rfl rfl ?_
      refine x_icmp (a' := 2164) (pc' := 2162) (z := true) rfl rfl rfl (show decide (io r.1 = io r.1) = true from decide_eq_true rfl) (fun _ => ?_) (fun h => by cases h)
      refine x_iload (pc' := 2166) rfl rfl rfl ?_
      have gof : X 297 2181 [.inr (.inr (29, (some 0))), .inr (.inr (11, (some 0))), .inr (.inr (12, (some 0))), .inr (.inr (23, (some 0))), .inl (io i), .inl (io r.1), .inl r.2.1] [] t2 Q := by
        refine x_goto (pc' := 2938) rfl rfl ?_
        exact fin
      by_cases h0 : r.1 = 0
      · refine x_if (a' := 2181) (pc' := 2169) (z := false) rfl rfl rfl (by rw [h0]; rfl) (fun h => by cases h) (fun _ => ?_)
        refine x_aload_n (pc' := 2170) rfl rfl rfl rfl rfl ?_
        refine x_iconst (pc' := 2171) rfl rfl ?_
        refine x_lald (pc' := 2172) (N := 1) (x := r.2.1.toInt64) rfl rfl (kN_23_0 hc2) (by decide) (hout h0) ?_
        refine x_iload (pc' := 2174) rfl rfl rfl ?_
        refine x_i2l (pc' := 2175) rfl rfl rfl ?_
        refine x_lcmp (pc' := 2176) (z := 0) rfl rfl (sLcmp_s _) ?_
        refine x_if (a' := 2181) (pc' := 2179) (z := true) rfl rfl rfl (by decide) (fun _ => gof) (fun h => by cases h)
      · refine x_if (a' := 2181) (pc' := 2169) (z := true) rfl rfl rfl ((ic_ne (p := r.1) (q := 0) (by omega) (by decide)).trans (decide_eq_true h0)) (fun _ => gof) (fun h => by cases h)
    refine x_if (a' := 2147) (pc' := 2143) (z := !s) rfl rfl rfl hz2147 (fun h => ?_) (fun h => ?_)
    · have es : s = false := by cases s; rfl; cases h
      subst es
      refine x_iconst (pc' := 2148) rfl rfl ?_
      exact b2147
    · have es : s = true := by cases s; cases h; rfl
      subst es
      refine x_iconst (pc' := 2144) rfl rfl ?_
      refine x_goto (pc' := 2148) rfl rfl ?_
      exact b2147
  refine x_if (a' := 2120) (pc' := 2116) (z := !s) rfl rfl rfl hz2120 (fun h => ?_) (fun h => ?_)
  · have es : s = false := by cases s; rfl; cases h
    subst es
    refine x_iconst (pc' := 2121) rfl rfl ?_
    exact b2120
  · have es : s = true := by cases s; cases h; rfl
    subst es
    refine x_iconst (pc' := 2117) rfl rfl ?_
    refine x_goto (pc' := 2121) rfl rfl ?_
    exact b2120
theorem lc_27 (hd : Hd t M n T Ls A B xs L) (hv : Hv M n e) (he : e ≤ 599) (hi : i + 7 ≤ L) (hL : L ≤ 3584) (hk : ((xs i) &&& 63) = 27)
    (q : ∀ t' T' Ls' (y5 y6 : sV), Hd t' (sp111 M n (xs (i + 1))).2.2.1 (sp111 M n (xs (i + 1))).2.2.2 T' Ls' (A + 2) (B + 12) xs L → Hv (sp111 M n (xs (i + 1))).2.2.1 (sp111 M n (xs (i + 1))).2.2.2 (e + 1) → X 297 23 [.inr (.inr (29, (some 0))), .inr (.inr (11, (some 0))), .inr (.inr (12, (some 0))), .inr (.inr (23, (some 0))), .inl (io (i + 7)), y5, y6] [] t' Q) :
    X 297 23 [.inr (.inr (29, (some 0))), .inr (.inr (11, (some 0))), .inr (.inr (12, (some 0))), .inr (.inr (23, (some 0))), .inl (io i), y0, y1] [] t Q := by
  have hTT := Hv_T hv
  have hTN : tN M = T := W_tN hd.1
  rw [hTN] at hTT
  have hI : mI M 801 = io T := hTT.2.2
  have hT4 : T < 4096 := by omega
  obtain ⟨j1, j2⟩ : (sp111 M n (xs (i + 1))).1 ≤ 1 ∧ mI (sp111 M n (xs (i + 1))).2.2.1 768 = io (sp111 M n (xs (i + 1))).1 := J111
  have hr : Hv (sp111 M n (xs (i + 1))).2.2.1 (sp111 M n (xs (i + 1))).2.2.2 (e + 1) := Hv_e (H111 hv)
  have HN : ∀ {t1 : sT}, lw t1 t → sN t1 29 0 = L := fun h => (congrFun h.2.1 0).trans hd.2.2.2.2
  have HA : ∀ {t1 : sT}, lw t1 t → ∀ p, sA t1 29 0 p = xs p := fun h p => (congrFun (congrFun h.1 0) p).trans (hd.2.2.2.1 p)
  have l0 : lw t t := ⟨rfl, rfl, rfl⟩
  refine hd_40 hd hi hL ?_
  refine x_switch (pc' := 2184) rfl (by rw [hk]; decide) ?_
  refine x_aload_n (pc' := 2185) rfl rfl rfl rfl rfl ?_
  refine x_aload_n (pc' := 2186) rfl rfl rfl rfl rfl ?_
  refine x_iload (pc' := 2188) rfl rfl rfl ?_
  refine x_iconst (pc' := 2189) rfl rfl ?_
  refine x_iadd (pc' := 2190) (z := io (i + 1)) rfl rfl (io_add i 1) ?_
  refine x_iald (pc' := 2191) (N := L) (x := xs (i + 1)) rfl rfl rfl (HN l0) (io_in (p := i + 1) (N := L) (by omega) (by omega)) (Eq.trans (congrArg (sA t 29 0) (nn_io (p := i + 1) (by omega))) (HA l0 _)) ?_
  refine x_aload_n (pc' := 2192) rfl rfl rfl rfl rfl ?_
  refine x_cs (ls0 := [_, _, _, sJk]) (rest := []) rfl rfl rfl rfl ?_
  refine wr_285 (r := (sp111 M n (xs (i + 1)))) (w := 0) j1 hd.2.2.1 (fun Q' h => C111 hd.1 hv.1 h) (fun t1 T1 L1 W1 l1 z1 o1 => ?_)
  refine sK_i (pc' := 2195) rfl ?_
  refine x_istore (pc' := 2197) (ls' := [_, _, _, _, _, _, _]) rfl rfl rfl rfl ?_
  have hV : Vr t1 M n := ⟨l1.2.2.trans hd.2.1, W1.2.1.1, hd.1.2.2.1⟩
  refine x_aload_n (pc' := 2198) rfl rfl rfl rfl rfl ?_
  refine x_aload_n (pc' := 2199) rfl rfl rfl rfl rfl ?_
  refine x_iload (pc' := 2201) rfl rfl rfl ?_
  refine x_iconst (pc' := 2202) rfl rfl ?_
  refine x_iadd (pc' := 2203) (z := io (i + 1)) rfl rfl (io_add i 1) ?_
  refine x_iald (pc' := 2204) (N := L) (x := xs (i + 1)) rfl rfl rfl (HN l1) (io_in (p := i + 1) (N := L) (by omega) (by omega)) (Eq.trans (congrArg (sA t1 29 0) (nn_io (p := i + 1) (by omega))) (HA l1 _)) ?_
  refine x_cv (ls0 := [_, _]) (rest := []) rfl rfl rfl rfl rfl ?_
  refine R229 hV (fun t2 h2 c2 => ?_)
  refine sK_i (pc' := 2207) rfl ?_
  refine x_istore (pc' := 2209) (ls' := [_, _, _, _, _, _, _]) rfl rfl rfl rfl ?_
  have W2 : Wc t2 (sp111 M n (xs (i + 1))).2.2.1 (sp111 M n (xs (i + 1))).2.2.2 T1 L1 (A + 2) (B + 12) := W_cp c2 W1
  have HN2 : sN t2 29 0 = L := (congrFun (congrFun (cpN c2) 29) 0).trans (HN l1)
  have HA2 : ∀ p, sA t2 29 0 p = xs p := fun p => (cpA c2 rfl).trans (HA l1 p)
  have HD2 := (⟨W2, h2, Zr_cp c2 z1, HA2, HN2⟩ : Hd t2 (sp111 M n (xs (i + 1))).2.2.1 (sp111 M n (xs (i + 1))).2.2.2 T1 L1 (A + 2) (B + 12) xs L)
  have q2 := fun y5 y6 => q t2 T1 L1 y5 y6 HD2 hr
  have hout : (sp111 M n (xs (i + 1))).1 = 0 → sL t2 23 0 0 = (sp111 M n (xs (i + 1))).2.1.toInt64 := fun h => (congrFun (congrFun (congrFun (cpL c2) 23) 0) 0).trans (o1 h)
  have hc2 : Cn t2 := W2.2.1.1
  clear q HD2 hr W2 W1 o1
  generalize (sp111 M n (xs (i + 1))) = r at *
  have fin : X 297 2938 [.inr (.inr (29, (some 0))), .inr (.inr (11, (some 0))), .inr (.inr (12, (some 0))), .inr (.inr (23, (some 0))), .inl (io i), .inl (io r.1), .inl r.2.1] [] t2 Q := by
    refine x_iinc (pc' := 2941) (y := io (i + 7)) (ls' := [_, _, _, _, _, _, _]) rfl rfl rfl (io_add i 7) rfl ?_
    refine x_goto (pc' := 23) rfl rfl ?_
    exact q2 _ _
  refine x_aload_n (pc' := 2210) rfl rfl rfl rfl rfl ?_
  refine x_cv (ls0 := [_]) (rest := []) rfl rfl rfl rfl rfl ?_
  refine x_aload_n (pc' := 1) rfl rfl rfl rfl rfl ?_
  refine x_gI (pc' := 4) (x := io r.1) rfl rfl rfl ((gI h2 rfl).trans j2) ?_
  refine x_reti rfl rfl ?_
  refine sK_i (pc' := 2213) rfl ?_
  refine x_iload (pc' := 2215) rfl rfl rfl ?_
  refine x_icmp (a' := 2220) (pc' := 2218) (z := true) rfl rfl rfl (show decide (io r.1 = io r.1) = true from decide_eq_true rfl) (fun _ => ?_) (fun h => by cases h)
  refine x_iload (pc' := 2222) rfl rfl rfl ?_
  have gof : X 297 2237 [.inr (.inr (29, (some 0))), .inr (.inr (11, (some 0))), .inr (.inr (12, (some 0))), .inr (.inr (23, (some 0))), .inl (io i), .inl (io r.1), .inl r.2.1] [] t2 Q := by
    refine x_goto (pc' := 2938) rfl rfl ?_
    exact fin
  by_cases h0 : r.1 = 0
  · refine x_if (a' := 2237) (pc' := 2225) (z := false) rfl rfl rfl (by rw [h0]; rfl) (fun h => by cases h) (fun _ => ?_)
    refine x_aload_n (pc' := 2226) rfl rfl rfl rfl rfl ?_
    refine x_iconst (pc' := 2227) rfl rfl ?_
    refine x_lald (pc' := 2228) (N := 1) (x := r.2.1.toInt64) rfl rfl (kN_23_0 hc2) (by decide) (hout h0) ?_
    refine x_iload (pc' := 2230) rfl rfl rfl ?_
    refine x_i2l (pc' := 2231) rfl rfl rfl ?_
    refine x_lcmp (pc' := 2232) (z := 0) rfl rfl (sLcmp_s _) ?_
    refine x_if (a' := 2237) (pc' := 2235) (z := true) rfl rfl rfl (by decide) (fun _ => gof) (fun h => by cases h)
  · refine x_if (a' := 2237) (pc' := 2225) (z := true) rfl rfl rfl ((ic_ne (p := r.1) (q := 0) (by omega) (by decide)).trans (decide_eq_true h0)) (fun _ => gof) (fun h => by cases h)
theorem lc_28 (hd : Hd t M n T Ls A B xs L) (hv : Hv M n e) (he : e ≤ 599) (hi : i + 7 ≤ L) (hL : L ≤ 3584) (hk : ((xs i) &&& 63) = 28)
    (q : ∀ t' T' Ls' (y5 y6 : sV), Hd t' (sp112 M n (xs (i + 1))).2.2.1 (sp112 M n (xs (i + 1))).2.2.2 T' Ls' (A + 2) (B + 12) xs L → Hv (sp112 M n (xs (i + 1))).2.2.1 (sp112 M n (xs (i + 1))).2.2.2 (e + 1) → X 297 23 [.inr (.inr (29, (some 0))), .inr (.inr (11, (some 0))), .inr (.inr (12, (some 0))), .inr (.inr (23, (some 0))), .inl (io (i + 7)), y5, y6] [] t' Q) :
    X 297 23 [.inr (.inr (29, (some 0))), .inr (.inr (11, (some 0))), .inr (.inr (12, (some 0))), .inr (.inr (23, (some 0))), .inl (io i), y0, y1] [] t Q := by
  have hTT := Hv_T hv
  have hTN : tN M = T := W_tN hd.1
  rw [hTN] at hTT
  have hI : mI M 801 = io T := hTT.2.2
  have hT4 : T < 4096 := by omega
  obtain ⟨j1, j2⟩ : (sp112 M n (xs (i + 1))).1 ≤ 1 ∧ mI (sp112 M n (xs (i + 1))).2.2.1 768 = io (sp112 M n (xs (i + 1))).1 := J112
  have hr : Hv (sp112 M n (xs (i + 1))).2.2.1 (sp112 M n (xs (i + 1))).2.2.2 (e + 1) := Hv_e (H112 hv)
  have HN : ∀ {t1 : sT}, lw t1 t → sN t1 29 0 = L := fun h => (congrFun h.2.1 0).trans hd.2.2.2.2
  have HA : ∀ {t1 : sT}, lw t1 t → ∀ p, sA t1 29 0 p = xs p := fun h p => (congrFun (congrFun h.1 0) p).trans (hd.2.2.2.1 p)
  have l0 : lw t t := ⟨rfl, rfl, rfl⟩
  refine hd_40 hd hi hL ?_
  refine x_switch (pc' := 2240) rfl (by rw [hk]; decide) ?_
  refine x_aload_n (pc' := 2241) rfl rfl rfl rfl rfl ?_
  refine x_aload_n (pc' := 2242) rfl rfl rfl rfl rfl ?_
  refine x_iload (pc' := 2244) rfl rfl rfl ?_
  refine x_iconst (pc' := 2245) rfl rfl ?_
  refine x_iadd (pc' := 2246) (z := io (i + 1)) rfl rfl (io_add i 1) ?_
  refine x_iald (pc' := 2247) (N := L) (x := xs (i + 1)) rfl rfl rfl (HN l0) (io_in (p := i + 1) (N := L) (by omega) (by omega)) (Eq.trans (congrArg (sA t 29 0) (nn_io (p := i + 1) (by omega))) (HA l0 _)) ?_
  refine x_aload_n (pc' := 2248) rfl rfl rfl rfl rfl ?_
  refine x_cs (ls0 := [_, _, _, sJk]) (rest := []) rfl rfl rfl rfl ?_
  refine wr_286 (r := (sp112 M n (xs (i + 1)))) (w := 0) j1 hd.2.2.1 (fun Q' h => C112 hd.1 h) (fun t1 T1 L1 W1 l1 z1 o1 => ?_)
  refine sK_i (pc' := 2251) rfl ?_
  refine x_istore (pc' := 2253) (ls' := [_, _, _, _, _, _, _]) rfl rfl rfl rfl ?_
  have hV : Vr t1 M n := ⟨l1.2.2.trans hd.2.1, W1.2.1.1, hd.1.2.2.1⟩
  refine x_aload_n (pc' := 2254) rfl rfl rfl rfl rfl ?_
  refine x_aload_n (pc' := 2255) rfl rfl rfl rfl rfl ?_
  refine x_iload (pc' := 2257) rfl rfl rfl ?_
  refine x_iconst (pc' := 2258) rfl rfl ?_
  refine x_iadd (pc' := 2259) (z := io (i + 1)) rfl rfl (io_add i 1) ?_
  refine x_iald (pc' := 2260) (N := L) (x := xs (i + 1)) rfl rfl rfl (HN l1) (io_in (p := i + 1) (N := L) (by omega) (by omega)) (Eq.trans (congrArg (sA t1 29 0) (nn_io (p := i + 1) (by omega))) (HA l1 _)) ?_
  refine x_cv (ls0 := [_, _]) (rest := []) rfl rfl rfl rfl rfl ?_
  refine R230 hV (fun t2 h2 c2 => ?_)
  refine sK_i (pc' := 2263) rfl ?_
  refine x_istore (pc' := 2265) (ls' := [_, _, _, _, _, _, _]) rfl rfl rfl rfl ?_
  have W2 : Wc t2 (sp112 M n (xs (i + 1))).2.2.1 (sp112 M n (xs (i + 1))).2.2.2 T1 L1 (A + 2) (B + 12) := W_cp c2 W1
  have HN2 : sN t2 29 0 = L := (congrFun (congrFun (cpN c2) 29) 0).trans (HN l1)
  have HA2 : ∀ p, sA t2 29 0 p = xs p := fun p => (cpA c2 rfl).trans (HA l1 p)
  have HD2 := (⟨W2, h2, Zr_cp c2 z1, HA2, HN2⟩ : Hd t2 (sp112 M n (xs (i + 1))).2.2.1 (sp112 M n (xs (i + 1))).2.2.2 T1 L1 (A + 2) (B + 12) xs L)
  have q2 := fun y5 y6 => q t2 T1 L1 y5 y6 HD2 hr
  have hout : (sp112 M n (xs (i + 1))).1 = 0 → sL t2 23 0 0 = (sp112 M n (xs (i + 1))).2.1.toInt64 := fun h => (congrFun (congrFun (congrFun (cpL c2) 23) 0) 0).trans (o1 h)
  have hc2 : Cn t2 := W2.2.1.1
  clear q HD2 hr W2 W1 o1
  generalize (sp112 M n (xs (i + 1))) = r at *
  have fin : X 297 2938 [.inr (.inr (29, (some 0))), .inr (.inr (11, (some 0))), .inr (.inr (12, (some 0))), .inr (.inr (23, (some 0))), .inl (io i), .inl (io r.1), .inl r.2.1] [] t2 Q := by
    refine x_iinc (pc' := 2941) (y := io (i + 7)) (ls' := [_, _, _, _, _, _, _]) rfl rfl rfl (io_add i 7) rfl ?_
    refine x_goto (pc' := 23) rfl rfl ?_
    exact q2 _ _
  refine x_aload_n (pc' := 2266) rfl rfl rfl rfl rfl ?_
  refine x_cv (ls0 := [_]) (rest := []) rfl rfl rfl rfl rfl ?_
  refine x_aload_n (pc' := 1) rfl rfl rfl rfl rfl ?_
  refine x_gI (pc' := 4) (x := io r.1) rfl rfl rfl ((gI h2 rfl).trans j2) ?_
  refine x_reti rfl rfl ?_
  refine sK_i (pc' := 2269) rfl ?_
  refine x_iload (pc' := 2271) rfl rfl rfl ?_
  refine x_icmp (a' := 2276) (pc' := 2274) (z := true) rfl rfl rfl (show decide (io r.1 = io r.1) = true from decide_eq_true rfl) (fun _ => ?_) (fun h => by cases h)
  refine x_iload (pc' := 2278) rfl rfl rfl ?_
  have gof : X 297 2293 [.inr (.inr (29, (some 0))), .inr (.inr (11, (some 0))), .inr (.inr (12, (some 0))), .inr (.inr (23, (some 0))), .inl (io i), .inl (io r.1), .inl r.2.1] [] t2 Q := by
    refine x_goto (pc' := 2938) rfl rfl ?_
    exact fin
  by_cases h0 : r.1 = 0
  · refine x_if (a' := 2293) (pc' := 2281) (z := false) rfl rfl rfl (by rw [h0]; rfl) (fun h => by cases h) (fun _ => ?_)
    refine x_aload_n (pc' := 2282) rfl rfl rfl rfl rfl ?_
    refine x_iconst (pc' := 2283) rfl rfl ?_
    refine x_lald (pc' := 2284) (N := 1) (x := r.2.1.toInt64) rfl rfl (kN_23_0 hc2) (by decide) (hout h0) ?_
    refine x_iload (pc' := 2286) rfl rfl rfl ?_
    refine x_i2l (pc' := 2287) rfl rfl rfl ?_
    refine x_lcmp (pc' := 2288) (z := 0) rfl rfl (sLcmp_s _) ?_
    refine x_if (a' := 2293) (pc' := 2291) (z := true) rfl rfl rfl (by decide) (fun _ => gof) (fun h => by cases h)
  · refine x_if (a' := 2293) (pc' := 2281) (z := true) rfl rfl rfl ((ic_ne (p := r.1) (q := 0) (by omega) (by decide)).trans (decide_eq_true h0)) (fun _ => gof) (fun h => by cases h)
theorem lc_29 (hd : Hd t M n T Ls A B xs L) (hv : Hv M n e) (he : e ≤ 599) (hi : i + 7 ≤ L) (hL : L ≤ 3584) (hk : ((xs i) &&& 63) = 29)
    (q : ∀ t' T' Ls' (y5 y6 : sV), Hd t' (sp113 M n (xs (i + 1))).2.2.1 (sp113 M n (xs (i + 1))).2.2.2 T' Ls' (A + 2) (B + 12) xs L → Hv (sp113 M n (xs (i + 1))).2.2.1 (sp113 M n (xs (i + 1))).2.2.2 (e + 1) → X 297 23 [.inr (.inr (29, (some 0))), .inr (.inr (11, (some 0))), .inr (.inr (12, (some 0))), .inr (.inr (23, (some 0))), .inl (io (i + 7)), y5, y6] [] t' Q) :
    X 297 23 [.inr (.inr (29, (some 0))), .inr (.inr (11, (some 0))), .inr (.inr (12, (some 0))), .inr (.inr (23, (some 0))), .inl (io i), y0, y1] [] t Q := by
  have hTT := Hv_T hv
  have hTN : tN M = T := W_tN hd.1
  rw [hTN] at hTT
  have hI : mI M 801 = io T := hTT.2.2
  have hT4 : T < 4096 := by omega
  obtain ⟨j1, j2⟩ : (sp113 M n (xs (i + 1))).1 ≤ 1 ∧ mI (sp113 M n (xs (i + 1))).2.2.1 768 = io (sp113 M n (xs (i + 1))).1 := J113
  have hr : Hv (sp113 M n (xs (i + 1))).2.2.1 (sp113 M n (xs (i + 1))).2.2.2 (e + 1) := Hv_e (H113 hv)
  have HN : ∀ {t1 : sT}, lw t1 t → sN t1 29 0 = L := fun h => (congrFun h.2.1 0).trans hd.2.2.2.2
  have HA : ∀ {t1 : sT}, lw t1 t → ∀ p, sA t1 29 0 p = xs p := fun h p => (congrFun (congrFun h.1 0) p).trans (hd.2.2.2.1 p)
  have l0 : lw t t := ⟨rfl, rfl, rfl⟩
  refine hd_40 hd hi hL ?_
  refine x_switch (pc' := 2296) rfl (by rw [hk]; decide) ?_
  refine x_aload_n (pc' := 2297) rfl rfl rfl rfl rfl ?_
  refine x_aload_n (pc' := 2298) rfl rfl rfl rfl rfl ?_
  refine x_iload (pc' := 2300) rfl rfl rfl ?_
  refine x_iconst (pc' := 2301) rfl rfl ?_
  refine x_iadd (pc' := 2302) (z := io (i + 1)) rfl rfl (io_add i 1) ?_
  refine x_iald (pc' := 2303) (N := L) (x := xs (i + 1)) rfl rfl rfl (HN l0) (io_in (p := i + 1) (N := L) (by omega) (by omega)) (Eq.trans (congrArg (sA t 29 0) (nn_io (p := i + 1) (by omega))) (HA l0 _)) ?_
  refine x_aload_n (pc' := 2304) rfl rfl rfl rfl rfl ?_
  refine x_cs (ls0 := [_, _, _, sJk]) (rest := []) rfl rfl rfl rfl ?_
  refine wr_287 (r := (sp113 M n (xs (i + 1)))) (w := 0) j1 hd.2.2.1 (fun Q' h => C113 hd.1 h) (fun t1 T1 L1 W1 l1 z1 o1 => ?_)
  refine sK_i (pc' := 2307) rfl ?_
  refine x_istore (pc' := 2309) (ls' := [_, _, _, _, _, _, _]) rfl rfl rfl rfl ?_
  have hV : Vr t1 M n := ⟨l1.2.2.trans hd.2.1, W1.2.1.1, hd.1.2.2.1⟩
  refine x_aload_n (pc' := 2310) rfl rfl rfl rfl rfl ?_
  refine x_aload_n (pc' := 2311) rfl rfl rfl rfl rfl ?_
  refine x_iload (pc' := 2313) rfl rfl rfl ?_
  refine x_iconst (pc' := 2314) rfl rfl ?_
  refine x_iadd (pc' := 2315) (z := io (i + 1)) rfl rfl (io_add i 1) ?_
  refine x_iald (pc' := 2316) (N := L) (x := xs (i + 1)) rfl rfl rfl (HN l1) (io_in (p := i + 1) (N := L) (by omega) (by omega)) (Eq.trans (congrArg (sA t1 29 0) (nn_io (p := i + 1) (by omega))) (HA l1 _)) ?_
  refine x_cv (ls0 := [_, _]) (rest := []) rfl rfl rfl rfl rfl ?_
  refine R231 hV (fun t2 h2 c2 => ?_)
  refine sK_i (pc' := 2319) rfl ?_
  refine x_istore (pc' := 2321) (ls' := [_, _, _, _, _, _, _]) rfl rfl rfl rfl ?_
  have W2 : Wc t2 (sp113 M n (xs (i + 1))).2.2.1 (sp113 M n (xs (i + 1))).2.2.2 T1 L1 (A + 2) (B + 12) := W_cp c2 W1
  have HN2 : sN t2 29 0 = L := (congrFun (congrFun (cpN c2) 29) 0).trans (HN l1)
  have HA2 : ∀ p, sA t2 29 0 p = xs p := fun p => (cpA c2 rfl).trans (HA l1 p)
  have HD2 := (⟨W2, h2, Zr_cp c2 z1, HA2, HN2⟩ : Hd t2 (sp113 M n (xs (i + 1))).2.2.1 (sp113 M n (xs (i + 1))).2.2.2 T1 L1 (A + 2) (B + 12) xs L)
  have q2 := fun y5 y6 => q t2 T1 L1 y5 y6 HD2 hr
  have hout : (sp113 M n (xs (i + 1))).1 = 0 → sL t2 23 0 0 = (sp113 M n (xs (i + 1))).2.1.toInt64 := fun h => (congrFun (congrFun (congrFun (cpL c2) 23) 0) 0).trans (o1 h)
  have hc2 : Cn t2 := W2.2.1.1
  clear q HD2 hr W2 W1 o1
  generalize (sp113 M n (xs (i + 1))) = r at *
  have fin : X 297 2938 [.inr (.inr (29, (some 0))), .inr (.inr (11, (some 0))), .inr (.inr (12, (some 0))), .inr (.inr (23, (some 0))), .inl (io i), .inl (io r.1), .inl r.2.1] [] t2 Q := by
    refine x_iinc (pc' := 2941) (y := io (i + 7)) (ls' := [_, _, _, _, _, _, _]) rfl rfl rfl (io_add i 7) rfl ?_
    refine x_goto (pc' := 23) rfl rfl ?_
    exact q2 _ _
  refine x_aload_n (pc' := 2322) rfl rfl rfl rfl rfl ?_
  refine x_cv (ls0 := [_]) (rest := []) rfl rfl rfl rfl rfl ?_
  refine x_aload_n (pc' := 1) rfl rfl rfl rfl rfl ?_
  refine x_gI (pc' := 4) (x := io r.1) rfl rfl rfl ((gI h2 rfl).trans j2) ?_
  refine x_reti rfl rfl ?_
  refine sK_i (pc' := 2325) rfl ?_
  refine x_iload (pc' := 2327) rfl rfl rfl ?_
  refine x_icmp (a' := 2332) (pc' := 2330) (z := true) rfl rfl rfl (show decide (io r.1 = io r.1) = true from decide_eq_true rfl) (fun _ => ?_) (fun h => by cases h)
  refine x_iload (pc' := 2334) rfl rfl rfl ?_
  have gof : X 297 2349 [.inr (.inr (29, (some 0))), .inr (.inr (11, (some 0))), .inr (.inr (12, (some 0))), .inr (.inr (23, (some 0))), .inl (io i), .inl (io r.1), .inl r.2.1] [] t2 Q := by
    refine x_goto (pc' := 2938) rfl rfl ?_
    exact fin
  by_cases h0 : r.1 = 0
  · refine x_if (a' := 2349) (pc' := 2337) (z := false) rfl rfl rfl (by rw [h0]; rfl) (fun h => by cases h) (fun _ => ?_)
    refine x_aload_n (pc' := 2338) rfl rfl rfl rfl rfl ?_
    refine x_iconst (pc' := 2339) rfl rfl ?_
    refine x_lald (pc' := 2340) (N := 1) (x := r.2.1.toInt64) rfl rfl (kN_23_0 hc2) (by decide) (hout h0) ?_
    refine x_iload (pc' := 2342) rfl rfl rfl ?_
    refine x_i2l (pc' := 2343) rfl rfl rfl ?_
    refine x_lcmp (pc' := 2344) (z := 0) rfl rfl (sLcmp_s _) ?_
    refine x_if (a' := 2349) (pc' := 2347) (z := true) rfl rfl rfl (by decide) (fun _ => gof) (fun h => by cases h)
  · refine x_if (a' := 2349) (pc' := 2337) (z := true) rfl rfl rfl ((ic_ne (p := r.1) (q := 0) (by omega) (by decide)).trans (decide_eq_true h0)) (fun _ => gof) (fun h => by cases h)
theorem lc_30 (hd : Hd t M n T Ls A B xs L) (hv : Hv M n e) (he : e ≤ 599) (hi : i + 7 ≤ L) (hL : L ≤ 3584) (hk : ((xs i) &&& 63) = 30)
    (q : ∀ t' T' Ls' (y5 y6 : sV), Hd t' (sp114 M n T).2.2.1 (sp114 M n T).2.2.2 T' Ls' (A + 2) (B + 12) xs L → Hv (sp114 M n T).2.2.1 (sp114 M n T).2.2.2 (e + 1) → X 297 23 [.inr (.inr (29, (some 0))), .inr (.inr (11, (some 0))), .inr (.inr (12, (some 0))), .inr (.inr (23, (some 0))), .inl (io (i + 7)), y5, y6] [] t' Q) :
    X 297 23 [.inr (.inr (29, (some 0))), .inr (.inr (11, (some 0))), .inr (.inr (12, (some 0))), .inr (.inr (23, (some 0))), .inl (io i), y0, y1] [] t Q := by
  have hTT := Hv_T hv
  have hTN : tN M = T := W_tN hd.1
  rw [hTN] at hTT
  have hI : mI M 801 = io T := hTT.2.2
  have hT4 : T < 4096 := by omega
  obtain ⟨j1, j2⟩ : (sp114 M n T).1 ≤ 0 ∧ mI (sp114 M n T).2.2.1 768 = io (sp114 M n T).1 := J114
  have hr : Hv (sp114 M n T).2.2.1 (sp114 M n T).2.2.2 (e + 1) := Hv_e (H114 hv)
  have HN : ∀ {t1 : sT}, lw t1 t → sN t1 29 0 = L := fun h => (congrFun h.2.1 0).trans hd.2.2.2.2
  have HA : ∀ {t1 : sT}, lw t1 t → ∀ p, sA t1 29 0 p = xs p := fun h p => (congrFun (congrFun h.1 0) p).trans (hd.2.2.2.1 p)
  have l0 : lw t t := ⟨rfl, rfl, rfl⟩
  refine hd_40 hd hi hL ?_
  refine x_switch (pc' := 2352) rfl (by rw [hk]; decide) ?_
  refine x_aload_n (pc' := 2353) rfl rfl rfl rfl rfl ?_
  refine x_cv (ls0 := [_]) (rest := []) rfl rfl rfl rfl rfl ?_
  refine X_zr hd.2.2.1 (C114 hd.1 (fun t1 T1 L1 W1 e1 _ z1 => ?_))
  have l1 := lw_ep e1
  refine sK_i (pc' := 2356) rfl ?_
  refine x_aload_n (pc' := 2357) rfl rfl rfl rfl rfl ?_
  have hV : Vr t1 M n := ⟨l1.2.2.trans hd.2.1, W1.2.1.1, hd.1.2.2.1⟩
  refine x_cv (ls0 := [_]) (rest := [_]) rfl rfl rfl rfl rfl ?_
  refine R232 hV hI hT4 (fun t2 h2 c2 => ?_)
  refine sK_i (pc' := 2360) rfl ?_
  have W2 : Wc t2 (sp114 M n T).2.2.1 (sp114 M n T).2.2.2 T1 L1 (A + 2) (B + 12) := W_cp c2 W1
  have HN2 : sN t2 29 0 = L := (congrFun (congrFun (cpN c2) 29) 0).trans (HN l1)
  have HA2 : ∀ p, sA t2 29 0 p = xs p := fun p => (cpA c2 rfl).trans (HA l1 p)
  refine x_icmp (a' := 2938) (pc' := 2363) (z := true) rfl rfl rfl (decide_eq_true rfl) (fun _ => ?_) (fun h => by cases h)
  refine x_iinc (pc' := 2941) (y := io (i + 7)) (ls' := [_, _, _, _, _, _, _]) rfl rfl rfl (io_add i 7) rfl ?_
  refine x_goto (pc' := 23) rfl rfl ?_
  exact q t2 T1 L1 _ _ ⟨W2, h2, Zr_cp c2 z1, HA2, HN2⟩ hr
theorem lc_31 (hd : Hd t M n T Ls A B xs L) (hv : Hv M n e) (he : e ≤ 599) (hi : i + 7 ≤ L) (hL : L ≤ 3584) (hk : ((xs i) &&& 63) = 31)
    (q : ∀ t' T' Ls' (y5 y6 : sV), Hd t' (sp115 M n T (xs (i + 1)) (xs (i + 2))).2.2.1 (sp115 M n T (xs (i + 1)) (xs (i + 2))).2.2.2 T' Ls' (A + 2) (B + 12) xs L → Hv (sp115 M n T (xs (i + 1)) (xs (i + 2))).2.2.1 (sp115 M n T (xs (i + 1)) (xs (i + 2))).2.2.2 (e + 1) → X 297 23 [.inr (.inr (29, (some 0))), .inr (.inr (11, (some 0))), .inr (.inr (12, (some 0))), .inr (.inr (23, (some 0))), .inl (io (i + 7)), y5, y6] [] t' Q) :
    X 297 23 [.inr (.inr (29, (some 0))), .inr (.inr (11, (some 0))), .inr (.inr (12, (some 0))), .inr (.inr (23, (some 0))), .inl (io i), y0, y1] [] t Q := by
  have hTT := Hv_T hv
  have hTN : tN M = T := W_tN hd.1
  rw [hTN] at hTT
  have hI : mI M 801 = io T := hTT.2.2
  have hT4 : T < 4096 := by omega
  obtain ⟨j1, j2⟩ : (sp115 M n T (xs (i + 1)) (xs (i + 2))).1 ≤ 2 ∧ mI (sp115 M n T (xs (i + 1)) (xs (i + 2))).2.2.1 768 = io (sp115 M n T (xs (i + 1)) (xs (i + 2))).1 := J115
  have hr : Hv (sp115 M n T (xs (i + 1)) (xs (i + 2))).2.2.1 (sp115 M n T (xs (i + 1)) (xs (i + 2))).2.2.2 (e + 1) := Hv_e (H115 hv)
  have HN : ∀ {t1 : sT}, lw t1 t → sN t1 29 0 = L := fun h => (congrFun h.2.1 0).trans hd.2.2.2.2
  have HA : ∀ {t1 : sT}, lw t1 t → ∀ p, sA t1 29 0 p = xs p := fun h p => (congrFun (congrFun h.1 0) p).trans (hd.2.2.2.1 p)
  have l0 : lw t t := ⟨rfl, rfl, rfl⟩
  refine hd_40 hd hi hL ?_
  refine x_switch (pc' := 2365) rfl (by rw [hk]; decide) ?_
  refine x_aload_n (pc' := 2366) rfl rfl rfl rfl rfl ?_
  refine x_aload_n (pc' := 2367) rfl rfl rfl rfl rfl ?_
  refine x_iload (pc' := 2369) rfl rfl rfl ?_
  refine x_iconst (pc' := 2370) rfl rfl ?_
  refine x_iadd (pc' := 2371) (z := io (i + 1)) rfl rfl (io_add i 1) ?_
  refine x_iald (pc' := 2372) (N := L) (x := xs (i + 1)) rfl rfl rfl (HN l0) (io_in (p := i + 1) (N := L) (by omega) (by omega)) (Eq.trans (congrArg (sA t 29 0) (nn_io (p := i + 1) (by omega))) (HA l0 _)) ?_
  refine x_aload_n (pc' := 2373) rfl rfl rfl rfl rfl ?_
  refine x_iload (pc' := 2375) rfl rfl rfl ?_
  refine x_iconst (pc' := 2376) rfl rfl ?_
  refine x_iadd (pc' := 2377) (z := io (i + 2)) rfl rfl (io_add i 2) ?_
  refine x_iald (pc' := 2378) (N := L) (x := xs (i + 2)) rfl rfl rfl (HN l0) (io_in (p := i + 2) (N := L) (by omega) (by omega)) (Eq.trans (congrArg (sA t 29 0) (nn_io (p := i + 2) (by omega))) (HA l0 _)) ?_
  refine x_aload_n (pc' := 2379) rfl rfl rfl rfl rfl ?_
  refine x_cs (ls0 := [_, _, _, _, sJk]) (rest := []) rfl rfl rfl rfl ?_
  refine wr_288 (r := (sp115 M n T (xs (i + 1)) (xs (i + 2)))) (w := 0) j1 hd.2.2.1 (fun Q' h => C115 hd.1 h) (fun t1 T1 L1 W1 l1 z1 o1 => ?_)
  refine sK_i (pc' := 2382) rfl ?_
  refine x_istore (pc' := 2384) (ls' := [_, _, _, _, _, _, _]) rfl rfl rfl rfl ?_
  have hV : Vr t1 M n := ⟨l1.2.2.trans hd.2.1, W1.2.1.1, hd.1.2.2.1⟩
  refine x_aload_n (pc' := 2385) rfl rfl rfl rfl rfl ?_
  refine x_aload_n (pc' := 2386) rfl rfl rfl rfl rfl ?_
  refine x_iload (pc' := 2388) rfl rfl rfl ?_
  refine x_iconst (pc' := 2389) rfl rfl ?_
  refine x_iadd (pc' := 2390) (z := io (i + 1)) rfl rfl (io_add i 1) ?_
  refine x_iald (pc' := 2391) (N := L) (x := xs (i + 1)) rfl rfl rfl (HN l1) (io_in (p := i + 1) (N := L) (by omega) (by omega)) (Eq.trans (congrArg (sA t1 29 0) (nn_io (p := i + 1) (by omega))) (HA l1 _)) ?_
  refine x_aload_n (pc' := 2392) rfl rfl rfl rfl rfl ?_
  refine x_iload (pc' := 2394) rfl rfl rfl ?_
  refine x_iconst (pc' := 2395) rfl rfl ?_
  refine x_iadd (pc' := 2396) (z := io (i + 2)) rfl rfl (io_add i 2) ?_
  refine x_iald (pc' := 2397) (N := L) (x := xs (i + 2)) rfl rfl rfl (HN l1) (io_in (p := i + 2) (N := L) (by omega) (by omega)) (Eq.trans (congrArg (sA t1 29 0) (nn_io (p := i + 2) (by omega))) (HA l1 _)) ?_
  refine x_cv (ls0 := [_, _, _, sJk]) (rest := []) rfl rfl rfl rfl rfl ?_
  refine R233 hV hI hT4 (fun t2 h2 c2 => ?_)
  refine sK_i (pc' := 2400) rfl ?_
  refine x_istore (pc' := 2402) (ls' := [_, _, _, _, _, _, _]) rfl rfl rfl rfl ?_
  have W2 : Wc t2 (sp115 M n T (xs (i + 1)) (xs (i + 2))).2.2.1 (sp115 M n T (xs (i + 1)) (xs (i + 2))).2.2.2 T1 L1 (A + 2) (B + 12) := W_cp c2 W1
  have HN2 : sN t2 29 0 = L := (congrFun (congrFun (cpN c2) 29) 0).trans (HN l1)
  have HA2 : ∀ p, sA t2 29 0 p = xs p := fun p => (cpA c2 rfl).trans (HA l1 p)
  have HD2 := (⟨W2, h2, Zr_cp c2 z1, HA2, HN2⟩ : Hd t2 (sp115 M n T (xs (i + 1)) (xs (i + 2))).2.2.1 (sp115 M n T (xs (i + 1)) (xs (i + 2))).2.2.2 T1 L1 (A + 2) (B + 12) xs L)
  have q2 := fun y5 y6 => q t2 T1 L1 y5 y6 HD2 hr
  have hout : (sp115 M n T (xs (i + 1)) (xs (i + 2))).1 = 0 → sL t2 23 0 0 = (sp115 M n T (xs (i + 1)) (xs (i + 2))).2.1.toInt64 := fun h => (congrFun (congrFun (congrFun (cpL c2) 23) 0) 0).trans (o1 h)
  have hc2 : Cn t2 := W2.2.1.1
  clear q HD2 hr W2 W1 o1
  generalize (sp115 M n T (xs (i + 1)) (xs (i + 2))) = r at *
  have fin : X 297 2938 [.inr (.inr (29, (some 0))), .inr (.inr (11, (some 0))), .inr (.inr (12, (some 0))), .inr (.inr (23, (some 0))), .inl (io i), .inl (io r.1), .inl r.2.1] [] t2 Q := by
    refine x_iinc (pc' := 2941) (y := io (i + 7)) (ls' := [_, _, _, _, _, _, _]) rfl rfl rfl (io_add i 7) rfl ?_
    refine x_goto (pc' := 23) rfl rfl ?_
    exact q2 _ _
  refine x_aload_n (pc' := 2403) rfl rfl rfl rfl rfl ?_
  refine x_cv (ls0 := [_]) (rest := []) rfl rfl rfl rfl rfl ?_
  refine x_aload_n (pc' := 1) rfl rfl rfl rfl rfl ?_
  refine x_gI (pc' := 4) (x := io r.1) rfl rfl rfl ((gI h2 rfl).trans j2) ?_
  refine x_reti rfl rfl ?_
  refine sK_i (pc' := 2406) rfl ?_
  refine x_iload (pc' := 2408) rfl rfl rfl ?_
  refine x_icmp (a' := 2413) (pc' := 2411) (z := true) rfl rfl rfl (show decide (io r.1 = io r.1) = true from decide_eq_true rfl) (fun _ => ?_) (fun h => by cases h)
  refine x_iload (pc' := 2415) rfl rfl rfl ?_
  have gof : X 297 2430 [.inr (.inr (29, (some 0))), .inr (.inr (11, (some 0))), .inr (.inr (12, (some 0))), .inr (.inr (23, (some 0))), .inl (io i), .inl (io r.1), .inl r.2.1] [] t2 Q := by
    refine x_goto (pc' := 2938) rfl rfl ?_
    exact fin
  by_cases h0 : r.1 = 0
  · refine x_if (a' := 2430) (pc' := 2418) (z := false) rfl rfl rfl (by rw [h0]; rfl) (fun h => by cases h) (fun _ => ?_)
    refine x_aload_n (pc' := 2419) rfl rfl rfl rfl rfl ?_
    refine x_iconst (pc' := 2420) rfl rfl ?_
    refine x_lald (pc' := 2421) (N := 1) (x := r.2.1.toInt64) rfl rfl (kN_23_0 hc2) (by decide) (hout h0) ?_
    refine x_iload (pc' := 2423) rfl rfl rfl ?_
    refine x_i2l (pc' := 2424) rfl rfl rfl ?_
    refine x_lcmp (pc' := 2425) (z := 0) rfl rfl (sLcmp_s _) ?_
    refine x_if (a' := 2430) (pc' := 2428) (z := true) rfl rfl rfl (by decide) (fun _ => gof) (fun h => by cases h)
  · refine x_if (a' := 2430) (pc' := 2418) (z := true) rfl rfl rfl ((ic_ne (p := r.1) (q := 0) (by omega) (by decide)).trans (decide_eq_true h0)) (fun _ => gof) (fun h => by cases h)
theorem lc_32 (hd : Hd t M n T Ls A B xs L) (hv : Hv M n e) (he : e ≤ 599) (hi : i + 7 ≤ L) (hL : L ≤ 3584) (hk : ((xs i) &&& 63) = 32)
    (q : ∀ t' T' Ls' (y5 y6 : sV), Hd t' (sp116 M n (xs (i + 1)) (xs (i + 2))).2.2.1 (sp116 M n (xs (i + 1)) (xs (i + 2))).2.2.2 T' Ls' (A + 2) (B + 12) xs L → Hv (sp116 M n (xs (i + 1)) (xs (i + 2))).2.2.1 (sp116 M n (xs (i + 1)) (xs (i + 2))).2.2.2 (e + 1) → X 297 23 [.inr (.inr (29, (some 0))), .inr (.inr (11, (some 0))), .inr (.inr (12, (some 0))), .inr (.inr (23, (some 0))), .inl (io (i + 7)), y5, y6] [] t' Q) :
    X 297 23 [.inr (.inr (29, (some 0))), .inr (.inr (11, (some 0))), .inr (.inr (12, (some 0))), .inr (.inr (23, (some 0))), .inl (io i), y0, y1] [] t Q := by
  have hTT := Hv_T hv
  have hTN : tN M = T := W_tN hd.1
  rw [hTN] at hTT
  have hI : mI M 801 = io T := hTT.2.2
  have hT4 : T < 4096 := by omega
  obtain ⟨j1, j2⟩ : (sp116 M n (xs (i + 1)) (xs (i + 2))).1 ≤ 1 ∧ mI (sp116 M n (xs (i + 1)) (xs (i + 2))).2.2.1 768 = io (sp116 M n (xs (i + 1)) (xs (i + 2))).1 := J116
  have hr : Hv (sp116 M n (xs (i + 1)) (xs (i + 2))).2.2.1 (sp116 M n (xs (i + 1)) (xs (i + 2))).2.2.2 (e + 1) := Hv_e (H116 hv)
  have HN : ∀ {t1 : sT}, lw t1 t → sN t1 29 0 = L := fun h => (congrFun h.2.1 0).trans hd.2.2.2.2
  have HA : ∀ {t1 : sT}, lw t1 t → ∀ p, sA t1 29 0 p = xs p := fun h p => (congrFun (congrFun h.1 0) p).trans (hd.2.2.2.1 p)
  have l0 : lw t t := ⟨rfl, rfl, rfl⟩
  refine hd_40 hd hi hL ?_
  refine x_switch (pc' := 2433) rfl (by rw [hk]; decide) ?_
  refine x_aload_n (pc' := 2434) rfl rfl rfl rfl rfl ?_
  refine x_aload_n (pc' := 2435) rfl rfl rfl rfl rfl ?_
  refine x_iload (pc' := 2437) rfl rfl rfl ?_
  refine x_iconst (pc' := 2438) rfl rfl ?_
  refine x_iadd (pc' := 2439) (z := io (i + 1)) rfl rfl (io_add i 1) ?_
  refine x_iald (pc' := 2440) (N := L) (x := xs (i + 1)) rfl rfl rfl (HN l0) (io_in (p := i + 1) (N := L) (by omega) (by omega)) (Eq.trans (congrArg (sA t 29 0) (nn_io (p := i + 1) (by omega))) (HA l0 _)) ?_
  refine x_aload_n (pc' := 2441) rfl rfl rfl rfl rfl ?_
  refine x_iload (pc' := 2443) rfl rfl rfl ?_
  refine x_iconst (pc' := 2444) rfl rfl ?_
  refine x_iadd (pc' := 2445) (z := io (i + 2)) rfl rfl (io_add i 2) ?_
  refine x_iald (pc' := 2446) (N := L) (x := xs (i + 2)) rfl rfl rfl (HN l0) (io_in (p := i + 2) (N := L) (by omega) (by omega)) (Eq.trans (congrArg (sA t 29 0) (nn_io (p := i + 2) (by omega))) (HA l0 _)) ?_
  refine x_aload_n (pc' := 2447) rfl rfl rfl rfl rfl ?_
  refine x_cs (ls0 := [_, _, _, _, sJk]) (rest := []) rfl rfl rfl rfl ?_
  refine wr_289 (r := (sp116 M n (xs (i + 1)) (xs (i + 2)))) (w := 0) j1 hd.2.2.1 (fun Q' h => C116 hd.1 h) (fun t1 T1 L1 W1 l1 z1 o1 => ?_)
  refine sK_i (pc' := 2450) rfl ?_
  refine x_istore (pc' := 2452) (ls' := [_, _, _, _, _, _, _]) rfl rfl rfl rfl ?_
  have hV : Vr t1 M n := ⟨l1.2.2.trans hd.2.1, W1.2.1.1, hd.1.2.2.1⟩
  refine x_aload_n (pc' := 2453) rfl rfl rfl rfl rfl ?_
  refine x_aload_n (pc' := 2454) rfl rfl rfl rfl rfl ?_
  refine x_iload (pc' := 2456) rfl rfl rfl ?_
  refine x_iconst (pc' := 2457) rfl rfl ?_
  refine x_iadd (pc' := 2458) (z := io (i + 1)) rfl rfl (io_add i 1) ?_
  refine x_iald (pc' := 2459) (N := L) (x := xs (i + 1)) rfl rfl rfl (HN l1) (io_in (p := i + 1) (N := L) (by omega) (by omega)) (Eq.trans (congrArg (sA t1 29 0) (nn_io (p := i + 1) (by omega))) (HA l1 _)) ?_
  refine x_aload_n (pc' := 2460) rfl rfl rfl rfl rfl ?_
  refine x_iload (pc' := 2462) rfl rfl rfl ?_
  refine x_iconst (pc' := 2463) rfl rfl ?_
  refine x_iadd (pc' := 2464) (z := io (i + 2)) rfl rfl (io_add i 2) ?_
  refine x_iald (pc' := 2465) (N := L) (x := xs (i + 2)) rfl rfl rfl (HN l1) (io_in (p := i + 2) (N := L) (by omega) (by omega)) (Eq.trans (congrArg (sA t1 29 0) (nn_io (p := i + 2) (by omega))) (HA l1 _)) ?_
  refine x_cv (ls0 := [_, _, _]) (rest := []) rfl rfl rfl rfl rfl ?_
  refine R234 hV (fun t2 h2 c2 => ?_)
  refine sK_i (pc' := 2468) rfl ?_
  refine x_istore (pc' := 2470) (ls' := [_, _, _, _, _, _, _]) rfl rfl rfl rfl ?_
  have W2 : Wc t2 (sp116 M n (xs (i + 1)) (xs (i + 2))).2.2.1 (sp116 M n (xs (i + 1)) (xs (i + 2))).2.2.2 T1 L1 (A + 2) (B + 12) := W_cp c2 W1
  have HN2 : sN t2 29 0 = L := (congrFun (congrFun (cpN c2) 29) 0).trans (HN l1)
  have HA2 : ∀ p, sA t2 29 0 p = xs p := fun p => (cpA c2 rfl).trans (HA l1 p)
  have HD2 := (⟨W2, h2, Zr_cp c2 z1, HA2, HN2⟩ : Hd t2 (sp116 M n (xs (i + 1)) (xs (i + 2))).2.2.1 (sp116 M n (xs (i + 1)) (xs (i + 2))).2.2.2 T1 L1 (A + 2) (B + 12) xs L)
  have q2 := fun y5 y6 => q t2 T1 L1 y5 y6 HD2 hr
  have hout : (sp116 M n (xs (i + 1)) (xs (i + 2))).1 = 0 → sL t2 23 0 0 = (sp116 M n (xs (i + 1)) (xs (i + 2))).2.1.toInt64 := fun h => (congrFun (congrFun (congrFun (cpL c2) 23) 0) 0).trans (o1 h)
  have hc2 : Cn t2 := W2.2.1.1
  clear q HD2 hr W2 W1 o1
  generalize (sp116 M n (xs (i + 1)) (xs (i + 2))) = r at *
  have fin : X 297 2938 [.inr (.inr (29, (some 0))), .inr (.inr (11, (some 0))), .inr (.inr (12, (some 0))), .inr (.inr (23, (some 0))), .inl (io i), .inl (io r.1), .inl r.2.1] [] t2 Q := by
    refine x_iinc (pc' := 2941) (y := io (i + 7)) (ls' := [_, _, _, _, _, _, _]) rfl rfl rfl (io_add i 7) rfl ?_
    refine x_goto (pc' := 23) rfl rfl ?_
    exact q2 _ _
  refine x_aload_n (pc' := 2471) rfl rfl rfl rfl rfl ?_
  refine x_cv (ls0 := [_]) (rest := []) rfl rfl rfl rfl rfl ?_
  refine x_aload_n (pc' := 1) rfl rfl rfl rfl rfl ?_
  refine x_gI (pc' := 4) (x := io r.1) rfl rfl rfl ((gI h2 rfl).trans j2) ?_
  refine x_reti rfl rfl ?_
  refine sK_i (pc' := 2474) rfl ?_
  refine x_iload (pc' := 2476) rfl rfl rfl ?_
  refine x_icmp (a' := 2481) (pc' := 2479) (z := true) rfl rfl rfl (show decide (io r.1 = io r.1) = true from decide_eq_true rfl) (fun _ => ?_) (fun h => by cases h)
  refine x_iload (pc' := 2483) rfl rfl rfl ?_
  have gof : X 297 2498 [.inr (.inr (29, (some 0))), .inr (.inr (11, (some 0))), .inr (.inr (12, (some 0))), .inr (.inr (23, (some 0))), .inl (io i), .inl (io r.1), .inl r.2.1] [] t2 Q := by
    refine x_goto (pc' := 2938) rfl rfl ?_
    exact fin
  by_cases h0 : r.1 = 0
  · refine x_if (a' := 2498) (pc' := 2486) (z := false) rfl rfl rfl (by rw [h0]; rfl) (fun h => by cases h) (fun _ => ?_)
    refine x_aload_n (pc' := 2487) rfl rfl rfl rfl rfl ?_
    refine x_iconst (pc' := 2488) rfl rfl ?_
    refine x_lald (pc' := 2489) (N := 1) (x := r.2.1.toInt64) rfl rfl (kN_23_0 hc2) (by decide) (hout h0) ?_
    refine x_iload (pc' := 2491) rfl rfl rfl ?_
    refine x_i2l (pc' := 2492) rfl rfl rfl ?_
    refine x_lcmp (pc' := 2493) (z := 0) rfl rfl (sLcmp_s _) ?_
    refine x_if (a' := 2498) (pc' := 2496) (z := true) rfl rfl rfl (by decide) (fun _ => gof) (fun h => by cases h)
  · refine x_if (a' := 2498) (pc' := 2486) (z := true) rfl rfl rfl ((ic_ne (p := r.1) (q := 0) (by omega) (by decide)).trans (decide_eq_true h0)) (fun _ => gof) (fun h => by cases h)
theorem lc_33 (hd : Hd t M n T Ls A B xs L) (hv : Hv M n e) (he : e ≤ 599) (hi : i + 7 ≤ L) (hL : L ≤ 3584) (hk : ((xs i) &&& 63) = 33)
    (q : ∀ t' T' Ls' (y5 y6 : sV), Hd t' (sp117 M n T (xs (i + 1)) (xs (i + 2))).2.2.1 (sp117 M n T (xs (i + 1)) (xs (i + 2))).2.2.2 T' Ls' (A + 2) (B + 12) xs L → Hv (sp117 M n T (xs (i + 1)) (xs (i + 2))).2.2.1 (sp117 M n T (xs (i + 1)) (xs (i + 2))).2.2.2 (e + 1) → X 297 23 [.inr (.inr (29, (some 0))), .inr (.inr (11, (some 0))), .inr (.inr (12, (some 0))), .inr (.inr (23, (some 0))), .inl (io (i + 7)), y5, y6] [] t' Q) :
    X 297 23 [.inr (.inr (29, (some 0))), .inr (.inr (11, (some 0))), .inr (.inr (12, (some 0))), .inr (.inr (23, (some 0))), .inl (io i), y0, y1] [] t Q := by
  have hTT := Hv_T hv
  have hTN : tN M = T := W_tN hd.1
  rw [hTN] at hTT
  have hI : mI M 801 = io T := hTT.2.2
  have hT4 : T < 4096 := by omega
  have hTi : Ti M T := hd.1.2.1.2.2.2.2.2.1
  obtain ⟨j1, j2⟩ : (sp117 M n T (xs (i + 1)) (xs (i + 2))).1 ≤ 1 ∧ mI (sp117 M n T (xs (i + 1)) (xs (i + 2))).2.2.1 768 = io (sp117 M n T (xs (i + 1)) (xs (i + 2))).1 := J117
  have hr : Hv (sp117 M n T (xs (i + 1)) (xs (i + 2))).2.2.1 (sp117 M n T (xs (i + 1)) (xs (i + 2))).2.2.2 (e + 1) := Hv_e (H117 hv)
  have HN : ∀ {t1 : sT}, lw t1 t → sN t1 29 0 = L := fun h => (congrFun h.2.1 0).trans hd.2.2.2.2
  have HA : ∀ {t1 : sT}, lw t1 t → ∀ p, sA t1 29 0 p = xs p := fun h p => (congrFun (congrFun h.1 0) p).trans (hd.2.2.2.1 p)
  have l0 : lw t t := ⟨rfl, rfl, rfl⟩
  refine hd_40 hd hi hL ?_
  refine x_switch (pc' := 2501) rfl (by rw [hk]; decide) ?_
  refine x_aload_n (pc' := 2502) rfl rfl rfl rfl rfl ?_
  refine x_aload_n (pc' := 2503) rfl rfl rfl rfl rfl ?_
  refine x_iload (pc' := 2505) rfl rfl rfl ?_
  refine x_iconst (pc' := 2506) rfl rfl ?_
  refine x_iadd (pc' := 2507) (z := io (i + 1)) rfl rfl (io_add i 1) ?_
  refine x_iald (pc' := 2508) (N := L) (x := xs (i + 1)) rfl rfl rfl (HN l0) (io_in (p := i + 1) (N := L) (by omega) (by omega)) (Eq.trans (congrArg (sA t 29 0) (nn_io (p := i + 1) (by omega))) (HA l0 _)) ?_
  refine x_aload_n (pc' := 2509) rfl rfl rfl rfl rfl ?_
  refine x_iload (pc' := 2511) rfl rfl rfl ?_
  refine x_iconst (pc' := 2512) rfl rfl ?_
  refine x_iadd (pc' := 2513) (z := io (i + 2)) rfl rfl (io_add i 2) ?_
  refine x_iald (pc' := 2514) (N := L) (x := xs (i + 2)) rfl rfl rfl (HN l0) (io_in (p := i + 2) (N := L) (by omega) (by omega)) (Eq.trans (congrArg (sA t 29 0) (nn_io (p := i + 2) (by omega))) (HA l0 _)) ?_
  refine x_aload_n (pc' := 2515) rfl rfl rfl rfl rfl ?_
  refine x_cs (ls0 := [_, _, _, _, sJk]) (rest := []) rfl rfl rfl rfl ?_
  refine wr_290 (r := (sp117 M n T (xs (i + 1)) (xs (i + 2)))) (w := 0) j1 hd.2.2.1 (fun Q' h => C117 hd.1 h) (fun t1 T1 L1 W1 l1 z1 o1 => ?_)
  refine sK_i (pc' := 2518) rfl ?_
  refine x_istore (pc' := 2520) (ls' := [_, _, _, _, _, _, _]) rfl rfl rfl rfl ?_
  have hV : Vr t1 M n := ⟨l1.2.2.trans hd.2.1, W1.2.1.1, hd.1.2.2.1⟩
  refine x_aload_n (pc' := 2521) rfl rfl rfl rfl rfl ?_
  refine x_aload_n (pc' := 2522) rfl rfl rfl rfl rfl ?_
  refine x_iload (pc' := 2524) rfl rfl rfl ?_
  refine x_iconst (pc' := 2525) rfl rfl ?_
  refine x_iadd (pc' := 2526) (z := io (i + 1)) rfl rfl (io_add i 1) ?_
  refine x_iald (pc' := 2527) (N := L) (x := xs (i + 1)) rfl rfl rfl (HN l1) (io_in (p := i + 1) (N := L) (by omega) (by omega)) (Eq.trans (congrArg (sA t1 29 0) (nn_io (p := i + 1) (by omega))) (HA l1 _)) ?_
  refine x_aload_n (pc' := 2528) rfl rfl rfl rfl rfl ?_
  refine x_iload (pc' := 2530) rfl rfl rfl ?_
  refine x_iconst (pc' := 2531) rfl rfl ?_
  refine x_iadd (pc' := 2532) (z := io (i + 2)) rfl rfl (io_add i 2) ?_
  refine x_iald (pc' := 2533) (N := L) (x := xs (i + 2)) rfl rfl rfl (HN l1) (io_in (p := i + 2) (N := L) (by omega) (by omega)) (Eq.trans (congrArg (sA t1 29 0) (nn_io (p := i + 2) (by omega))) (HA l1 _)) ?_
  refine x_cv (ls0 := [_, _, _, sJk, sJk, sJk]) (rest := []) rfl rfl rfl rfl rfl ?_
  refine R235 hV hI hT4 hTi (fun t2 h2 c2 => ?_)
  refine sK_i (pc' := 2536) rfl ?_
  refine x_istore (pc' := 2538) (ls' := [_, _, _, _, _, _, _]) rfl rfl rfl rfl ?_
  have W2 : Wc t2 (sp117 M n T (xs (i + 1)) (xs (i + 2))).2.2.1 (sp117 M n T (xs (i + 1)) (xs (i + 2))).2.2.2 T1 L1 (A + 2) (B + 12) := W_cp c2 W1
  have HN2 : sN t2 29 0 = L := (congrFun (congrFun (cpN c2) 29) 0).trans (HN l1)
  have HA2 : ∀ p, sA t2 29 0 p = xs p := fun p => (cpA c2 rfl).trans (HA l1 p)
  have HD2 := (⟨W2, h2, Zr_cp c2 z1, HA2, HN2⟩ : Hd t2 (sp117 M n T (xs (i + 1)) (xs (i + 2))).2.2.1 (sp117 M n T (xs (i + 1)) (xs (i + 2))).2.2.2 T1 L1 (A + 2) (B + 12) xs L)
  have q2 := fun y5 y6 => q t2 T1 L1 y5 y6 HD2 hr
  have hout : (sp117 M n T (xs (i + 1)) (xs (i + 2))).1 = 0 → sL t2 23 0 0 = (sp117 M n T (xs (i + 1)) (xs (i + 2))).2.1.toInt64 := fun h => (congrFun (congrFun (congrFun (cpL c2) 23) 0) 0).trans (o1 h)
  have hc2 : Cn t2 := W2.2.1.1
  clear q HD2 hr W2 W1 o1
  generalize (sp117 M n T (xs (i + 1)) (xs (i + 2))) = r at *
  have fin : X 297 2938 [.inr (.inr (29, (some 0))), .inr (.inr (11, (some 0))), .inr (.inr (12, (some 0))), .inr (.inr (23, (some 0))), .inl (io i), .inl (io r.1), .inl r.2.1] [] t2 Q := by
    refine x_iinc (pc' := 2941) (y := io (i + 7)) (ls' := [_, _, _, _, _, _, _]) rfl rfl rfl (io_add i 7) rfl ?_
    refine x_goto (pc' := 23) rfl rfl ?_
    exact q2 _ _
  refine x_aload_n (pc' := 2539) rfl rfl rfl rfl rfl ?_
  refine x_cv (ls0 := [_]) (rest := []) rfl rfl rfl rfl rfl ?_
  refine x_aload_n (pc' := 1) rfl rfl rfl rfl rfl ?_
  refine x_gI (pc' := 4) (x := io r.1) rfl rfl rfl ((gI h2 rfl).trans j2) ?_
  refine x_reti rfl rfl ?_
  refine sK_i (pc' := 2542) rfl ?_
  refine x_iload (pc' := 2544) rfl rfl rfl ?_
  refine x_icmp (a' := 2549) (pc' := 2547) (z := true) rfl rfl rfl (show decide (io r.1 = io r.1) = true from decide_eq_true rfl) (fun _ => ?_) (fun h => by cases h)
  refine x_iload (pc' := 2551) rfl rfl rfl ?_
  have gof : X 297 2566 [.inr (.inr (29, (some 0))), .inr (.inr (11, (some 0))), .inr (.inr (12, (some 0))), .inr (.inr (23, (some 0))), .inl (io i), .inl (io r.1), .inl r.2.1] [] t2 Q := by
    refine x_goto (pc' := 2938) rfl rfl ?_
    exact fin
  by_cases h0 : r.1 = 0
  · refine x_if (a' := 2566) (pc' := 2554) (z := false) rfl rfl rfl (by rw [h0]; rfl) (fun h => by cases h) (fun _ => ?_)
    refine x_aload_n (pc' := 2555) rfl rfl rfl rfl rfl ?_
    refine x_iconst (pc' := 2556) rfl rfl ?_
    refine x_lald (pc' := 2557) (N := 1) (x := r.2.1.toInt64) rfl rfl (kN_23_0 hc2) (by decide) (hout h0) ?_
    refine x_iload (pc' := 2559) rfl rfl rfl ?_
    refine x_i2l (pc' := 2560) rfl rfl rfl ?_
    refine x_lcmp (pc' := 2561) (z := 0) rfl rfl (sLcmp_s _) ?_
    refine x_if (a' := 2566) (pc' := 2564) (z := true) rfl rfl rfl (by decide) (fun _ => gof) (fun h => by cases h)
  · refine x_if (a' := 2566) (pc' := 2554) (z := true) rfl rfl rfl ((ic_ne (p := r.1) (q := 0) (by omega) (by decide)).trans (decide_eq_true h0)) (fun _ => gof) (fun h => by cases h)
theorem lc_34 (hd : Hd t M n T Ls A B xs L) (hv : Hv M n e) (he : e ≤ 599) (hi : i + 7 ≤ L) (hL : L ≤ 3584) (hk : ((xs i) &&& 63) = 34)
    (q : ∀ t' T' Ls' (y5 y6 : sV), Hd t' (sp118 M n (xs (i + 1))).2.2.1 (sp118 M n (xs (i + 1))).2.2.2 T' Ls' (A + 2) (B + 12) xs L → Hv (sp118 M n (xs (i + 1))).2.2.1 (sp118 M n (xs (i + 1))).2.2.2 (e + 1) → X 297 23 [.inr (.inr (29, (some 0))), .inr (.inr (11, (some 0))), .inr (.inr (12, (some 0))), .inr (.inr (23, (some 0))), .inl (io (i + 7)), y5, y6] [] t' Q) :
    X 297 23 [.inr (.inr (29, (some 0))), .inr (.inr (11, (some 0))), .inr (.inr (12, (some 0))), .inr (.inr (23, (some 0))), .inl (io i), y0, y1] [] t Q := by
  have hTT := Hv_T hv
  have hTN : tN M = T := W_tN hd.1
  rw [hTN] at hTT
  have hI : mI M 801 = io T := hTT.2.2
  have hT4 : T < 4096 := by omega
  obtain ⟨j1, j2⟩ : (sp118 M n (xs (i + 1))).1 ≤ 1 ∧ mI (sp118 M n (xs (i + 1))).2.2.1 768 = io (sp118 M n (xs (i + 1))).1 := J118
  have hr : Hv (sp118 M n (xs (i + 1))).2.2.1 (sp118 M n (xs (i + 1))).2.2.2 (e + 1) := Hv_e (H118 hv)
  have HN : ∀ {t1 : sT}, lw t1 t → sN t1 29 0 = L := fun h => (congrFun h.2.1 0).trans hd.2.2.2.2
  have HA : ∀ {t1 : sT}, lw t1 t → ∀ p, sA t1 29 0 p = xs p := fun h p => (congrFun (congrFun h.1 0) p).trans (hd.2.2.2.1 p)
  have l0 : lw t t := ⟨rfl, rfl, rfl⟩
  refine hd_40 hd hi hL ?_
  refine x_switch (pc' := 2569) rfl (by rw [hk]; decide) ?_
  refine x_aload_n (pc' := 2570) rfl rfl rfl rfl rfl ?_
  refine x_aload_n (pc' := 2571) rfl rfl rfl rfl rfl ?_
  refine x_iload (pc' := 2573) rfl rfl rfl ?_
  refine x_iconst (pc' := 2574) rfl rfl ?_
  refine x_iadd (pc' := 2575) (z := io (i + 1)) rfl rfl (io_add i 1) ?_
  refine x_iald (pc' := 2576) (N := L) (x := xs (i + 1)) rfl rfl rfl (HN l0) (io_in (p := i + 1) (N := L) (by omega) (by omega)) (Eq.trans (congrArg (sA t 29 0) (nn_io (p := i + 1) (by omega))) (HA l0 _)) ?_
  refine x_aload_n (pc' := 2577) rfl rfl rfl rfl rfl ?_
  refine x_cs (ls0 := [_, _, _, sJk]) (rest := []) rfl rfl rfl rfl ?_
  refine wr_291 (r := (sp118 M n (xs (i + 1)))) (w := 0) j1 hd.2.2.1 (fun Q' h => C118 hd.1 h) (fun t1 T1 L1 W1 l1 z1 o1 => ?_)
  refine sK_i (pc' := 2580) rfl ?_
  refine x_istore (pc' := 2582) (ls' := [_, _, _, _, _, _, _]) rfl rfl rfl rfl ?_
  have hV : Vr t1 M n := ⟨l1.2.2.trans hd.2.1, W1.2.1.1, hd.1.2.2.1⟩
  refine x_aload_n (pc' := 2583) rfl rfl rfl rfl rfl ?_
  refine x_aload_n (pc' := 2584) rfl rfl rfl rfl rfl ?_
  refine x_iload (pc' := 2586) rfl rfl rfl ?_
  refine x_iconst (pc' := 2587) rfl rfl ?_
  refine x_iadd (pc' := 2588) (z := io (i + 1)) rfl rfl (io_add i 1) ?_
  refine x_iald (pc' := 2589) (N := L) (x := xs (i + 1)) rfl rfl rfl (HN l1) (io_in (p := i + 1) (N := L) (by omega) (by omega)) (Eq.trans (congrArg (sA t1 29 0) (nn_io (p := i + 1) (by omega))) (HA l1 _)) ?_
  refine x_cv (ls0 := [_, _]) (rest := []) rfl rfl rfl rfl rfl ?_
  refine R237 hV (fun t2 h2 c2 => ?_)
  refine sK_i (pc' := 2592) rfl ?_
  refine x_istore (pc' := 2594) (ls' := [_, _, _, _, _, _, _]) rfl rfl rfl rfl ?_
  have W2 : Wc t2 (sp118 M n (xs (i + 1))).2.2.1 (sp118 M n (xs (i + 1))).2.2.2 T1 L1 (A + 2) (B + 12) := W_cp c2 W1
  have HN2 : sN t2 29 0 = L := (congrFun (congrFun (cpN c2) 29) 0).trans (HN l1)
  have HA2 : ∀ p, sA t2 29 0 p = xs p := fun p => (cpA c2 rfl).trans (HA l1 p)
  have HD2 := (⟨W2, h2, Zr_cp c2 z1, HA2, HN2⟩ : Hd t2 (sp118 M n (xs (i + 1))).2.2.1 (sp118 M n (xs (i + 1))).2.2.2 T1 L1 (A + 2) (B + 12) xs L)
  have q2 := fun y5 y6 => q t2 T1 L1 y5 y6 HD2 hr
  have hout : (sp118 M n (xs (i + 1))).1 = 0 → sL t2 23 0 0 = (sp118 M n (xs (i + 1))).2.1.toInt64 := fun h => (congrFun (congrFun (congrFun (cpL c2) 23) 0) 0).trans (o1 h)
  have hc2 : Cn t2 := W2.2.1.1
  clear q HD2 hr W2 W1 o1
  generalize (sp118 M n (xs (i + 1))) = r at *
  have fin : X 297 2938 [.inr (.inr (29, (some 0))), .inr (.inr (11, (some 0))), .inr (.inr (12, (some 0))), .inr (.inr (23, (some 0))), .inl (io i), .inl (io r.1), .inl r.2.1] [] t2 Q := by
    refine x_iinc (pc' := 2941) (y := io (i + 7)) (ls' := [_, _, _, _, _, _, _]) rfl rfl rfl (io_add i 7) rfl ?_
    refine x_goto (pc' := 23) rfl rfl ?_
    exact q2 _ _
  refine x_aload_n (pc' := 2595) rfl rfl rfl rfl rfl ?_
  refine x_cv (ls0 := [_]) (rest := []) rfl rfl rfl rfl rfl ?_
  refine x_aload_n (pc' := 1) rfl rfl rfl rfl rfl ?_
  refine x_gI (pc' := 4) (x := io r.1) rfl rfl rfl ((gI h2 rfl).trans j2) ?_
  refine x_reti rfl rfl ?_
  refine sK_i (pc' := 2598) rfl ?_
  refine x_iload (pc' := 2600) rfl rfl rfl ?_
  refine x_icmp (a' := 2605) (pc' := 2603) (z := true) rfl rfl rfl (show decide (io r.1 = io r.1) = true from decide_eq_true rfl) (fun _ => ?_) (fun h => by cases h)
  refine x_iload (pc' := 2607) rfl rfl rfl ?_
  have gof : X 297 2622 [.inr (.inr (29, (some 0))), .inr (.inr (11, (some 0))), .inr (.inr (12, (some 0))), .inr (.inr (23, (some 0))), .inl (io i), .inl (io r.1), .inl r.2.1] [] t2 Q := by
    refine x_goto (pc' := 2938) rfl rfl ?_
    exact fin
  by_cases h0 : r.1 = 0
  · refine x_if (a' := 2622) (pc' := 2610) (z := false) rfl rfl rfl (by rw [h0]; rfl) (fun h => by cases h) (fun _ => ?_)
    refine x_aload_n (pc' := 2611) rfl rfl rfl rfl rfl ?_
    refine x_iconst (pc' := 2612) rfl rfl ?_
    refine x_lald (pc' := 2613) (N := 1) (x := r.2.1.toInt64) rfl rfl (kN_23_0 hc2) (by decide) (hout h0) ?_
    refine x_iload (pc' := 2615) rfl rfl rfl ?_
    refine x_i2l (pc' := 2616) rfl rfl rfl ?_
    refine x_lcmp (pc' := 2617) (z := 0) rfl rfl (sLcmp_s _) ?_
    refine x_if (a' := 2622) (pc' := 2620) (z := true) rfl rfl rfl (by decide) (fun _ => gof) (fun h => by cases h)
  · refine x_if (a' := 2622) (pc' := 2610) (z := true) rfl rfl rfl ((ic_ne (p := r.1) (q := 0) (by omega) (by decide)).trans (decide_eq_true h0)) (fun _ => gof) (fun h => by cases h)
theorem lc_35 (hd : Hd t M n T Ls A B xs L) (hv : Hv M n e) (he : e ≤ 599) (hi : i + 7 ≤ L) (hL : L ≤ 3584) (hk : ((xs i) &&& 63) = 35)
    (q : ∀ t' T' Ls' (y5 y6 : sV), Hd t' (sp119 M n (xs (i + 1))).2.2.1 (sp119 M n (xs (i + 1))).2.2.2 T' Ls' (A + 2) (B + 12) xs L → Hv (sp119 M n (xs (i + 1))).2.2.1 (sp119 M n (xs (i + 1))).2.2.2 (e + 1) → X 297 23 [.inr (.inr (29, (some 0))), .inr (.inr (11, (some 0))), .inr (.inr (12, (some 0))), .inr (.inr (23, (some 0))), .inl (io (i + 7)), y5, y6] [] t' Q) :
    X 297 23 [.inr (.inr (29, (some 0))), .inr (.inr (11, (some 0))), .inr (.inr (12, (some 0))), .inr (.inr (23, (some 0))), .inl (io i), y0, y1] [] t Q := by
  have hTT := Hv_T hv
  have hTN : tN M = T := W_tN hd.1
  rw [hTN] at hTT
  have hI : mI M 801 = io T := hTT.2.2
  have hT4 : T < 4096 := by omega
  obtain ⟨j1, j2⟩ : (sp119 M n (xs (i + 1))).1 ≤ 1 ∧ mI (sp119 M n (xs (i + 1))).2.2.1 768 = io (sp119 M n (xs (i + 1))).1 := J119
  have hr : Hv (sp119 M n (xs (i + 1))).2.2.1 (sp119 M n (xs (i + 1))).2.2.2 (e + 1) := Hv_e (H119 hv)
  have HN : ∀ {t1 : sT}, lw t1 t → sN t1 29 0 = L := fun h => (congrFun h.2.1 0).trans hd.2.2.2.2
  have HA : ∀ {t1 : sT}, lw t1 t → ∀ p, sA t1 29 0 p = xs p := fun h p => (congrFun (congrFun h.1 0) p).trans (hd.2.2.2.1 p)
  have l0 : lw t t := ⟨rfl, rfl, rfl⟩
  refine hd_40 hd hi hL ?_
  refine x_switch (pc' := 2625) rfl (by rw [hk]; decide) ?_
  refine x_aload_n (pc' := 2626) rfl rfl rfl rfl rfl ?_
  refine x_aload_n (pc' := 2627) rfl rfl rfl rfl rfl ?_
  refine x_iload (pc' := 2629) rfl rfl rfl ?_
  refine x_iconst (pc' := 2630) rfl rfl ?_
  refine x_iadd (pc' := 2631) (z := io (i + 1)) rfl rfl (io_add i 1) ?_
  refine x_iald (pc' := 2632) (N := L) (x := xs (i + 1)) rfl rfl rfl (HN l0) (io_in (p := i + 1) (N := L) (by omega) (by omega)) (Eq.trans (congrArg (sA t 29 0) (nn_io (p := i + 1) (by omega))) (HA l0 _)) ?_
  refine x_aload_n (pc' := 2633) rfl rfl rfl rfl rfl ?_
  refine x_cs (ls0 := [_, _, _, sJk]) (rest := []) rfl rfl rfl rfl ?_
  refine wr_292 (r := (sp119 M n (xs (i + 1)))) (w := 0) j1 hd.2.2.1 (fun Q' h => C119 hd.1 h) (fun t1 T1 L1 W1 l1 z1 o1 => ?_)
  refine sK_i (pc' := 2636) rfl ?_
  refine x_istore (pc' := 2638) (ls' := [_, _, _, _, _, _, _]) rfl rfl rfl rfl ?_
  have hV : Vr t1 M n := ⟨l1.2.2.trans hd.2.1, W1.2.1.1, hd.1.2.2.1⟩
  refine x_aload_n (pc' := 2639) rfl rfl rfl rfl rfl ?_
  refine x_aload_n (pc' := 2640) rfl rfl rfl rfl rfl ?_
  refine x_iload (pc' := 2642) rfl rfl rfl ?_
  refine x_iconst (pc' := 2643) rfl rfl ?_
  refine x_iadd (pc' := 2644) (z := io (i + 1)) rfl rfl (io_add i 1) ?_
  refine x_iald (pc' := 2645) (N := L) (x := xs (i + 1)) rfl rfl rfl (HN l1) (io_in (p := i + 1) (N := L) (by omega) (by omega)) (Eq.trans (congrArg (sA t1 29 0) (nn_io (p := i + 1) (by omega))) (HA l1 _)) ?_
  refine x_cv (ls0 := [_, _]) (rest := []) rfl rfl rfl rfl rfl ?_
  refine R238 hV (fun t2 h2 c2 => ?_)
  refine sK_i (pc' := 2648) rfl ?_
  refine x_istore (pc' := 2650) (ls' := [_, _, _, _, _, _, _]) rfl rfl rfl rfl ?_
  have W2 : Wc t2 (sp119 M n (xs (i + 1))).2.2.1 (sp119 M n (xs (i + 1))).2.2.2 T1 L1 (A + 2) (B + 12) := W_cp c2 W1
  have HN2 : sN t2 29 0 = L := (congrFun (congrFun (cpN c2) 29) 0).trans (HN l1)
  have HA2 : ∀ p, sA t2 29 0 p = xs p := fun p => (cpA c2 rfl).trans (HA l1 p)
  have HD2 := (⟨W2, h2, Zr_cp c2 z1, HA2, HN2⟩ : Hd t2 (sp119 M n (xs (i + 1))).2.2.1 (sp119 M n (xs (i + 1))).2.2.2 T1 L1 (A + 2) (B + 12) xs L)
  have q2 := fun y5 y6 => q t2 T1 L1 y5 y6 HD2 hr
  have hout : (sp119 M n (xs (i + 1))).1 = 0 → sL t2 23 0 0 = (sp119 M n (xs (i + 1))).2.1.toInt64 := fun h => (congrFun (congrFun (congrFun (cpL c2) 23) 0) 0).trans (o1 h)
  have hc2 : Cn t2 := W2.2.1.1
  clear q HD2 hr W2 W1 o1
  generalize (sp119 M n (xs (i + 1))) = r at *
  have fin : X 297 2938 [.inr (.inr (29, (some 0))), .inr (.inr (11, (some 0))), .inr (.inr (12, (some 0))), .inr (.inr (23, (some 0))), .inl (io i), .inl (io r.1), .inl r.2.1] [] t2 Q := by
    refine x_iinc (pc' := 2941) (y := io (i + 7)) (ls' := [_, _, _, _, _, _, _]) rfl rfl rfl (io_add i 7) rfl ?_
    refine x_goto (pc' := 23) rfl rfl ?_
    exact q2 _ _
  refine x_aload_n (pc' := 2651) rfl rfl rfl rfl rfl ?_
  refine x_cv (ls0 := [_]) (rest := []) rfl rfl rfl rfl rfl ?_
  refine x_aload_n (pc' := 1) rfl rfl rfl rfl rfl ?_
  refine x_gI (pc' := 4) (x := io r.1) rfl rfl rfl ((gI h2 rfl).trans j2) ?_
  refine x_reti rfl rfl ?_
  refine sK_i (pc' := 2654) rfl ?_
  refine x_iload (pc' := 2656) rfl rfl rfl ?_
  refine x_icmp (a' := 2661) (pc' := 2659) (z := true) rfl rfl rfl (show decide (io r.1 = io r.1) = true from decide_eq_true rfl) (fun _ => ?_) (fun h => by cases h)
  refine x_iload (pc' := 2663) rfl rfl rfl ?_
  have gof : X 297 2678 [.inr (.inr (29, (some 0))), .inr (.inr (11, (some 0))), .inr (.inr (12, (some 0))), .inr (.inr (23, (some 0))), .inl (io i), .inl (io r.1), .inl r.2.1] [] t2 Q := by
    refine x_goto (pc' := 2938) rfl rfl ?_
    exact fin
  by_cases h0 : r.1 = 0
  · refine x_if (a' := 2678) (pc' := 2666) (z := false) rfl rfl rfl (by rw [h0]; rfl) (fun h => by cases h) (fun _ => ?_)
    refine x_aload_n (pc' := 2667) rfl rfl rfl rfl rfl ?_
    refine x_iconst (pc' := 2668) rfl rfl ?_
    refine x_lald (pc' := 2669) (N := 1) (x := r.2.1.toInt64) rfl rfl (kN_23_0 hc2) (by decide) (hout h0) ?_
    refine x_iload (pc' := 2671) rfl rfl rfl ?_
    refine x_i2l (pc' := 2672) rfl rfl rfl ?_
    refine x_lcmp (pc' := 2673) (z := 0) rfl rfl (sLcmp_s _) ?_
    refine x_if (a' := 2678) (pc' := 2676) (z := true) rfl rfl rfl (by decide) (fun _ => gof) (fun h => by cases h)
  · refine x_if (a' := 2678) (pc' := 2666) (z := true) rfl rfl rfl ((ic_ne (p := r.1) (q := 0) (by omega) (by decide)).trans (decide_eq_true h0)) (fun _ => gof) (fun h => by cases h)
theorem lc_36 (hd : Hd t M n T Ls A B xs L) (hv : Hv M n e) (he : e ≤ 599) (hi : i + 7 ≤ L) (hL : L ≤ 3584) (hk : ((xs i) &&& 63) = 36)
    (q : ∀ t' T' Ls' (y5 y6 : sV), Hd t' (sp120 M n (xs (i + 1))).2.2.1 (sp120 M n (xs (i + 1))).2.2.2 T' Ls' (A + 2) (B + 12) xs L → Hv (sp120 M n (xs (i + 1))).2.2.1 (sp120 M n (xs (i + 1))).2.2.2 (e + 1) → X 297 23 [.inr (.inr (29, (some 0))), .inr (.inr (11, (some 0))), .inr (.inr (12, (some 0))), .inr (.inr (23, (some 0))), .inl (io (i + 7)), y5, y6] [] t' Q) :
    X 297 23 [.inr (.inr (29, (some 0))), .inr (.inr (11, (some 0))), .inr (.inr (12, (some 0))), .inr (.inr (23, (some 0))), .inl (io i), y0, y1] [] t Q := by
  have hTT := Hv_T hv
  have hTN : tN M = T := W_tN hd.1
  rw [hTN] at hTT
  have hI : mI M 801 = io T := hTT.2.2
  have hT4 : T < 4096 := by omega
  obtain ⟨j1, j2⟩ : (sp120 M n (xs (i + 1))).1 ≤ 1 ∧ mI (sp120 M n (xs (i + 1))).2.2.1 768 = io (sp120 M n (xs (i + 1))).1 := J120
  have hr : Hv (sp120 M n (xs (i + 1))).2.2.1 (sp120 M n (xs (i + 1))).2.2.2 (e + 1) := Hv_e (H120 hv)
  have HN : ∀ {t1 : sT}, lw t1 t → sN t1 29 0 = L := fun h => (congrFun h.2.1 0).trans hd.2.2.2.2
  have HA : ∀ {t1 : sT}, lw t1 t → ∀ p, sA t1 29 0 p = xs p := fun h p => (congrFun (congrFun h.1 0) p).trans (hd.2.2.2.1 p)
  have l0 : lw t t := ⟨rfl, rfl, rfl⟩
  refine hd_40 hd hi hL ?_
  refine x_switch (pc' := 2681) rfl (by rw [hk]; decide) ?_
  refine x_aload_n (pc' := 2682) rfl rfl rfl rfl rfl ?_
  refine x_aload_n (pc' := 2683) rfl rfl rfl rfl rfl ?_
  refine x_iload (pc' := 2685) rfl rfl rfl ?_
  refine x_iconst (pc' := 2686) rfl rfl ?_
  refine x_iadd (pc' := 2687) (z := io (i + 1)) rfl rfl (io_add i 1) ?_
  refine x_iald (pc' := 2688) (N := L) (x := xs (i + 1)) rfl rfl rfl (HN l0) (io_in (p := i + 1) (N := L) (by omega) (by omega)) (Eq.trans (congrArg (sA t 29 0) (nn_io (p := i + 1) (by omega))) (HA l0 _)) ?_
  refine x_aload_n (pc' := 2689) rfl rfl rfl rfl rfl ?_
  refine x_cs (ls0 := [_, _, _, sJk]) (rest := []) rfl rfl rfl rfl ?_
  refine wr_293 (r := (sp120 M n (xs (i + 1)))) (w := 0) j1 hd.2.2.1 (fun Q' h => C120 hd.1 h) (fun t1 T1 L1 W1 l1 z1 o1 => ?_)
  refine sK_i (pc' := 2692) rfl ?_
  refine x_istore (pc' := 2694) (ls' := [_, _, _, _, _, _, _]) rfl rfl rfl rfl ?_
  have hV : Vr t1 M n := ⟨l1.2.2.trans hd.2.1, W1.2.1.1, hd.1.2.2.1⟩
  refine x_aload_n (pc' := 2695) rfl rfl rfl rfl rfl ?_
  refine x_aload_n (pc' := 2696) rfl rfl rfl rfl rfl ?_
  refine x_iload (pc' := 2698) rfl rfl rfl ?_
  refine x_iconst (pc' := 2699) rfl rfl ?_
  refine x_iadd (pc' := 2700) (z := io (i + 1)) rfl rfl (io_add i 1) ?_
  refine x_iald (pc' := 2701) (N := L) (x := xs (i + 1)) rfl rfl rfl (HN l1) (io_in (p := i + 1) (N := L) (by omega) (by omega)) (Eq.trans (congrArg (sA t1 29 0) (nn_io (p := i + 1) (by omega))) (HA l1 _)) ?_
  refine x_cv (ls0 := [_, _]) (rest := []) rfl rfl rfl rfl rfl ?_
  refine R239 hV (fun t2 h2 c2 => ?_)
  refine sK_i (pc' := 2704) rfl ?_
  refine x_istore (pc' := 2706) (ls' := [_, _, _, _, _, _, _]) rfl rfl rfl rfl ?_
  have W2 : Wc t2 (sp120 M n (xs (i + 1))).2.2.1 (sp120 M n (xs (i + 1))).2.2.2 T1 L1 (A + 2) (B + 12) := W_cp c2 W1
  have HN2 : sN t2 29 0 = L := (congrFun (congrFun (cpN c2) 29) 0).trans (HN l1)
  have HA2 : ∀ p, sA t2 29 0 p = xs p := fun p => (cpA c2 rfl).trans (HA l1 p)
  have HD2 := (⟨W2, h2, Zr_cp c2 z1, HA2, HN2⟩ : Hd t2 (sp120 M n (xs (i + 1))).2.2.1 (sp120 M n (xs (i + 1))).2.2.2 T1 L1 (A + 2) (B + 12) xs L)
  have q2 := fun y5 y6 => q t2 T1 L1 y5 y6 HD2 hr
  have hout : (sp120 M n (xs (i + 1))).1 = 0 → sL t2 23 0 0 = (sp120 M n (xs (i + 1))).2.1.toInt64 := fun h => (congrFun (congrFun (congrFun (cpL c2) 23) 0) 0).trans (o1 h)
  have hc2 : Cn t2 := W2.2.1.1
  clear q HD2 hr W2 W1 o1
  generalize (sp120 M n (xs (i + 1))) = r at *
  have fin : X 297 2938 [.inr (.inr (29, (some 0))), .inr (.inr (11, (some 0))), .inr (.inr (12, (some 0))), .inr (.inr (23, (some 0))), .inl (io i), .inl (io r.1), .inl r.2.1] [] t2 Q := by
    refine x_iinc (pc' := 2941) (y := io (i + 7)) (ls' := [_, _, _, _, _, _, _]) rfl rfl rfl (io_add i 7) rfl ?_
    refine x_goto (pc' := 23) rfl rfl ?_
    exact q2 _ _
  refine x_aload_n (pc' := 2707) rfl rfl rfl rfl rfl ?_
  refine x_cv (ls0 := [_]) (rest := []) rfl rfl rfl rfl rfl ?_
  refine x_aload_n (pc' := 1) rfl rfl rfl rfl rfl ?_
  refine x_gI (pc' := 4) (x := io r.1) rfl rfl rfl ((gI h2 rfl).trans j2) ?_
  refine x_reti rfl rfl ?_
  refine sK_i (pc' := 2710) rfl ?_
  refine x_iload (pc' := 2712) rfl rfl rfl ?_
  refine x_icmp (a' := 2717) (pc' := 2715) (z := true) rfl rfl rfl (show decide (io r.1 = io r.1) = true from decide_eq_true rfl) (fun _ => ?_) (fun h => by cases h)
  refine x_iload (pc' := 2719) rfl rfl rfl ?_
  have gof : X 297 2734 [.inr (.inr (29, (some 0))), .inr (.inr (11, (some 0))), .inr (.inr (12, (some 0))), .inr (.inr (23, (some 0))), .inl (io i), .inl (io r.1), .inl r.2.1] [] t2 Q := by
    refine x_goto (pc' := 2938) rfl rfl ?_
    exact fin
  by_cases h0 : r.1 = 0
  · refine x_if (a' := 2734) (pc' := 2722) (z := false) rfl rfl rfl (by rw [h0]; rfl) (fun h => by cases h) (fun _ => ?_)
    refine x_aload_n (pc' := 2723) rfl rfl rfl rfl rfl ?_
    refine x_iconst (pc' := 2724) rfl rfl ?_
    refine x_lald (pc' := 2725) (N := 1) (x := r.2.1.toInt64) rfl rfl (kN_23_0 hc2) (by decide) (hout h0) ?_
    refine x_iload (pc' := 2727) rfl rfl rfl ?_
    refine x_i2l (pc' := 2728) rfl rfl rfl ?_
    refine x_lcmp (pc' := 2729) (z := 0) rfl rfl (sLcmp_s _) ?_
    refine x_if (a' := 2734) (pc' := 2732) (z := true) rfl rfl rfl (by decide) (fun _ => gof) (fun h => by cases h)
  · refine x_if (a' := 2734) (pc' := 2722) (z := true) rfl rfl rfl ((ic_ne (p := r.1) (q := 0) (by omega) (by decide)).trans (decide_eq_true h0)) (fun _ => gof) (fun h => by cases h)
theorem lc_37 (hd : Hd t M n T Ls A B xs L) (hv : Hv M n e) (he : e ≤ 599) (hi : i + 7 ≤ L) (hL : L ≤ 3584) (hk : ((xs i) &&& 63) = 37)
    (q : ∀ t' T' Ls' (y5 y6 : sV), Hd t' (sp121 M n (xs (i + 1))).2.2.1 (sp121 M n (xs (i + 1))).2.2.2 T' Ls' (A + 2) (B + 12) xs L → Hv (sp121 M n (xs (i + 1))).2.2.1 (sp121 M n (xs (i + 1))).2.2.2 (e + 1) → X 297 23 [.inr (.inr (29, (some 0))), .inr (.inr (11, (some 0))), .inr (.inr (12, (some 0))), .inr (.inr (23, (some 0))), .inl (io (i + 7)), y5, y6] [] t' Q) :
    X 297 23 [.inr (.inr (29, (some 0))), .inr (.inr (11, (some 0))), .inr (.inr (12, (some 0))), .inr (.inr (23, (some 0))), .inl (io i), y0, y1] [] t Q := by
  have hTT := Hv_T hv
  have hTN : tN M = T := W_tN hd.1
  rw [hTN] at hTT
  have hI : mI M 801 = io T := hTT.2.2
  have hT4 : T < 4096 := by omega
  have hP : Pv M := Hv_Pv hv (by omega)
  obtain ⟨j1, j2⟩ : (sp121 M n (xs (i + 1))).1 ≤ 1 ∧ mI (sp121 M n (xs (i + 1))).2.2.1 768 = io (sp121 M n (xs (i + 1))).1 := J121
  have hr : Hv (sp121 M n (xs (i + 1))).2.2.1 (sp121 M n (xs (i + 1))).2.2.2 (e + 1) := Hv_e (H121 hv)
  have HN : ∀ {t1 : sT}, lw t1 t → sN t1 29 0 = L := fun h => (congrFun h.2.1 0).trans hd.2.2.2.2
  have HA : ∀ {t1 : sT}, lw t1 t → ∀ p, sA t1 29 0 p = xs p := fun h p => (congrFun (congrFun h.1 0) p).trans (hd.2.2.2.1 p)
  have l0 : lw t t := ⟨rfl, rfl, rfl⟩
  refine hd_40 hd hi hL ?_
  refine x_switch (pc' := 2737) rfl (by rw [hk]; decide) ?_
  refine x_aload_n (pc' := 2738) rfl rfl rfl rfl rfl ?_
  refine x_aload_n (pc' := 2739) rfl rfl rfl rfl rfl ?_
  refine x_iload (pc' := 2741) rfl rfl rfl ?_
  refine x_iconst (pc' := 2742) rfl rfl ?_
  refine x_iadd (pc' := 2743) (z := io (i + 1)) rfl rfl (io_add i 1) ?_
  refine x_iald (pc' := 2744) (N := L) (x := xs (i + 1)) rfl rfl rfl (HN l0) (io_in (p := i + 1) (N := L) (by omega) (by omega)) (Eq.trans (congrArg (sA t 29 0) (nn_io (p := i + 1) (by omega))) (HA l0 _)) ?_
  refine x_aload_n (pc' := 2745) rfl rfl rfl rfl rfl ?_
  refine x_cs (ls0 := [_, _, _, sJk]) (rest := []) rfl rfl rfl rfl ?_
  refine wr_294 (r := (sp121 M n (xs (i + 1)))) (w := 0) j1 hd.2.2.1 (fun Q' h => C121 hd.2.2.1 hd.1 hv.1 hP h) (fun t1 T1 L1 W1 l1 z1 o1 => ?_)
  refine sK_i (pc' := 2748) rfl ?_
  refine x_istore (pc' := 2750) (ls' := [_, _, _, _, _, _, _]) rfl rfl rfl rfl ?_
  have hV : Vr t1 M n := ⟨l1.2.2.trans hd.2.1, W1.2.1.1, hd.1.2.2.1⟩
  refine x_aload_n (pc' := 2751) rfl rfl rfl rfl rfl ?_
  refine x_aload_n (pc' := 2752) rfl rfl rfl rfl rfl ?_
  refine x_iload (pc' := 2754) rfl rfl rfl ?_
  refine x_iconst (pc' := 2755) rfl rfl ?_
  refine x_iadd (pc' := 2756) (z := io (i + 1)) rfl rfl (io_add i 1) ?_
  refine x_iald (pc' := 2757) (N := L) (x := xs (i + 1)) rfl rfl rfl (HN l1) (io_in (p := i + 1) (N := L) (by omega) (by omega)) (Eq.trans (congrArg (sA t1 29 0) (nn_io (p := i + 1) (by omega))) (HA l1 _)) ?_
  refine x_cv (ls0 := [_, _]) (rest := []) rfl rfl rfl rfl rfl ?_
  refine R240 hV (fun t2 h2 c2 => ?_)
  refine sK_i (pc' := 2760) rfl ?_
  refine x_istore (pc' := 2762) (ls' := [_, _, _, _, _, _, _]) rfl rfl rfl rfl ?_
  have W2 : Wc t2 (sp121 M n (xs (i + 1))).2.2.1 (sp121 M n (xs (i + 1))).2.2.2 T1 L1 (A + 2) (B + 12) := W_cp c2 W1
  have HN2 : sN t2 29 0 = L := (congrFun (congrFun (cpN c2) 29) 0).trans (HN l1)
  have HA2 : ∀ p, sA t2 29 0 p = xs p := fun p => (cpA c2 rfl).trans (HA l1 p)
  have HD2 := (⟨W2, h2, Zr_cp c2 z1, HA2, HN2⟩ : Hd t2 (sp121 M n (xs (i + 1))).2.2.1 (sp121 M n (xs (i + 1))).2.2.2 T1 L1 (A + 2) (B + 12) xs L)
  have q2 := fun y5 y6 => q t2 T1 L1 y5 y6 HD2 hr
  have hout : (sp121 M n (xs (i + 1))).1 = 0 → sL t2 23 0 0 = (sp121 M n (xs (i + 1))).2.1.toInt64 := fun h => (congrFun (congrFun (congrFun (cpL c2) 23) 0) 0).trans (o1 h)
  have hc2 : Cn t2 := W2.2.1.1
  clear q HD2 hr W2 W1 o1
  generalize (sp121 M n (xs (i + 1))) = r at *
  have fin : X 297 2938 [.inr (.inr (29, (some 0))), .inr (.inr (11, (some 0))), .inr (.inr (12, (some 0))), .inr (.inr (23, (some 0))), .inl (io i), .inl (io r.1), .inl r.2.1] [] t2 Q := by
    refine x_iinc (pc' := 2941) (y := io (i + 7)) (ls' := [_, _, _, _, _, _, _]) rfl rfl rfl (io_add i 7) rfl ?_
    refine x_goto (pc' := 23) rfl rfl ?_
    exact q2 _ _
  refine x_aload_n (pc' := 2763) rfl rfl rfl rfl rfl ?_
  refine x_cv (ls0 := [_]) (rest := []) rfl rfl rfl rfl rfl ?_
  refine x_aload_n (pc' := 1) rfl rfl rfl rfl rfl ?_
  refine x_gI (pc' := 4) (x := io r.1) rfl rfl rfl ((gI h2 rfl).trans j2) ?_
  refine x_reti rfl rfl ?_
  refine sK_i (pc' := 2766) rfl ?_
  refine x_iload (pc' := 2768) rfl rfl rfl ?_
  refine x_icmp (a' := 2773) (pc' := 2771) (z := true) rfl rfl rfl (show decide (io r.1 = io r.1) = true from decide_eq_true rfl) (fun _ => ?_) (fun h => by cases h)
  refine x_iload (pc' := 2775) rfl rfl rfl ?_
  have gof : X 297 2790 [.inr (.inr (29, (some 0))), .inr (.inr (11, (some 0))), .inr (.inr (12, (some 0))), .inr (.inr (23, (some 0))), .inl (io i), .inl (io r.1), .inl r.2.1] [] t2 Q := by
    refine x_goto (pc' := 2938) rfl rfl ?_
    exact fin
  by_cases h0 : r.1 = 0
  · refine x_if (a' := 2790) (pc' := 2778) (z := false) rfl rfl rfl (by rw [h0]; rfl) (fun h => by cases h) (fun _ => ?_)
    refine x_aload_n (pc' := 2779) rfl rfl rfl rfl rfl ?_
    refine x_iconst (pc' := 2780) rfl rfl ?_
    refine x_lald (pc' := 2781) (N := 1) (x := r.2.1.toInt64) rfl rfl (kN_23_0 hc2) (by decide) (hout h0) ?_
    refine x_iload (pc' := 2783) rfl rfl rfl ?_
    refine x_i2l (pc' := 2784) rfl rfl rfl ?_
    refine x_lcmp (pc' := 2785) (z := 0) rfl rfl (sLcmp_s _) ?_
    refine x_if (a' := 2790) (pc' := 2788) (z := true) rfl rfl rfl (by decide) (fun _ => gof) (fun h => by cases h)
  · refine x_if (a' := 2790) (pc' := 2778) (z := true) rfl rfl rfl ((ic_ne (p := r.1) (q := 0) (by omega) (by decide)).trans (decide_eq_true h0)) (fun _ => gof) (fun h => by cases h)
theorem lc_38 (hd : Hd t M n T Ls A B xs L) (hv : Hv M n e) (he : e ≤ 599) (hi : i + 7 ≤ L) (hL : L ≤ 3584) (hk : ((xs i) &&& 63) = 38)
    (q : ∀ t' T' Ls' (y5 y6 : sV), Hd t' (sp122 M n (xs (i + 1))).2.2.1 (sp122 M n (xs (i + 1))).2.2.2 T' Ls' (A + 2) (B + 12) xs L → Hv (sp122 M n (xs (i + 1))).2.2.1 (sp122 M n (xs (i + 1))).2.2.2 (e + 1) → X 297 23 [.inr (.inr (29, (some 0))), .inr (.inr (11, (some 0))), .inr (.inr (12, (some 0))), .inr (.inr (23, (some 0))), .inl (io (i + 7)), y5, y6] [] t' Q) :
    X 297 23 [.inr (.inr (29, (some 0))), .inr (.inr (11, (some 0))), .inr (.inr (12, (some 0))), .inr (.inr (23, (some 0))), .inl (io i), y0, y1] [] t Q := by
  have hTT := Hv_T hv
  have hTN : tN M = T := W_tN hd.1
  rw [hTN] at hTT
  have hI : mI M 801 = io T := hTT.2.2
  have hT4 : T < 4096 := by omega
  obtain ⟨j1, j2⟩ : (sp122 M n (xs (i + 1))).1 ≤ 1 ∧ mI (sp122 M n (xs (i + 1))).2.2.1 768 = io (sp122 M n (xs (i + 1))).1 := J122
  have hr : Hv (sp122 M n (xs (i + 1))).2.2.1 (sp122 M n (xs (i + 1))).2.2.2 (e + 1) := Hv_e (H122 hv)
  have HN : ∀ {t1 : sT}, lw t1 t → sN t1 29 0 = L := fun h => (congrFun h.2.1 0).trans hd.2.2.2.2
  have HA : ∀ {t1 : sT}, lw t1 t → ∀ p, sA t1 29 0 p = xs p := fun h p => (congrFun (congrFun h.1 0) p).trans (hd.2.2.2.1 p)
  have l0 : lw t t := ⟨rfl, rfl, rfl⟩
  refine hd_40 hd hi hL ?_
  refine x_switch (pc' := 2793) rfl (by rw [hk]; decide) ?_
  refine x_aload_n (pc' := 2794) rfl rfl rfl rfl rfl ?_
  refine x_aload_n (pc' := 2795) rfl rfl rfl rfl rfl ?_
  refine x_iload (pc' := 2797) rfl rfl rfl ?_
  refine x_iconst (pc' := 2798) rfl rfl ?_
  refine x_iadd (pc' := 2799) (z := io (i + 1)) rfl rfl (io_add i 1) ?_
  refine x_iald (pc' := 2800) (N := L) (x := xs (i + 1)) rfl rfl rfl (HN l0) (io_in (p := i + 1) (N := L) (by omega) (by omega)) (Eq.trans (congrArg (sA t 29 0) (nn_io (p := i + 1) (by omega))) (HA l0 _)) ?_
  refine x_aload_n (pc' := 2801) rfl rfl rfl rfl rfl ?_
  refine x_cs (ls0 := [_, _, _, sJk]) (rest := []) rfl rfl rfl rfl ?_
  refine wr_295 (r := (sp122 M n (xs (i + 1)))) (w := 0) j1 hd.2.2.1 (fun Q' h => C122 hd.1 h) (fun t1 T1 L1 W1 l1 z1 o1 => ?_)
  refine sK_i (pc' := 2804) rfl ?_
  refine x_istore (pc' := 2806) (ls' := [_, _, _, _, _, _, _]) rfl rfl rfl rfl ?_
  have hV : Vr t1 M n := ⟨l1.2.2.trans hd.2.1, W1.2.1.1, hd.1.2.2.1⟩
  refine x_aload_n (pc' := 2807) rfl rfl rfl rfl rfl ?_
  refine x_aload_n (pc' := 2808) rfl rfl rfl rfl rfl ?_
  refine x_iload (pc' := 2810) rfl rfl rfl ?_
  refine x_iconst (pc' := 2811) rfl rfl ?_
  refine x_iadd (pc' := 2812) (z := io (i + 1)) rfl rfl (io_add i 1) ?_
  refine x_iald (pc' := 2813) (N := L) (x := xs (i + 1)) rfl rfl rfl (HN l1) (io_in (p := i + 1) (N := L) (by omega) (by omega)) (Eq.trans (congrArg (sA t1 29 0) (nn_io (p := i + 1) (by omega))) (HA l1 _)) ?_
  refine x_cv (ls0 := [_, _]) (rest := []) rfl rfl rfl rfl rfl ?_
  refine R241 hV (fun t2 h2 c2 => ?_)
  refine sK_i (pc' := 2816) rfl ?_
  refine x_istore (pc' := 2818) (ls' := [_, _, _, _, _, _, _]) rfl rfl rfl rfl ?_
  have W2 : Wc t2 (sp122 M n (xs (i + 1))).2.2.1 (sp122 M n (xs (i + 1))).2.2.2 T1 L1 (A + 2) (B + 12) := W_cp c2 W1
  have HN2 : sN t2 29 0 = L := (congrFun (congrFun (cpN c2) 29) 0).trans (HN l1)
  have HA2 : ∀ p, sA t2 29 0 p = xs p := fun p => (cpA c2 rfl).trans (HA l1 p)
  have HD2 := (⟨W2, h2, Zr_cp c2 z1, HA2, HN2⟩ : Hd t2 (sp122 M n (xs (i + 1))).2.2.1 (sp122 M n (xs (i + 1))).2.2.2 T1 L1 (A + 2) (B + 12) xs L)
  have q2 := fun y5 y6 => q t2 T1 L1 y5 y6 HD2 hr
  have hout : (sp122 M n (xs (i + 1))).1 = 0 → sL t2 23 0 0 = (sp122 M n (xs (i + 1))).2.1.toInt64 := fun h => (congrFun (congrFun (congrFun (cpL c2) 23) 0) 0).trans (o1 h)
  have hc2 : Cn t2 := W2.2.1.1
  clear q HD2 hr W2 W1 o1
  generalize (sp122 M n (xs (i + 1))) = r at *
  have fin : X 297 2938 [.inr (.inr (29, (some 0))), .inr (.inr (11, (some 0))), .inr (.inr (12, (some 0))), .inr (.inr (23, (some 0))), .inl (io i), .inl (io r.1), .inl r.2.1] [] t2 Q := by
    refine x_iinc (pc' := 2941) (y := io (i + 7)) (ls' := [_, _, _, _, _, _, _]) rfl rfl rfl (io_add i 7) rfl ?_
    refine x_goto (pc' := 23) rfl rfl ?_
    exact q2 _ _
  refine x_aload_n (pc' := 2819) rfl rfl rfl rfl rfl ?_
  refine x_cv (ls0 := [_]) (rest := []) rfl rfl rfl rfl rfl ?_
  refine x_aload_n (pc' := 1) rfl rfl rfl rfl rfl ?_
  refine x_gI (pc' := 4) (x := io r.1) rfl rfl rfl ((gI h2 rfl).trans j2) ?_
  refine x_reti rfl rfl ?_
  refine sK_i (pc' := 2822) rfl ?_
  refine x_iload (pc' := 2824) rfl rfl rfl ?_
  refine x_icmp (a' := 2829) (pc' := 2827) (z := true) rfl rfl rfl (show decide (io r.1 = io r.1) = true from decide_eq_true rfl) (fun _ => ?_) (fun h => by cases h)
  refine x_iload (pc' := 2831) rfl rfl rfl ?_
  have gof : X 297 2846 [.inr (.inr (29, (some 0))), .inr (.inr (11, (some 0))), .inr (.inr (12, (some 0))), .inr (.inr (23, (some 0))), .inl (io i), .inl (io r.1), .inl r.2.1] [] t2 Q := by
    refine x_goto (pc' := 2938) rfl rfl ?_
    exact fin
  by_cases h0 : r.1 = 0
  · refine x_if (a' := 2846) (pc' := 2834) (z := false) rfl rfl rfl (by rw [h0]; rfl) (fun h => by cases h) (fun _ => ?_)
    refine x_aload_n (pc' := 2835) rfl rfl rfl rfl rfl ?_
    refine x_iconst (pc' := 2836) rfl rfl ?_
    refine x_lald (pc' := 2837) (N := 1) (x := r.2.1.toInt64) rfl rfl (kN_23_0 hc2) (by decide) (hout h0) ?_
    refine x_iload (pc' := 2839) rfl rfl rfl ?_
    refine x_i2l (pc' := 2840) rfl rfl rfl ?_
    refine x_lcmp (pc' := 2841) (z := 0) rfl rfl (sLcmp_s _) ?_
    refine x_if (a' := 2846) (pc' := 2844) (z := true) rfl rfl rfl (by decide) (fun _ => gof) (fun h => by cases h)
  · refine x_if (a' := 2846) (pc' := 2834) (z := true) rfl rfl rfl ((ic_ne (p := r.1) (q := 0) (by omega) (by decide)).trans (decide_eq_true h0)) (fun _ => gof) (fun h => by cases h)
theorem lc_39 (hd : Hd t M n T Ls A B xs L) (hv : Hv M n e) (he : e ≤ 599) (hi : i + 7 ≤ L) (hL : L ≤ 3584) (hk : ((xs i) &&& 63) = 39)
    (q : ∀ t' T' Ls' (y5 y6 : sV), Hd t' (sp123 M n (xs (i + 1))).2.2.1 (sp123 M n (xs (i + 1))).2.2.2 T' Ls' (A + 2) (B + 12) xs L → Hv (sp123 M n (xs (i + 1))).2.2.1 (sp123 M n (xs (i + 1))).2.2.2 (e + 1) → X 297 23 [.inr (.inr (29, (some 0))), .inr (.inr (11, (some 0))), .inr (.inr (12, (some 0))), .inr (.inr (23, (some 0))), .inl (io (i + 7)), y5, y6] [] t' Q) :
    X 297 23 [.inr (.inr (29, (some 0))), .inr (.inr (11, (some 0))), .inr (.inr (12, (some 0))), .inr (.inr (23, (some 0))), .inl (io i), y0, y1] [] t Q := by
  have hTT := Hv_T hv
  have hTN : tN M = T := W_tN hd.1
  rw [hTN] at hTT
  have hI : mI M 801 = io T := hTT.2.2
  have hT4 : T < 4096 := by omega
  obtain ⟨j1, j2⟩ : (sp123 M n (xs (i + 1))).1 ≤ 1 ∧ mI (sp123 M n (xs (i + 1))).2.2.1 768 = io (sp123 M n (xs (i + 1))).1 := J123
  have hr : Hv (sp123 M n (xs (i + 1))).2.2.1 (sp123 M n (xs (i + 1))).2.2.2 (e + 1) := Hv_e (H123 hv)
  have HN : ∀ {t1 : sT}, lw t1 t → sN t1 29 0 = L := fun h => (congrFun h.2.1 0).trans hd.2.2.2.2
  have HA : ∀ {t1 : sT}, lw t1 t → ∀ p, sA t1 29 0 p = xs p := fun h p => (congrFun (congrFun h.1 0) p).trans (hd.2.2.2.1 p)
  have l0 : lw t t := ⟨rfl, rfl, rfl⟩
  refine hd_40 hd hi hL ?_
  refine x_switch (pc' := 2849) rfl (by rw [hk]; decide) ?_
  refine x_aload_n (pc' := 2850) rfl rfl rfl rfl rfl ?_
  refine x_aload_n (pc' := 2851) rfl rfl rfl rfl rfl ?_
  refine x_iload (pc' := 2853) rfl rfl rfl ?_
  refine x_iconst (pc' := 2854) rfl rfl ?_
  refine x_iadd (pc' := 2855) (z := io (i + 1)) rfl rfl (io_add i 1) ?_
  refine x_iald (pc' := 2856) (N := L) (x := xs (i + 1)) rfl rfl rfl (HN l0) (io_in (p := i + 1) (N := L) (by omega) (by omega)) (Eq.trans (congrArg (sA t 29 0) (nn_io (p := i + 1) (by omega))) (HA l0 _)) ?_
  refine x_aload_n (pc' := 2857) rfl rfl rfl rfl rfl ?_
  refine x_cs (ls0 := [_, _, _, sJk]) (rest := []) rfl rfl rfl rfl ?_
  refine wr_296 (r := (sp123 M n (xs (i + 1)))) (w := 0) j1 hd.2.2.1 (fun Q' h => C123 hd.1 h) (fun t1 T1 L1 W1 l1 z1 o1 => ?_)
  refine sK_i (pc' := 2860) rfl ?_
  refine x_istore (pc' := 2862) (ls' := [_, _, _, _, _, _, _]) rfl rfl rfl rfl ?_
  have hV : Vr t1 M n := ⟨l1.2.2.trans hd.2.1, W1.2.1.1, hd.1.2.2.1⟩
  refine x_aload_n (pc' := 2863) rfl rfl rfl rfl rfl ?_
  refine x_aload_n (pc' := 2864) rfl rfl rfl rfl rfl ?_
  refine x_iload (pc' := 2866) rfl rfl rfl ?_
  refine x_iconst (pc' := 2867) rfl rfl ?_
  refine x_iadd (pc' := 2868) (z := io (i + 1)) rfl rfl (io_add i 1) ?_
  refine x_iald (pc' := 2869) (N := L) (x := xs (i + 1)) rfl rfl rfl (HN l1) (io_in (p := i + 1) (N := L) (by omega) (by omega)) (Eq.trans (congrArg (sA t1 29 0) (nn_io (p := i + 1) (by omega))) (HA l1 _)) ?_
  refine x_cv (ls0 := [_, _]) (rest := []) rfl rfl rfl rfl rfl ?_
  refine R242 hV (fun t2 h2 c2 => ?_)
  refine sK_i (pc' := 2872) rfl ?_
  refine x_istore (pc' := 2874) (ls' := [_, _, _, _, _, _, _]) rfl rfl rfl rfl ?_
  have W2 : Wc t2 (sp123 M n (xs (i + 1))).2.2.1 (sp123 M n (xs (i + 1))).2.2.2 T1 L1 (A + 2) (B + 12) := W_cp c2 W1
  have HN2 : sN t2 29 0 = L := (congrFun (congrFun (cpN c2) 29) 0).trans (HN l1)
  have HA2 : ∀ p, sA t2 29 0 p = xs p := fun p => (cpA c2 rfl).trans (HA l1 p)
  have HD2 := (⟨W2, h2, Zr_cp c2 z1, HA2, HN2⟩ : Hd t2 (sp123 M n (xs (i + 1))).2.2.1 (sp123 M n (xs (i + 1))).2.2.2 T1 L1 (A + 2) (B + 12) xs L)
  have q2 := fun y5 y6 => q t2 T1 L1 y5 y6 HD2 hr
  have hout : (sp123 M n (xs (i + 1))).1 = 0 → sL t2 23 0 0 = ol (sp123 M n (xs (i + 1))).2.1 := fun h => (congrFun (congrFun (congrFun (cpL c2) 23) 0) 0).trans (o1 h)
  have hc2 : Cn t2 := W2.2.1.1
  clear q HD2 hr W2 W1 o1
  generalize (sp123 M n (xs (i + 1))) = r at *
  have fin : X 297 2938 [.inr (.inr (29, (some 0))), .inr (.inr (11, (some 0))), .inr (.inr (12, (some 0))), .inr (.inr (23, (some 0))), .inl (io i), .inl (io r.1), .inl r.2.1] [] t2 Q := by
    refine x_iinc (pc' := 2941) (y := io (i + 7)) (ls' := [_, _, _, _, _, _, _]) rfl rfl rfl (io_add i 7) rfl ?_
    refine x_goto (pc' := 23) rfl rfl ?_
    exact q2 _ _
  refine x_aload_n (pc' := 2875) rfl rfl rfl rfl rfl ?_
  refine x_cv (ls0 := [_]) (rest := []) rfl rfl rfl rfl rfl ?_
  refine x_aload_n (pc' := 1) rfl rfl rfl rfl rfl ?_
  refine x_gI (pc' := 4) (x := io r.1) rfl rfl rfl ((gI h2 rfl).trans j2) ?_
  refine x_reti rfl rfl ?_
  refine sK_i (pc' := 2878) rfl ?_
  refine x_iload (pc' := 2880) rfl rfl rfl ?_
  refine x_icmp (a' := 2885) (pc' := 2883) (z := true) rfl rfl rfl (show decide (io r.1 = io r.1) = true from decide_eq_true rfl) (fun _ => ?_) (fun h => by cases h)
  refine x_iload (pc' := 2887) rfl rfl rfl ?_
  have gof : X 297 2909 [.inr (.inr (29, (some 0))), .inr (.inr (11, (some 0))), .inr (.inr (12, (some 0))), .inr (.inr (23, (some 0))), .inl (io i), .inl (io r.1), .inl r.2.1] [] t2 Q := by
    refine x_goto (pc' := 2938) rfl rfl ?_
    exact fin
  by_cases h0 : r.1 = 0
  · refine x_if (a' := 2909) (pc' := 2890) (z := false) rfl rfl rfl (by rw [h0]; rfl) (fun h => by cases h) (fun _ => ?_)
    refine x_aload_n (pc' := 2891) rfl rfl rfl rfl rfl ?_
    refine x_iconst (pc' := 2892) rfl rfl ?_
    refine x_lald (pc' := 2893) (N := 1) (x := ol r.2.1) rfl rfl (kN_23_0 hc2) (by decide) (hout h0) ?_
    refine x_iload (pc' := 2895) rfl rfl rfl ?_
    refine x_if (a' := 2902) (pc' := 2898) (z := decide (r.2.1 = 0)) rfl rfl rfl rfl (fun h => ?_) (fun h => ?_)
    · refine x_lconst (pc' := 2903) rfl rfl rfl ?_
      refine x_lcmp (pc' := 2904) (z := 0) rfl rfl (by rw [ol_0 h]; exact sLcmp_s _) ?_
      refine x_if (a' := 2909) (pc' := 2907) (z := true) rfl rfl rfl (by decide) (fun _ => gof) (fun h => by cases h)
    · refine x_lconst (pc' := 2899) rfl rfl rfl ?_
      refine x_goto (pc' := 2903) rfl rfl ?_
      refine x_lcmp (pc' := 2904) (z := 0) rfl rfl (by rw [ol_1 h]; exact sLcmp_s _) ?_
      refine x_if (a' := 2909) (pc' := 2907) (z := true) rfl rfl rfl (by decide) (fun _ => gof) (fun h => by cases h)
  · refine x_if (a' := 2909) (pc' := 2890) (z := true) rfl rfl rfl ((ic_ne (p := r.1) (q := 0) (by omega) (by decide)).trans (decide_eq_true h0)) (fun _ => gof) (fun h => by cases h)
theorem lc_40 (hd : Hd t M n T Ls A B xs L) (hv : Hv M n e) (he : e ≤ 599) (hi : i + 7 ≤ L) (hL : L ≤ 3584) (hk : ((xs i) &&& 63) = 40)
    (q : ∀ t' T' Ls' (y5 y6 : sV), Hd t' (sp124 M n).2.2.1 (sp124 M n).2.2.2 T' Ls' (A + 2) (B + 12) xs L → Hv (sp124 M n).2.2.1 (sp124 M n).2.2.2 (e + 1) → X 297 23 [.inr (.inr (29, (some 0))), .inr (.inr (11, (some 0))), .inr (.inr (12, (some 0))), .inr (.inr (23, (some 0))), .inl (io (i + 7)), y5, y6] [] t' Q) :
    X 297 23 [.inr (.inr (29, (some 0))), .inr (.inr (11, (some 0))), .inr (.inr (12, (some 0))), .inr (.inr (23, (some 0))), .inl (io i), y0, y1] [] t Q := by
  have hTT := Hv_T hv
  have hTN : tN M = T := W_tN hd.1
  rw [hTN] at hTT
  have hI : mI M 801 = io T := hTT.2.2
  have hT4 : T < 4096 := by omega
  obtain ⟨j1, j2⟩ : (sp124 M n).1 ≤ 0 ∧ mI (sp124 M n).2.2.1 768 = io (sp124 M n).1 := J124
  have hr : Hv (sp124 M n).2.2.1 (sp124 M n).2.2.2 (e + 1) := Hv_e (H124 hv)
  have HN : ∀ {t1 : sT}, lw t1 t → sN t1 29 0 = L := fun h => (congrFun h.2.1 0).trans hd.2.2.2.2
  have HA : ∀ {t1 : sT}, lw t1 t → ∀ p, sA t1 29 0 p = xs p := fun h p => (congrFun (congrFun h.1 0) p).trans (hd.2.2.2.1 p)
  have l0 : lw t t := ⟨rfl, rfl, rfl⟩
  refine hd_40 hd hi hL ?_
  refine x_switch (pc' := 2912) rfl (by rw [hk]; decide) ?_
  refine x_aload_n (pc' := 2913) rfl rfl rfl rfl rfl ?_
  refine x_cv (ls0 := [_]) (rest := []) rfl rfl rfl rfl rfl ?_
  refine X_zr hd.2.2.1 (C124 hd.1 (fun t1 T1 L1 W1 e1 _ z1 => ?_))
  have l1 := lw_ep e1
  refine sK_i (pc' := 2916) rfl ?_
  refine x_aload_n (pc' := 2917) rfl rfl rfl rfl rfl ?_
  have hV : Vr t1 M n := ⟨l1.2.2.trans hd.2.1, W1.2.1.1, hd.1.2.2.1⟩
  refine x_cv (ls0 := [_]) (rest := [_]) rfl rfl rfl rfl rfl ?_
  refine R243 hV (fun t2 h2 c2 => ?_)
  refine sK_i (pc' := 2920) rfl ?_
  have W2 : Wc t2 (sp124 M n).2.2.1 (sp124 M n).2.2.2 T1 L1 (A + 2) (B + 12) := W_cp c2 W1
  have HN2 : sN t2 29 0 = L := (congrFun (congrFun (cpN c2) 29) 0).trans (HN l1)
  have HA2 : ∀ p, sA t2 29 0 p = xs p := fun p => (cpA c2 rfl).trans (HA l1 p)
  refine x_icmp (a' := 2938) (pc' := 2923) (z := true) rfl rfl rfl (decide_eq_true rfl) (fun _ => ?_) (fun h => by cases h)
  refine x_iinc (pc' := 2941) (y := io (i + 7)) (ls' := [_, _, _, _, _, _, _]) rfl rfl rfl (io_add i 7) rfl ?_
  refine x_goto (pc' := 23) rfl rfl ?_
  exact q t2 T1 L1 _ _ ⟨W2, h2, Zr_cp c2 z1, HA2, HN2⟩ hr
theorem lc_41 (hd : Hd t M n T Ls A B xs L) (hv : Hv M n e) (he : e ≤ 599) (hi : i + 7 ≤ L) (hL : L ≤ 3584) (hk : ((xs i) &&& 63) = 41)
    (q : ∀ t' T' Ls' (y5 y6 : sV), Hd t' (sp125 M n).2.2.1 (sp125 M n).2.2.2 T' Ls' (A + 2) (B + 12) xs L → Hv (sp125 M n).2.2.1 (sp125 M n).2.2.2 (e + 1) → X 297 23 [.inr (.inr (29, (some 0))), .inr (.inr (11, (some 0))), .inr (.inr (12, (some 0))), .inr (.inr (23, (some 0))), .inl (io (i + 7)), y5, y6] [] t' Q) :
    X 297 23 [.inr (.inr (29, (some 0))), .inr (.inr (11, (some 0))), .inr (.inr (12, (some 0))), .inr (.inr (23, (some 0))), .inl (io i), y0, y1] [] t Q := by
  have hTT := Hv_T hv
  have hTN : tN M = T := W_tN hd.1
  rw [hTN] at hTT
  have hI : mI M 801 = io T := hTT.2.2
  have hT4 : T < 4096 := by omega
  obtain ⟨j1, j2⟩ : (sp125 M n).1 ≤ 0 ∧ mI (sp125 M n).2.2.1 768 = io (sp125 M n).1 := J125
  have hr : Hv (sp125 M n).2.2.1 (sp125 M n).2.2.2 (e + 1) := Hv_e (H125 hv)
  have HN : ∀ {t1 : sT}, lw t1 t → sN t1 29 0 = L := fun h => (congrFun h.2.1 0).trans hd.2.2.2.2
  have HA : ∀ {t1 : sT}, lw t1 t → ∀ p, sA t1 29 0 p = xs p := fun h p => (congrFun (congrFun h.1 0) p).trans (hd.2.2.2.1 p)
  have l0 : lw t t := ⟨rfl, rfl, rfl⟩
  refine hd_40 hd hi hL ?_
  refine x_switch (pc' := 2925) rfl (by rw [hk]; decide) ?_
  refine x_aload_n (pc' := 2926) rfl rfl rfl rfl rfl ?_
  refine x_cv (ls0 := [_]) (rest := []) rfl rfl rfl rfl rfl ?_
  refine X_zr hd.2.2.1 (C125 hd.1 (fun t1 T1 L1 W1 e1 _ z1 => ?_))
  have l1 := lw_ep e1
  refine sK_i (pc' := 2929) rfl ?_
  refine x_aload_n (pc' := 2930) rfl rfl rfl rfl rfl ?_
  have hV : Vr t1 M n := ⟨l1.2.2.trans hd.2.1, W1.2.1.1, hd.1.2.2.1⟩
  refine x_cv (ls0 := [_]) (rest := [_]) rfl rfl rfl rfl rfl ?_
  refine R244 hV (fun t2 h2 c2 => ?_)
  refine sK_i (pc' := 2933) rfl ?_
  have W2 : Wc t2 (sp125 M n).2.2.1 (sp125 M n).2.2.2 T1 L1 (A + 2) (B + 12) := W_cp c2 W1
  have HN2 : sN t2 29 0 = L := (congrFun (congrFun (cpN c2) 29) 0).trans (HN l1)
  have HA2 : ∀ p, sA t2 29 0 p = xs p := fun p => (cpA c2 rfl).trans (HA l1 p)
  refine x_icmp (a' := 2938) (pc' := 2936) (z := true) rfl rfl rfl (decide_eq_true rfl) (fun _ => ?_) (fun h => by cases h)
  refine x_iinc (pc' := 2941) (y := io (i + 7)) (ls' := [_, _, _, _, _, _, _]) rfl rfl rfl (io_add i 7) rfl ?_
  refine x_goto (pc' := 23) rfl rfl ?_
  exact q t2 T1 L1 _ _ ⟨W2, h2, Zr_cp c2 z1, HA2, HN2⟩ hr
end S99zr
