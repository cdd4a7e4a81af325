/-! the law's wrappers: a call of the class, its answer noted, its throws told by numbers (printed by gen99zp.py) -/
def ol (v : Int32) : Int64 := if v = 0 then 0 else 1
/-- what a call of the class leaves of the law's arrays, and of the reference -/
def lw (t' t : sT) : Prop := sA t' 29 = sA t 29 ∧ sN t' 29 = sN t 29 ∧ rp t' = rp t
section S99zp
variable {t t' t0 t1 : sT} {M M' M0 N : sM} {n T A B w : Nat} {v : Int32} {L L' l : List Nat} {Q : sRs → sT → Prop} {r : Rs4}
theorem ol_0 (h : decide (v = 0) = true) : ol v = 0 := if_pos (of_decide_eq_true h)
theorem ol_1 (h : decide (v = 0) = false) : ol v = 1 := if_neg (of_decide_eq_false h)
theorem lw_ep (h : ep t' = ep t) : lw t' t := by
  refine ⟨?_, congrArg (fun z => z.2.2.2.2) h, rp_ep h⟩
  have h1 := congrFun (congrArg (fun z => z.1) h) 29
  exact h1
theorem lw_L {x : Int64} (h : lw t' t) : lw (sLw t' 23 0 0 x) t := ⟨h.1, h.2.1, h.2.2⟩
theorem W_L {x : Int64} (hW : Wc t M n T L A B) : Wc (sLw t 23 0 0 x) M n T L A B :=
  W_gen hW (Cn.L hW.2.1.1) (fun _ _ _ => rfl) rfl rfl (fun _ _ _ => rfl) rfl (fun _ _ => rfl) rfl (Nat.le_refl _) (Nat.le_refl _)
theorem Zr_L {x : Int64} (hz : Zr t) : Zr (sLw t 23 0 0 x) := Zr_e rfl rfl rfl hz
theorem wr_259 {p0 : Int32} (hr : r.1 ≤ 2) (hz : Zr t) (hC : ∀ Q', Kc t T A B w [0, 2] r Q' → X 84 0 [.inr (.inr (11, (some 0))), .inl p0, sJk, sJk] [] t Q')
    (q : ∀ t1 T1 L1, Wc t1 r.2.2.1 r.2.2.2 T1 L1 (A + 2) (B + 12) → lw t1 t → Zr t1 → (r.1 = 0 → sL t1 23 0 0 = r.2.1.toInt64) → Q (.inl (some (.inl (io r.1)))) t1) :
    X 259 0 [.inr (.inr (11, (some 0))), .inl p0, .inr (.inr (23, (some 0))), sJk] [] t Q := by
  refine x_aload_n (pc' := 1) rfl rfl rfl rfl rfl ?_
  refine x_iconst (pc' := 2) rfl rfl ?_
  refine x_aload_n (pc' := 3) rfl rfl rfl rfl rfl ?_
  refine x_iload_n (pc' := 4) rfl rfl rfl ?_
  refine x_cv (ls0 := [_, _, sJk, sJk]) (rest := [_, _]) rfl rfl rfl rfl rfl ?_
  refine X_zr hz (hC _ (fun t1 T1 L1 W1 e1 _ hz1 => ?_))
  have hc1 : Cn t1 := W1.2.1.1
  have l1 := lw_ep e1
  obtain ⟨c, v, N, j⟩ := r
  match c, hr with
  | 0, _ =>
    refine sK_i (pc' := 7) rfl ?_
    refine x_i2l (pc' := 8) rfl rfl rfl ?_
    refine x_last (pc' := 9) (N := 1) (p := 0) rfl rfl (kN_23_0 hc1) (by decide) (by decide) ?_
    refine x_goto (pc' := 18) rfl rfl ?_
    refine x_iconst (pc' := 19) rfl rfl ?_
    refine x_reti rfl rfl ?_
    exact q _ T1 L1 (W_L W1) (lw_L l1) (Zr_L hz1) (fun _ => sL_s)
  | 1, _ =>
    refine sK_h (h := 12) (by decide +kernel) rfl ?_
    refine x_catch_n (pc' := 13) (ls' := [_, _, _, _]) rfl rfl rfl rfl ?_
    refine x_iconst (pc' := 14) rfl rfl ?_
    refine x_reti rfl rfl ?_
    exact q t1 T1 L1 W1 l1 hz1 (fun z => by cases z)
  | 2, _ =>
    refine sK_h (h := 15) (by decide +kernel) rfl ?_
    refine x_catch_n (pc' := 16) (ls' := [_, _, _, _]) rfl rfl rfl rfl ?_
    refine x_iconst (pc' := 17) rfl rfl ?_
    refine x_reti rfl rfl ?_
    exact q t1 T1 L1 W1 l1 hz1 (fun z => by cases z)
  | c + 3, h => exact absurd (show c + 3 ≤ 2 from h) (by omega)
theorem wr_260 {p0 : Int32} (hr : r.1 ≤ 2) (hz : Zr t) (hC : ∀ Q', Kc t T A B w [0, 2] r Q' → X 85 0 [.inr (.inr (11, (some 0))), .inl p0, sJk, sJk] [] t Q')
    (q : ∀ t1 T1 L1, Wc t1 r.2.2.1 r.2.2.2 T1 L1 (A + 2) (B + 12) → lw t1 t → Zr t1 → (r.1 = 0 → sL t1 23 0 0 = r.2.1.toInt64) → Q (.inl (some (.inl (io r.1)))) t1) :
    X 260 0 [.inr (.inr (11, (some 0))), .inl p0, .inr (.inr (23, (some 0))), sJk] [] t Q := by
  refine x_aload_n (pc' := 1) rfl rfl rfl rfl rfl ?_
  refine x_iconst (pc' := 2) rfl rfl ?_
  refine x_aload_n (pc' := 3) rfl rfl rfl rfl rfl ?_
  refine x_iload_n (pc' := 4) rfl rfl rfl ?_
  refine x_cv (ls0 := [_, _, sJk, sJk]) (rest := [_, _]) rfl rfl rfl rfl rfl ?_
  refine X_zr hz (hC _ (fun t1 T1 L1 W1 e1 _ hz1 => ?_))
  have hc1 : Cn t1 := W1.2.1.1
  have l1 := lw_ep e1
  obtain ⟨c, v, N, j⟩ := r
  match c, hr with
  | 0, _ =>
    refine sK_i (pc' := 7) rfl ?_
    refine x_i2l (pc' := 8) rfl rfl rfl ?_
    refine x_last (pc' := 9) (N := 1) (p := 0) rfl rfl (kN_23_0 hc1) (by decide) (by decide) ?_
    refine x_goto (pc' := 18) rfl rfl ?_
    refine x_iconst (pc' := 19) rfl rfl ?_
    refine x_reti rfl rfl ?_
    exact q _ T1 L1 (W_L W1) (lw_L l1) (Zr_L hz1) (fun _ => sL_s)
  | 1, _ =>
    refine sK_h (h := 12) (by decide +kernel) rfl ?_
    refine x_catch_n (pc' := 13) (ls' := [_, _, _, _]) rfl rfl rfl rfl ?_
    refine x_iconst (pc' := 14) rfl rfl ?_
    refine x_reti rfl rfl ?_
    exact q t1 T1 L1 W1 l1 hz1 (fun z => by cases z)
  | 2, _ =>
    refine sK_h (h := 15) (by decide +kernel) rfl ?_
    refine x_catch_n (pc' := 16) (ls' := [_, _, _, _]) rfl rfl rfl rfl ?_
    refine x_iconst (pc' := 17) rfl rfl ?_
    refine x_reti rfl rfl ?_
    exact q t1 T1 L1 W1 l1 hz1 (fun z => by cases z)
  | c + 3, h => exact absurd (show c + 3 ≤ 2 from h) (by omega)
theorem wr_261 {p0 : Int32} (hr : r.1 ≤ 2) (hz : Zr t) (hC : ∀ Q', Kc t T A B w [0, 2] r Q' → X 86 0 [.inr (.inr (11, (some 0))), .inl p0, sJk, sJk] [] t Q')
    (q : ∀ t1 T1 L1, Wc t1 r.2.2.1 r.2.2.2 T1 L1 (A + 2) (B + 12) → lw t1 t → Zr t1 → (r.1 = 0 → sL t1 23 0 0 = r.2.1.toInt64) → Q (.inl (some (.inl (io r.1)))) t1) :
    X 261 0 [.inr (.inr (11, (some 0))), .inl p0, .inr (.inr (23, (some 0))), sJk] [] t Q := by
  refine x_aload_n (pc' := 1) rfl rfl rfl rfl rfl ?_
  refine x_iconst (pc' := 2) rfl rfl ?_
  refine x_aload_n (pc' := 3) rfl rfl rfl rfl rfl ?_
  refine x_iload_n (pc' := 4) rfl rfl rfl ?_
  refine x_cv (ls0 := [_, _, sJk, sJk]) (rest := [_, _]) rfl rfl rfl rfl rfl ?_
  refine X_zr hz (hC _ (fun t1 T1 L1 W1 e1 _ hz1 => ?_))
  have hc1 : Cn t1 := W1.2.1.1
  have l1 := lw_ep e1
  obtain ⟨c, v, N, j⟩ := r
  match c, hr with
  | 0, _ =>
    refine sK_i (pc' := 7) rfl ?_
    refine x_i2l (pc' := 8) rfl rfl rfl ?_
    refine x_last (pc' := 9) (N := 1) (p := 0) rfl rfl (kN_23_0 hc1) (by decide) (by decide) ?_
    refine x_goto (pc' := 18) rfl rfl ?_
    refine x_iconst (pc' := 19) rfl rfl ?_
    refine x_reti rfl rfl ?_
    exact q _ T1 L1 (W_L W1) (lw_L l1) (Zr_L hz1) (fun _ => sL_s)
  | 1, _ =>
    refine sK_h (h := 12) (by decide +kernel) rfl ?_
    refine x_catch_n (pc' := 13) (ls' := [_, _, _, _]) rfl rfl rfl rfl ?_
    refine x_iconst (pc' := 14) rfl rfl ?_
    refine x_reti rfl rfl ?_
    exact q t1 T1 L1 W1 l1 hz1 (fun z => by cases z)
  | 2, _ =>
    refine sK_h (h := 15) (by decide +kernel) rfl ?_
    refine x_catch_n (pc' := 16) (ls' := [_, _, _, _]) rfl rfl rfl rfl ?_
    refine x_iconst (pc' := 17) rfl rfl ?_
    refine x_reti rfl rfl ?_
    exact q t1 T1 L1 W1 l1 hz1 (fun z => by cases z)
  | c + 3, h => exact absurd (show c + 3 ≤ 2 from h) (by omega)
theorem wr_262 {p0 : Int32} {s : Bool} (hr : r.1 ≤ 1) (hz : Zr t) (hC : ∀ Q', Kc t T A B w [0] r Q' → X 87 0 [.inr (.inr (11, (some 0))), .inl p0, .inl (bz s), sJk, sJk] [] t Q')
    (q : ∀ t1 T1 L1, Wc t1 r.2.2.1 r.2.2.2 T1 L1 (A + 2) (B + 12) → lw t1 t → Zr t1 → (r.1 = 0 → sL t1 23 0 0 = (ol r.2.1)) → Q (.inl (some (.inl (io r.1)))) t1) :
    X 262 0 [.inr (.inr (11, (some 0))), .inl p0, .inl (bz s), .inr (.inr (23, (some 0))), sJk] [] t Q := by
  refine x_aload_n (pc' := 1) rfl rfl rfl rfl rfl ?_
  refine x_iconst (pc' := 2) rfl rfl ?_
  refine x_aload_n (pc' := 3) rfl rfl rfl rfl rfl ?_
  refine x_iload_n (pc' := 4) rfl rfl rfl ?_
  refine x_iload_n (pc' := 5) rfl rfl rfl ?_
  refine x_cv (ls0 := [_, _, _, sJk, sJk]) (rest := [_, _]) rfl rfl rfl rfl rfl ?_
  refine X_zr hz (hC _ (fun t1 T1 L1 W1 e1 _ hz1 => ?_))
  have hc1 : Cn t1 := W1.2.1.1
  have l1 := lw_ep e1
  obtain ⟨c, v, N, j⟩ := r
  match c, hr with
  | 0, _ =>
    refine sK_i (pc' := 8) rfl ?_
    refine x_if (a' := 15) (pc' := 11) (z := decide (v = 0)) rfl rfl rfl rfl (fun h0 => ?_) (fun h0 => ?_)
    · refine x_lconst (pc' := 16) rfl rfl rfl ?_
      refine x_last (pc' := 17) (N := 1) (p := 0) rfl rfl (kN_23_0 hc1) (by decide) (by decide) ?_
      refine x_goto (pc' := 24) rfl rfl ?_
      refine x_iconst (pc' := 25) rfl rfl ?_
      refine x_reti rfl rfl ?_
      exact q _ T1 L1 (W_L W1) (lw_L l1) (Zr_L hz1) (fun _ => (sL_s.trans (ol_0 h0).symm))
    · refine x_lconst (pc' := 12) rfl rfl rfl ?_
      refine x_goto (pc' := 16) rfl rfl ?_
      refine x_last (pc' := 17) (N := 1) (p := 0) rfl rfl (kN_23_0 hc1) (by decide) (by decide) ?_
      refine x_goto (pc' := 24) rfl rfl ?_
      refine x_iconst (pc' := 25) rfl rfl ?_
      refine x_reti rfl rfl ?_
      exact q _ T1 L1 (W_L W1) (lw_L l1) (Zr_L hz1) (fun _ => (sL_s.trans (ol_1 h0).symm))
  | 1, _ =>
    refine sK_h (h := 20) (by decide +kernel) rfl ?_
    refine x_catch (pc' := 22) (ls' := [_, _, _, _, _]) rfl rfl rfl rfl ?_
    refine x_iconst (pc' := 23) rfl rfl ?_
    refine x_reti rfl rfl ?_
    exact q t1 T1 L1 W1 l1 hz1 (fun z => by cases z)
  | c + 2, h => exact absurd (show c + 2 ≤ 1 from h) (by omega)
theorem wr_263 {p0 : Int32} {p1 : Int32} {p2 : Int32} (hr : r.1 ≤ 2) (hz : Zr t) (hC : ∀ Q', Kn t T A B w [0, 1] r Q' → X 88 0 [.inr (.inr (11, (some 0))), .inl p0, .inl p1, .inl p2, sJk] [] t Q')
    (q : ∀ t1 T1 L1, Wc t1 r.2.2.1 r.2.2.2 T1 L1 (A + 2) (B + 12) → lw t1 t → Zr t1 → Q (.inl (some (.inl (io r.1)))) t1) :
    X 263 0 [.inr (.inr (11, (some 0))), .inl p0, .inl p1, .inl p2, sJk] [] t Q := by
  refine x_aload_n (pc' := 1) rfl rfl rfl rfl rfl ?_
  refine x_iload_n (pc' := 2) rfl rfl rfl ?_
  refine x_iload_n (pc' := 3) rfl rfl rfl ?_
  refine x_iload_n (pc' := 4) rfl rfl rfl ?_
  refine x_cv (ls0 := [_, _, _, _, sJk]) (rest := []) rfl rfl rfl rfl rfl ?_
  refine X_zr hz (hC _ (fun t1 T1 L1 W1 e1 _ hz1 => ?_))
  have hc1 : Cn t1 := W1.2.1.1
  have l1 := lw_ep e1
  obtain ⟨c, v, N, j⟩ := r
  match c, hr with
  | 0, _ =>
    refine sK_v (pc' := 7) rfl ?_
    refine x_goto (pc' := 18) rfl rfl ?_
    refine x_iconst (pc' := 19) rfl rfl ?_
    refine x_reti rfl rfl ?_
    exact q t1 T1 L1 W1 l1 hz1
  | 1, _ =>
    refine sK_h (h := 10) (by decide +kernel) rfl ?_
    refine x_catch (pc' := 12) (ls' := [_, _, _, _, _]) rfl rfl rfl rfl ?_
    refine x_iconst (pc' := 13) rfl rfl ?_
    refine x_reti rfl rfl ?_
    exact q t1 T1 L1 W1 l1 hz1
  | 2, _ =>
    refine sK_h (h := 14) (by decide +kernel) rfl ?_
    refine x_catch (pc' := 16) (ls' := [_, _, _, _, _]) rfl rfl rfl rfl ?_
    refine x_iconst (pc' := 17) rfl rfl ?_
    refine x_reti rfl rfl ?_
    exact q t1 T1 L1 W1 l1 hz1
  | c + 3, h => exact absurd (show c + 3 ≤ 2 from h) (by omega)
theorem wr_264 {p0 : Int32} {p1 : Int32} (hr : r.1 ≤ 3) (hz : Zr t) (hC : ∀ Q', Kc t T A B w [0, 1, 2] r Q' → X 89 0 [.inr (.inr (11, (some 0))), .inl p0, .inl p1, sJk, sJk] [] t Q')
    (q : ∀ t1 T1 L1, Wc t1 r.2.2.1 r.2.2.2 T1 L1 (A + 2) (B + 12) → lw t1 t → Zr t1 → (r.1 = 0 → sL t1 23 0 0 = r.2.1.toInt64) → Q (.inl (some (.inl (io r.1)))) t1) :
    X 264 0 [.inr (.inr (11, (some 0))), .inl p0, .inl p1, .inr (.inr (23, (some 0))), sJk] [] t Q := by
  refine x_aload_n (pc' := 1) rfl rfl rfl rfl rfl ?_
  refine x_iconst (pc' := 2) rfl rfl ?_
  refine x_aload_n (pc' := 3) rfl rfl rfl rfl rfl ?_
  refine x_iload_n (pc' := 4) rfl rfl rfl ?_
  refine x_iload_n (pc' := 5) rfl rfl rfl ?_
  refine x_cv (ls0 := [_, _, _, sJk, sJk]) (rest := [_, _]) rfl rfl rfl rfl rfl ?_
  refine X_zr hz (hC _ (fun t1 T1 L1 W1 e1 _ hz1 => ?_))
  have hc1 : Cn t1 := W1.2.1.1
  have l1 := lw_ep e1
  obtain ⟨c, v, N, j⟩ := r
  match c, hr with
  | 0, _ =>
    refine sK_i (pc' := 8) rfl ?_
    refine x_i2l (pc' := 9) rfl rfl rfl ?_
    refine x_last (pc' := 10) (N := 1) (p := 0) rfl rfl (kN_23_0 hc1) (by decide) (by decide) ?_
    refine x_goto (pc' := 25) rfl rfl ?_
    refine x_iconst (pc' := 26) rfl rfl ?_
    refine x_reti rfl rfl ?_
    exact q _ T1 L1 (W_L W1) (lw_L l1) (Zr_L hz1) (fun _ => sL_s)
  | 1, _ =>
    refine sK_h (h := 13) (by decide +kernel) rfl ?_
    refine x_catch (pc' := 15) (ls' := [_, _, _, _, _]) rfl rfl rfl rfl ?_
    refine x_iconst (pc' := 16) rfl rfl ?_
    refine x_reti rfl rfl ?_
    exact q t1 T1 L1 W1 l1 hz1 (fun z => by cases z)
  | 2, _ =>
    refine sK_h (h := 17) (by decide +kernel) rfl ?_
    refine x_catch (pc' := 19) (ls' := [_, _, _, _, _]) rfl rfl rfl rfl ?_
    refine x_iconst (pc' := 20) rfl rfl ?_
    refine x_reti rfl rfl ?_
    exact q t1 T1 L1 W1 l1 hz1 (fun z => by cases z)
  | 3, _ =>
    refine sK_h (h := 21) (by decide +kernel) rfl ?_
    refine x_catch (pc' := 23) (ls' := [_, _, _, _, _]) rfl rfl rfl rfl ?_
    refine x_iconst (pc' := 24) rfl rfl ?_
    refine x_reti rfl rfl ?_
    exact q t1 T1 L1 W1 l1 hz1 (fun z => by cases z)
  | c + 4, h => exact absurd (show c + 4 ≤ 3 from h) (by omega)
theorem wr_265 {p0 : Int32} {p1 : Int32} (hr : r.1 ≤ 3) (hz : Zr t) (hC : ∀ Q', Kc t T A B w [0, 1, 2] r Q' → X 90 0 [.inr (.inr (11, (some 0))), .inl p0, .inl p1, sJk, sJk] [] t Q')
    (q : ∀ t1 T1 L1, Wc t1 r.2.2.1 r.2.2.2 T1 L1 (A + 2) (B + 12) → lw t1 t → Zr t1 → (r.1 = 0 → sL t1 23 0 0 = r.2.1.toInt64) → Q (.inl (some (.inl (io r.1)))) t1) :
    X 265 0 [.inr (.inr (11, (some 0))), .inl p0, .inl p1, .inr (.inr (23, (some 0))), sJk] [] t Q := by
  refine x_aload_n (pc' := 1) rfl rfl rfl rfl rfl ?_
  refine x_iconst (pc' := 2) rfl rfl ?_
  refine x_aload_n (pc' := 3) rfl rfl rfl rfl rfl ?_
  refine x_iload_n (pc' := 4) rfl rfl rfl ?_
  refine x_iload_n (pc' := 5) rfl rfl rfl ?_
  refine x_cv (ls0 := [_, _, _, sJk, sJk]) (rest := [_, _]) rfl rfl rfl rfl rfl ?_
  refine X_zr hz (hC _ (fun t1 T1 L1 W1 e1 _ hz1 => ?_))
  have hc1 : Cn t1 := W1.2.1.1
  have l1 := lw_ep e1
  obtain ⟨c, v, N, j⟩ := r
  match c, hr with
  | 0, _ =>
    refine sK_i (pc' := 8) rfl ?_
    refine x_i2l (pc' := 9) rfl rfl rfl ?_
    refine x_last (pc' := 10) (N := 1) (p := 0) rfl rfl (kN_23_0 hc1) (by decide) (by decide) ?_
    refine x_goto (pc' := 25) rfl rfl ?_
    refine x_iconst (pc' := 26) rfl rfl ?_
    refine x_reti rfl rfl ?_
    exact q _ T1 L1 (W_L W1) (lw_L l1) (Zr_L hz1) (fun _ => sL_s)
  | 1, _ =>
    refine sK_h (h := 13) (by decide +kernel) rfl ?_
    refine x_catch (pc' := 15) (ls' := [_, _, _, _, _]) rfl rfl rfl rfl ?_
    refine x_iconst (pc' := 16) rfl rfl ?_
    refine x_reti rfl rfl ?_
    exact q t1 T1 L1 W1 l1 hz1 (fun z => by cases z)
  | 2, _ =>
    refine sK_h (h := 17) (by decide +kernel) rfl ?_
    refine x_catch (pc' := 19) (ls' := [_, _, _, _, _]) rfl rfl rfl rfl ?_
    refine x_iconst (pc' := 20) rfl rfl ?_
    refine x_reti rfl rfl ?_
    exact q t1 T1 L1 W1 l1 hz1 (fun z => by cases z)
  | 3, _ =>
    refine sK_h (h := 21) (by decide +kernel) rfl ?_
    refine x_catch (pc' := 23) (ls' := [_, _, _, _, _]) rfl rfl rfl rfl ?_
    refine x_iconst (pc' := 24) rfl rfl ?_
    refine x_reti rfl rfl ?_
    exact q t1 T1 L1 W1 l1 hz1 (fun z => by cases z)
  | c + 4, h => exact absurd (show c + 4 ≤ 3 from h) (by omega)
theorem wr_266 {p0 : Int32} (hr : r.1 ≤ 1) (hz : Zr t) (hC : ∀ Q', Kc t T A B w [1] r Q' → X 91 0 [.inr (.inr (11, (some 0))), .inl p0, sJk] [] t Q')
    (q : ∀ t1 T1 L1, Wc t1 r.2.2.1 r.2.2.2 T1 L1 (A + 2) (B + 12) → lw t1 t → Zr t1 → (r.1 = 0 → sL t1 23 0 0 = r.2.1.toInt64) → Q (.inl (some (.inl (io r.1)))) t1) :
    X 266 0 [.inr (.inr (11, (some 0))), .inl p0, .inr (.inr (23, (some 0))), sJk] [] t Q := by
  refine x_aload_n (pc' := 1) rfl rfl rfl rfl rfl ?_
  refine x_iconst (pc' := 2) rfl rfl ?_
  refine x_aload_n (pc' := 3) rfl rfl rfl rfl rfl ?_
  refine x_iload_n (pc' := 4) rfl rfl rfl ?_
  refine x_cv (ls0 := [_, _, sJk]) (rest := [_, _]) rfl rfl rfl rfl rfl ?_
  refine X_zr hz (hC _ (fun t1 T1 L1 W1 e1 _ hz1 => ?_))
  have hc1 : Cn t1 := W1.2.1.1
  have l1 := lw_ep e1
  obtain ⟨c, v, N, j⟩ := r
  match c, hr with
  | 0, _ =>
    refine sK_i (pc' := 7) rfl ?_
    refine x_i2l (pc' := 8) rfl rfl rfl ?_
    refine x_last (pc' := 9) (N := 1) (p := 0) rfl rfl (kN_23_0 hc1) (by decide) (by decide) ?_
    refine x_goto (pc' := 15) rfl rfl ?_
    refine x_iconst (pc' := 16) rfl rfl ?_
    refine x_reti rfl rfl ?_
    exact q _ T1 L1 (W_L W1) (lw_L l1) (Zr_L hz1) (fun _ => sL_s)
  | 1, _ =>
    refine sK_h (h := 12) (by decide +kernel) rfl ?_
    refine x_catch_n (pc' := 13) (ls' := [_, _, _, _]) rfl rfl rfl rfl ?_
    refine x_iconst (pc' := 14) rfl rfl ?_
    refine x_reti rfl rfl ?_
    exact q t1 T1 L1 W1 l1 hz1 (fun z => by cases z)
  | c + 2, h => exact absurd (show c + 2 ≤ 1 from h) (by omega)
theorem wr_267 {p0 : Int32} {p1 : Int32} (hr : r.1 ≤ 2) (hz : Zr t) (hC : ∀ Q', Kc t T A B w [0, 1] r Q' → X 92 0 [.inr (.inr (11, (some 0))), .inl p0, .inl p1, sJk, sJk] [] t Q')
    (q : ∀ t1 T1 L1, Wc t1 r.2.2.1 r.2.2.2 T1 L1 (A + 2) (B + 12) → lw t1 t → Zr t1 → (r.1 = 0 → sL t1 23 0 0 = r.2.1.toInt64) → Q (.inl (some (.inl (io r.1)))) t1) :
    X 267 0 [.inr (.inr (11, (some 0))), .inl p0, .inl p1, .inr (.inr (23, (some 0))), sJk] [] t Q := by
  refine x_aload_n (pc' := 1) rfl rfl rfl rfl rfl ?_
  refine x_iconst (pc' := 2) rfl rfl ?_
  refine x_aload_n (pc' := 3) rfl rfl rfl rfl rfl ?_
  refine x_iload_n (pc' := 4) rfl rfl rfl ?_
  refine x_iload_n (pc' := 5) rfl rfl rfl ?_
  refine x_cv (ls0 := [_, _, _, sJk, sJk]) (rest := [_, _]) rfl rfl rfl rfl rfl ?_
  refine X_zr hz (hC _ (fun t1 T1 L1 W1 e1 _ hz1 => ?_))
  have hc1 : Cn t1 := W1.2.1.1
  have l1 := lw_ep e1
  obtain ⟨c, v, N, j⟩ := r
  match c, hr with
  | 0, _ =>
    refine sK_i (pc' := 8) rfl ?_
    refine x_i2l (pc' := 9) rfl rfl rfl ?_
    refine x_last (pc' := 10) (N := 1) (p := 0) rfl rfl (kN_23_0 hc1) (by decide) (by decide) ?_
    refine x_goto (pc' := 21) rfl rfl ?_
    refine x_iconst (pc' := 22) rfl rfl ?_
    refine x_reti rfl rfl ?_
    exact q _ T1 L1 (W_L W1) (lw_L l1) (Zr_L hz1) (fun _ => sL_s)
  | 1, _ =>
    refine sK_h (h := 13) (by decide +kernel) rfl ?_
    refine x_catch (pc' := 15) (ls' := [_, _, _, _, _]) rfl rfl rfl rfl ?_
    refine x_iconst (pc' := 16) rfl rfl ?_
    refine x_reti rfl rfl ?_
    exact q t1 T1 L1 W1 l1 hz1 (fun z => by cases z)
  | 2, _ =>
    refine sK_h (h := 17) (by decide +kernel) rfl ?_
    refine x_catch (pc' := 19) (ls' := [_, _, _, _, _]) rfl rfl rfl rfl ?_
    refine x_iconst (pc' := 20) rfl rfl ?_
    refine x_reti rfl rfl ?_
    exact q t1 T1 L1 W1 l1 hz1 (fun z => by cases z)
  | c + 3, h => exact absurd (show c + 3 ≤ 2 from h) (by omega)
theorem wr_268 {p0 : Int32} {p1 : Int32} {p2 : Int32} (hr : r.1 ≤ 2) (hz : Zr t) (hC : ∀ Q', Kc t T A B w [0, 1] r Q' → X 93 0 [.inr (.inr (11, (some 0))), .inl p0, .inl p1, .inl p2, sJk] [] t Q')
    (q : ∀ t1 T1 L1, Wc t1 r.2.2.1 r.2.2.2 T1 L1 (A + 2) (B + 12) → lw t1 t → Zr t1 → (r.1 = 0 → sL t1 23 0 0 = r.2.1.toInt64) → Q (.inl (some (.inl (io r.1)))) t1) :
    X 268 0 [.inr (.inr (11, (some 0))), .inl p0, .inl p1, .inl p2, .inr (.inr (23, (some 0))), sJk] [] t Q := by
  refine x_aload (pc' := 2) rfl rfl rfl rfl rfl ?_
  refine x_iconst (pc' := 3) rfl rfl ?_
  refine x_aload_n (pc' := 4) rfl rfl rfl rfl rfl ?_
  refine x_iload_n (pc' := 5) rfl rfl rfl ?_
  refine x_iload_n (pc' := 6) rfl rfl rfl ?_
  refine x_iload_n (pc' := 7) rfl rfl rfl ?_
  refine x_cv (ls0 := [_, _, _, _, sJk]) (rest := [_, _]) rfl rfl rfl rfl rfl ?_
  refine X_zr hz (hC _ (fun t1 T1 L1 W1 e1 _ hz1 => ?_))
  have hc1 : Cn t1 := W1.2.1.1
  have l1 := lw_ep e1
  obtain ⟨c, v, N, j⟩ := r
  match c, hr with
  | 0, _ =>
    refine sK_i (pc' := 10) rfl ?_
    refine x_i2l (pc' := 11) rfl rfl rfl ?_
    refine x_last (pc' := 12) (N := 1) (p := 0) rfl rfl (kN_23_0 hc1) (by decide) (by decide) ?_
    refine x_goto (pc' := 23) rfl rfl ?_
    refine x_iconst (pc' := 24) rfl rfl ?_
    refine x_reti rfl rfl ?_
    exact q _ T1 L1 (W_L W1) (lw_L l1) (Zr_L hz1) (fun _ => sL_s)
  | 1, _ =>
    refine sK_h (h := 15) (by decide +kernel) rfl ?_
    refine x_catch (pc' := 17) (ls' := [_, _, _, _, _, _]) rfl rfl rfl rfl ?_
    refine x_iconst (pc' := 18) rfl rfl ?_
    refine x_reti rfl rfl ?_
    exact q t1 T1 L1 W1 l1 hz1 (fun z => by cases z)
  | 2, _ =>
    refine sK_h (h := 19) (by decide +kernel) rfl ?_
    refine x_catch (pc' := 21) (ls' := [_, _, _, _, _, _]) rfl rfl rfl rfl ?_
    refine x_iconst (pc' := 22) rfl rfl ?_
    refine x_reti rfl rfl ?_
    exact q t1 T1 L1 W1 l1 hz1 (fun z => by cases z)
  | c + 3, h => exact absurd (show c + 3 ≤ 2 from h) (by omega)
theorem wr_269 {p0 : Int32} {p1 : Int32} {s : Bool} {p3 : Int32} {p4 : Int32} {p5 : Int32} (hr : r.1 ≤ 3) (hz : Zr t) (hC : ∀ Q', Kc t T A B w [0, 1, 2] r Q' → X 94 0 [.inr (.inr (11, (some 0))), .inl p0, .inl p1, .inl (bz s), .inl p3, .inl p4, .inl p5, sJk, sJk, sJk] [] t Q')
    (q : ∀ t1 T1 L1, Wc t1 r.2.2.1 r.2.2.2 T1 L1 (A + 2) (B + 12) → lw t1 t → Zr t1 → (r.1 = 0 → sL t1 23 0 0 = r.2.1.toInt64) → Q (.inl (some (.inl (io r.1)))) t1) :
    X 269 0 [.inr (.inr (11, (some 0))), .inl p0, .inl p1, .inl (bz s), .inl p3, .inl p4, .inl p5, .inr (.inr (23, (some 0))), sJk] [] t Q := by
  refine x_aload (pc' := 2) rfl rfl rfl rfl rfl ?_
  refine x_iconst (pc' := 3) rfl rfl ?_
  refine x_aload_n (pc' := 4) rfl rfl rfl rfl rfl ?_
  refine x_iload_n (pc' := 5) rfl rfl rfl ?_
  refine x_iload_n (pc' := 6) rfl rfl rfl ?_
  refine x_iload_n (pc' := 7) rfl rfl rfl ?_
  refine x_iload (pc' := 9) rfl rfl rfl ?_
  refine x_iload (pc' := 11) rfl rfl rfl ?_
  refine x_iload (pc' := 13) rfl rfl rfl ?_
  refine x_cv (ls0 := [_, _, _, _, _, _, _, sJk, sJk, sJk]) (rest := [_, _]) rfl rfl rfl rfl rfl ?_
  refine X_zr hz (hC _ (fun t1 T1 L1 W1 e1 _ hz1 => ?_))
  have hc1 : Cn t1 := W1.2.1.1
  have l1 := lw_ep e1
  obtain ⟨c, v, N, j⟩ := r
  match c, hr with
  | 0, _ =>
    refine sK_i (pc' := 16) rfl ?_
    refine x_i2l (pc' := 17) rfl rfl rfl ?_
    refine x_last (pc' := 18) (N := 1) (p := 0) rfl rfl (kN_23_0 hc1) (by decide) (by decide) ?_
    refine x_goto (pc' := 33) rfl rfl ?_
    refine x_iconst (pc' := 34) rfl rfl ?_
    refine x_reti rfl rfl ?_
    exact q _ T1 L1 (W_L W1) (lw_L l1) (Zr_L hz1) (fun _ => sL_s)
  | 1, _ =>
    refine sK_h (h := 21) (by decide +kernel) rfl ?_
    refine x_catch (pc' := 23) (ls' := [_, _, _, _, _, _, _, _, _]) rfl rfl rfl rfl ?_
    refine x_iconst (pc' := 24) rfl rfl ?_
    refine x_reti rfl rfl ?_
    exact q t1 T1 L1 W1 l1 hz1 (fun z => by cases z)
  | 2, _ =>
    refine sK_h (h := 25) (by decide +kernel) rfl ?_
    refine x_catch (pc' := 27) (ls' := [_, _, _, _, _, _, _, _, _]) rfl rfl rfl rfl ?_
    refine x_iconst (pc' := 28) rfl rfl ?_
    refine x_reti rfl rfl ?_
    exact q t1 T1 L1 W1 l1 hz1 (fun z => by cases z)
  | 3, _ =>
    refine sK_h (h := 29) (by decide +kernel) rfl ?_
    refine x_catch (pc' := 31) (ls' := [_, _, _, _, _, _, _, _, _]) rfl rfl rfl rfl ?_
    refine x_iconst (pc' := 32) rfl rfl ?_
    refine x_reti rfl rfl ?_
    exact q t1 T1 L1 W1 l1 hz1 (fun z => by cases z)
  | c + 4, h => exact absurd (show c + 4 ≤ 3 from h) (by omega)
theorem wr_270 {p0 : Int32} {p1 : Int32} {s : Bool} {p3 : Int32} {p4 : Int32} (hr : r.1 ≤ 3) (hz : Zr t) (hC : ∀ Q', Kc t T A B w [0, 1, 2] r Q' → X 95 0 [.inr (.inr (11, (some 0))), .inl p0, .inl p1, .inl (bz s), .inl p3, .inl p4, sJk, sJk, sJk] [] t Q')
    (q : ∀ t1 T1 L1, Wc t1 r.2.2.1 r.2.2.2 T1 L1 (A + 2) (B + 12) → lw t1 t → Zr t1 → (r.1 = 0 → sL t1 23 0 0 = r.2.1.toInt64) → Q (.inl (some (.inl (io r.1)))) t1) :
    X 270 0 [.inr (.inr (11, (some 0))), .inl p0, .inl p1, .inl (bz s), .inl p3, .inl p4, .inr (.inr (23, (some 0))), sJk] [] t Q := by
  refine x_aload (pc' := 2) rfl rfl rfl rfl rfl ?_
  refine x_iconst (pc' := 3) rfl rfl ?_
  refine x_aload_n (pc' := 4) rfl rfl rfl rfl rfl ?_
  refine x_iload_n (pc' := 5) rfl rfl rfl ?_
  refine x_iload_n (pc' := 6) rfl rfl rfl ?_
  refine x_iload_n (pc' := 7) rfl rfl rfl ?_
  refine x_iload (pc' := 9) rfl rfl rfl ?_
  refine x_iload (pc' := 11) rfl rfl rfl ?_
  refine x_cv (ls0 := [_, _, _, _, _, _, sJk, sJk, sJk]) (rest := [_, _]) rfl rfl rfl rfl rfl ?_
  refine X_zr hz (hC _ (fun t1 T1 L1 W1 e1 _ hz1 => ?_))
  have hc1 : Cn t1 := W1.2.1.1
  have l1 := lw_ep e1
  obtain ⟨c, v, N, j⟩ := r
  match c, hr with
  | 0, _ =>
    refine sK_i (pc' := 14) rfl ?_
    refine x_i2l (pc' := 15) rfl rfl rfl ?_
    refine x_last (pc' := 16) (N := 1) (p := 0) rfl rfl (kN_23_0 hc1) (by decide) (by decide) ?_
    refine x_goto (pc' := 31) rfl rfl ?_
    refine x_iconst (pc' := 32) rfl rfl ?_
    refine x_reti rfl rfl ?_
    exact q _ T1 L1 (W_L W1) (lw_L l1) (Zr_L hz1) (fun _ => sL_s)
  | 1, _ =>
    refine sK_h (h := 19) (by decide +kernel) rfl ?_
    refine x_catch (pc' := 21) (ls' := [_, _, _, _, _, _, _, _]) rfl rfl rfl rfl ?_
    refine x_iconst (pc' := 22) rfl rfl ?_
    refine x_reti rfl rfl ?_
    exact q t1 T1 L1 W1 l1 hz1 (fun z => by cases z)
  | 2, _ =>
    refine sK_h (h := 23) (by decide +kernel) rfl ?_
    refine x_catch (pc' := 25) (ls' := [_, _, _, _, _, _, _, _]) rfl rfl rfl rfl ?_
    refine x_iconst (pc' := 26) rfl rfl ?_
    refine x_reti rfl rfl ?_
    exact q t1 T1 L1 W1 l1 hz1 (fun z => by cases z)
  | 3, _ =>
    refine sK_h (h := 27) (by decide +kernel) rfl ?_
    refine x_catch (pc' := 29) (ls' := [_, _, _, _, _, _, _, _]) rfl rfl rfl rfl ?_
    refine x_iconst (pc' := 30) rfl rfl ?_
    refine x_reti rfl rfl ?_
    exact q t1 T1 L1 W1 l1 hz1 (fun z => by cases z)
  | c + 4, h => exact absurd (show c + 4 ≤ 3 from h) (by omega)
theorem wr_271 {p0 : Int32} {p1 : Int32} {s : Bool} {p3 : Int32} {p4 : Int32} {p5 : Int32} (hr : r.1 ≤ 3) (hz : Zr t) (hC : ∀ Q', Kc t T A B w [0, 1, 2] r Q' → X 96 0 [.inr (.inr (11, (some 0))), .inl p0, .inl p1, .inl (bz s), .inl p3, .inl p4, .inl p5, sJk, sJk, sJk] [] t Q')
    (q : ∀ t1 T1 L1, Wc t1 r.2.2.1 r.2.2.2 T1 L1 (A + 2) (B + 12) → lw t1 t → Zr t1 → (r.1 = 0 → sL t1 23 0 0 = r.2.1.toInt64) → Q (.inl (some (.inl (io r.1)))) t1) :
    X 271 0 [.inr (.inr (11, (some 0))), .inl p0, .inl p1, .inl (bz s), .inl p3, .inl p4, .inl p5, .inr (.inr (23, (some 0))), sJk] [] t Q := by
  refine x_aload (pc' := 2) rfl rfl rfl rfl rfl ?_
  refine x_iconst (pc' := 3) rfl rfl ?_
  refine x_aload_n (pc' := 4) rfl rfl rfl rfl rfl ?_
  refine x_iload_n (pc' := 5) rfl rfl rfl ?_
  refine x_iload_n (pc' := 6) rfl rfl rfl ?_
  refine x_iload_n (pc' := 7) rfl rfl rfl ?_
  refine x_iload (pc' := 9) rfl rfl rfl ?_
  refine x_iload (pc' := 11) rfl rfl rfl ?_
  refine x_iload (pc' := 13) rfl rfl rfl ?_
  refine x_cv (ls0 := [_, _, _, _, _, _, _, sJk, sJk, sJk]) (rest := [_, _]) rfl rfl rfl rfl rfl ?_
  refine X_zr hz (hC _ (fun t1 T1 L1 W1 e1 _ hz1 => ?_))
  have hc1 : Cn t1 := W1.2.1.1
  have l1 := lw_ep e1
  obtain ⟨c, v, N, j⟩ := r
  match c, hr with
  | 0, _ =>
    refine sK_i (pc' := 16) rfl ?_
    refine x_i2l (pc' := 17) rfl rfl rfl ?_
    refine x_last (pc' := 18) (N := 1) (p := 0) rfl rfl (kN_23_0 hc1) (by decide) (by decide) ?_
    refine x_goto (pc' := 33) rfl rfl ?_
    refine x_iconst (pc' := 34) rfl rfl ?_
    refine x_reti rfl rfl ?_
    exact q _ T1 L1 (W_L W1) (lw_L l1) (Zr_L hz1) (fun _ => sL_s)
  | 1, _ =>
    refine sK_h (h := 21) (by decide +kernel) rfl ?_
    refine x_catch (pc' := 23) (ls' := [_, _, _, _, _, _, _, _, _]) rfl rfl rfl rfl ?_
    refine x_iconst (pc' := 24) rfl rfl ?_
    refine x_reti rfl rfl ?_
    exact q t1 T1 L1 W1 l1 hz1 (fun z => by cases z)
  | 2, _ =>
    refine sK_h (h := 25) (by decide +kernel) rfl ?_
    refine x_catch (pc' := 27) (ls' := [_, _, _, _, _, _, _, _, _]) rfl rfl rfl rfl ?_
    refine x_iconst (pc' := 28) rfl rfl ?_
    refine x_reti rfl rfl ?_
    exact q t1 T1 L1 W1 l1 hz1 (fun z => by cases z)
  | 3, _ =>
    refine sK_h (h := 29) (by decide +kernel) rfl ?_
    refine x_catch (pc' := 31) (ls' := [_, _, _, _, _, _, _, _, _]) rfl rfl rfl rfl ?_
    refine x_iconst (pc' := 32) rfl rfl ?_
    refine x_reti rfl rfl ?_
    exact q t1 T1 L1 W1 l1 hz1 (fun z => by cases z)
  | c + 4, h => exact absurd (show c + 4 ≤ 3 from h) (by omega)
theorem wr_272 {p0 : Int32} {p1 : Int32} {p2 : Int32} {p3 : Int32} {p4 : Int32} (hr : r.1 ≤ 3) (hz : Zr t) (hC : ∀ Q', Kc t T A B w [0, 1, 2] r Q' → X 97 0 [.inr (.inr (11, (some 0))), .inl p0, .inl p1, .inl p2, .inl p3, .inl p4, sJk, sJk, sJk, sJk] [] t Q')
    (q : ∀ t1 T1 L1, Wc t1 r.2.2.1 r.2.2.2 T1 L1 (A + 2) (B + 12) → lw t1 t → Zr t1 → (r.1 = 0 → sL t1 23 0 0 = r.2.1.toInt64) → Q (.inl (some (.inl (io r.1)))) t1) :
    X 272 0 [.inr (.inr (11, (some 0))), .inl p0, .inl p1, .inl p2, .inl p3, .inl p4, .inr (.inr (23, (some 0))), sJk] [] t Q := by
  refine x_aload (pc' := 2) rfl rfl rfl rfl rfl ?_
  refine x_iconst (pc' := 3) rfl rfl ?_
  refine x_aload_n (pc' := 4) rfl rfl rfl rfl rfl ?_
  refine x_iload_n (pc' := 5) rfl rfl rfl ?_
  refine x_iload_n (pc' := 6) rfl rfl rfl ?_
  refine x_iload_n (pc' := 7) rfl rfl rfl ?_
  refine x_iload (pc' := 9) rfl rfl rfl ?_
  refine x_iload (pc' := 11) rfl rfl rfl ?_
  refine x_cv (ls0 := [_, _, _, _, _, _, sJk, sJk, sJk, sJk]) (rest := [_, _]) rfl rfl rfl rfl rfl ?_
  refine X_zr hz (hC _ (fun t1 T1 L1 W1 e1 _ hz1 => ?_))
  have hc1 : Cn t1 := W1.2.1.1
  have l1 := lw_ep e1
  obtain ⟨c, v, N, j⟩ := r
  match c, hr with
  | 0, _ =>
    refine sK_i (pc' := 14) rfl ?_
    refine x_i2l (pc' := 15) rfl rfl rfl ?_
    refine x_last (pc' := 16) (N := 1) (p := 0) rfl rfl (kN_23_0 hc1) (by decide) (by decide) ?_
    refine x_goto (pc' := 31) rfl rfl ?_
    refine x_iconst (pc' := 32) rfl rfl ?_
    refine x_reti rfl rfl ?_
    exact q _ T1 L1 (W_L W1) (lw_L l1) (Zr_L hz1) (fun _ => sL_s)
  | 1, _ =>
    refine sK_h (h := 19) (by decide +kernel) rfl ?_
    refine x_catch (pc' := 21) (ls' := [_, _, _, _, _, _, _, _]) rfl rfl rfl rfl ?_
    refine x_iconst (pc' := 22) rfl rfl ?_
    refine x_reti rfl rfl ?_
    exact q t1 T1 L1 W1 l1 hz1 (fun z => by cases z)
  | 2, _ =>
    refine sK_h (h := 23) (by decide +kernel) rfl ?_
    refine x_catch (pc' := 25) (ls' := [_, _, _, _, _, _, _, _]) rfl rfl rfl rfl ?_
    refine x_iconst (pc' := 26) rfl rfl ?_
    refine x_reti rfl rfl ?_
    exact q t1 T1 L1 W1 l1 hz1 (fun z => by cases z)
  | 3, _ =>
    refine sK_h (h := 27) (by decide +kernel) rfl ?_
    refine x_catch (pc' := 29) (ls' := [_, _, _, _, _, _, _, _]) rfl rfl rfl rfl ?_
    refine x_iconst (pc' := 30) rfl rfl ?_
    refine x_reti rfl rfl ?_
    exact q t1 T1 L1 W1 l1 hz1 (fun z => by cases z)
  | c + 4, h => exact absurd (show c + 4 ≤ 3 from h) (by omega)
theorem wr_273 {p0 : Int32} (hr : r.1 ≤ 2) (hz : Zr t) (hC : ∀ Q', Kc t T A B w [0, 2] r Q' → X 98 0 [.inr (.inr (11, (some 0))), .inl p0, sJk] [] t Q')
    (q : ∀ t1 T1 L1, Wc t1 r.2.2.1 r.2.2.2 T1 L1 (A + 2) (B + 12) → lw t1 t → Zr t1 → (r.1 = 0 → sL t1 23 0 0 = r.2.1.toInt64) → Q (.inl (some (.inl (io r.1)))) t1) :
    X 273 0 [.inr (.inr (11, (some 0))), .inl p0, .inr (.inr (23, (some 0))), sJk] [] t Q := by
  refine x_aload_n (pc' := 1) rfl rfl rfl rfl rfl ?_
  refine x_iconst (pc' := 2) rfl rfl ?_
  refine x_aload_n (pc' := 3) rfl rfl rfl rfl rfl ?_
  refine x_iload_n (pc' := 4) rfl rfl rfl ?_
  refine x_cv (ls0 := [_, _, sJk]) (rest := [_, _]) rfl rfl rfl rfl rfl ?_
  refine X_zr hz (hC _ (fun t1 T1 L1 W1 e1 _ hz1 => ?_))
  have hc1 : Cn t1 := W1.2.1.1
  have l1 := lw_ep e1
  obtain ⟨c, v, N, j⟩ := r
  match c, hr with
  | 0, _ =>
    refine sK_i (pc' := 7) rfl ?_
    refine x_i2l (pc' := 8) rfl rfl rfl ?_
    refine x_last (pc' := 9) (N := 1) (p := 0) rfl rfl (kN_23_0 hc1) (by decide) (by decide) ?_
    refine x_goto (pc' := 18) rfl rfl ?_
    refine x_iconst (pc' := 19) rfl rfl ?_
    refine x_reti rfl rfl ?_
    exact q _ T1 L1 (W_L W1) (lw_L l1) (Zr_L hz1) (fun _ => sL_s)
  | 1, _ =>
    refine sK_h (h := 12) (by decide +kernel) rfl ?_
    refine x_catch_n (pc' := 13) (ls' := [_, _, _, _]) rfl rfl rfl rfl ?_
    refine x_iconst (pc' := 14) rfl rfl ?_
    refine x_reti rfl rfl ?_
    exact q t1 T1 L1 W1 l1 hz1 (fun z => by cases z)
  | 2, _ =>
    refine sK_h (h := 15) (by decide +kernel) rfl ?_
    refine x_catch_n (pc' := 16) (ls' := [_, _, _, _]) rfl rfl rfl rfl ?_
    refine x_iconst (pc' := 17) rfl rfl ?_
    refine x_reti rfl rfl ?_
    exact q t1 T1 L1 W1 l1 hz1 (fun z => by cases z)
  | c + 3, h => exact absurd (show c + 3 ≤ 2 from h) (by omega)
theorem wr_274 {p0 : Int32} (hr : r.1 ≤ 2) (hz : Zr t) (hC : ∀ Q', Kc t T A B w [0, 2] r Q' → X 99 0 [.inr (.inr (11, (some 0))), .inl p0, sJk] [] t Q')
    (q : ∀ t1 T1 L1, Wc t1 r.2.2.1 r.2.2.2 T1 L1 (A + 2) (B + 12) → lw t1 t → Zr t1 → (r.1 = 0 → sL t1 23 0 0 = r.2.1.toInt64) → Q (.inl (some (.inl (io r.1)))) t1) :
    X 274 0 [.inr (.inr (11, (some 0))), .inl p0, .inr (.inr (23, (some 0))), sJk] [] t Q := by
  refine x_aload_n (pc' := 1) rfl rfl rfl rfl rfl ?_
  refine x_iconst (pc' := 2) rfl rfl ?_
  refine x_aload_n (pc' := 3) rfl rfl rfl rfl rfl ?_
  refine x_iload_n (pc' := 4) rfl rfl rfl ?_
  refine x_cv (ls0 := [_, _, sJk]) (rest := [_, _]) rfl rfl rfl rfl rfl ?_
  refine X_zr hz (hC _ (fun t1 T1 L1 W1 e1 _ hz1 => ?_))
  have hc1 : Cn t1 := W1.2.1.1
  have l1 := lw_ep e1
  obtain ⟨c, v, N, j⟩ := r
  match c, hr with
  | 0, _ =>
    refine sK_i (pc' := 7) rfl ?_
    refine x_i2l (pc' := 8) rfl rfl rfl ?_
    refine x_last (pc' := 9) (N := 1) (p := 0) rfl rfl (kN_23_0 hc1) (by decide) (by decide) ?_
    refine x_goto (pc' := 18) rfl rfl ?_
    refine x_iconst (pc' := 19) rfl rfl ?_
    refine x_reti rfl rfl ?_
    exact q _ T1 L1 (W_L W1) (lw_L l1) (Zr_L hz1) (fun _ => sL_s)
  | 1, _ =>
    refine sK_h (h := 12) (by decide +kernel) rfl ?_
    refine x_catch_n (pc' := 13) (ls' := [_, _, _, _]) rfl rfl rfl rfl ?_
    refine x_iconst (pc' := 14) rfl rfl ?_
    refine x_reti rfl rfl ?_
    exact q t1 T1 L1 W1 l1 hz1 (fun z => by cases z)
  | 2, _ =>
    refine sK_h (h := 15) (by decide +kernel) rfl ?_
    refine x_catch_n (pc' := 16) (ls' := [_, _, _, _]) rfl rfl rfl rfl ?_
    refine x_iconst (pc' := 17) rfl rfl ?_
    refine x_reti rfl rfl ?_
    exact q t1 T1 L1 W1 l1 hz1 (fun z => by cases z)
  | c + 3, h => exact absurd (show c + 3 ≤ 2 from h) (by omega)
theorem wr_275 {p0 : Int32} {p1 : Int32} (hr : r.1 ≤ 3) (hz : Zr t) (hC : ∀ Q', Kc t T A B w [0, 1, 2] r Q' → X 100 0 [.inr (.inr (11, (some 0))), .inl p0, .inl p1, sJk] [] t Q')
    (q : ∀ t1 T1 L1, Wc t1 r.2.2.1 r.2.2.2 T1 L1 (A + 2) (B + 12) → lw t1 t → Zr t1 → (r.1 = 0 → sL t1 23 0 0 = r.2.1.toInt64) → Q (.inl (some (.inl (io r.1)))) t1) :
    X 275 0 [.inr (.inr (11, (some 0))), .inl p0, .inl p1, .inr (.inr (23, (some 0))), sJk] [] t Q := by
  refine x_aload_n (pc' := 1) rfl rfl rfl rfl rfl ?_
  refine x_iconst (pc' := 2) rfl rfl ?_
  refine x_aload_n (pc' := 3) rfl rfl rfl rfl rfl ?_
  refine x_iload_n (pc' := 4) rfl rfl rfl ?_
  refine x_iload_n (pc' := 5) rfl rfl rfl ?_
  refine x_cv (ls0 := [_, _, _, sJk]) (rest := [_, _]) rfl rfl rfl rfl rfl ?_
  refine X_zr hz (hC _ (fun t1 T1 L1 W1 e1 _ hz1 => ?_))
  have hc1 : Cn t1 := W1.2.1.1
  have l1 := lw_ep e1
  obtain ⟨c, v, N, j⟩ := r
  match c, hr with
  | 0, _ =>
    refine sK_i (pc' := 8) rfl ?_
    refine x_i2l (pc' := 9) rfl rfl rfl ?_
    refine x_last (pc' := 10) (N := 1) (p := 0) rfl rfl (kN_23_0 hc1) (by decide) (by decide) ?_
    refine x_goto (pc' := 25) rfl rfl ?_
    refine x_iconst (pc' := 26) rfl rfl ?_
    refine x_reti rfl rfl ?_
    exact q _ T1 L1 (W_L W1) (lw_L l1) (Zr_L hz1) (fun _ => sL_s)
  | 1, _ =>
    refine sK_h (h := 13) (by decide +kernel) rfl ?_
    refine x_catch (pc' := 15) (ls' := [_, _, _, _, _]) rfl rfl rfl rfl ?_
    refine x_iconst (pc' := 16) rfl rfl ?_
    refine x_reti rfl rfl ?_
    exact q t1 T1 L1 W1 l1 hz1 (fun z => by cases z)
  | 2, _ =>
    refine sK_h (h := 17) (by decide +kernel) rfl ?_
    refine x_catch (pc' := 19) (ls' := [_, _, _, _, _]) rfl rfl rfl rfl ?_
    refine x_iconst (pc' := 20) rfl rfl ?_
    refine x_reti rfl rfl ?_
    exact q t1 T1 L1 W1 l1 hz1 (fun z => by cases z)
  | 3, _ =>
    refine sK_h (h := 21) (by decide +kernel) rfl ?_
    refine x_catch (pc' := 23) (ls' := [_, _, _, _, _]) rfl rfl rfl rfl ?_
    refine x_iconst (pc' := 24) rfl rfl ?_
    refine x_reti rfl rfl ?_
    exact q t1 T1 L1 W1 l1 hz1 (fun z => by cases z)
  | c + 4, h => exact absurd (show c + 4 ≤ 3 from h) (by omega)
theorem wr_276 {p0 : Int32} (hr : r.1 ≤ 2) (hz : Zr t) (hC : ∀ Q', Kc t T A B w [0, 2] r Q' → X 101 0 [.inr (.inr (11, (some 0))), .inl p0, sJk, sJk] [] t Q')
    (q : ∀ t1 T1 L1, Wc t1 r.2.2.1 r.2.2.2 T1 L1 (A + 2) (B + 12) → lw t1 t → Zr t1 → (r.1 = 0 → sL t1 23 0 0 = r.2.1.toInt64) → Q (.inl (some (.inl (io r.1)))) t1) :
    X 276 0 [.inr (.inr (11, (some 0))), .inl p0, .inr (.inr (23, (some 0))), sJk] [] t Q := by
  refine x_aload_n (pc' := 1) rfl rfl rfl rfl rfl ?_
  refine x_iconst (pc' := 2) rfl rfl ?_
  refine x_aload_n (pc' := 3) rfl rfl rfl rfl rfl ?_
  refine x_iload_n (pc' := 4) rfl rfl rfl ?_
  refine x_cv (ls0 := [_, _, sJk, sJk]) (rest := [_, _]) rfl rfl rfl rfl rfl ?_
  refine X_zr hz (hC _ (fun t1 T1 L1 W1 e1 _ hz1 => ?_))
  have hc1 : Cn t1 := W1.2.1.1
  have l1 := lw_ep e1
  obtain ⟨c, v, N, j⟩ := r
  match c, hr with
  | 0, _ =>
    refine sK_i (pc' := 7) rfl ?_
    refine x_i2l (pc' := 8) rfl rfl rfl ?_
    refine x_last (pc' := 9) (N := 1) (p := 0) rfl rfl (kN_23_0 hc1) (by decide) (by decide) ?_
    refine x_goto (pc' := 18) rfl rfl ?_
    refine x_iconst (pc' := 19) rfl rfl ?_
    refine x_reti rfl rfl ?_
    exact q _ T1 L1 (W_L W1) (lw_L l1) (Zr_L hz1) (fun _ => sL_s)
  | 1, _ =>
    refine sK_h (h := 12) (by decide +kernel) rfl ?_
    refine x_catch_n (pc' := 13) (ls' := [_, _, _, _]) rfl rfl rfl rfl ?_
    refine x_iconst (pc' := 14) rfl rfl ?_
    refine x_reti rfl rfl ?_
    exact q t1 T1 L1 W1 l1 hz1 (fun z => by cases z)
  | 2, _ =>
    refine sK_h (h := 15) (by decide +kernel) rfl ?_
    refine x_catch_n (pc' := 16) (ls' := [_, _, _, _]) rfl rfl rfl rfl ?_
    refine x_iconst (pc' := 17) rfl rfl ?_
    refine x_reti rfl rfl ?_
    exact q t1 T1 L1 W1 l1 hz1 (fun z => by cases z)
  | c + 3, h => exact absurd (show c + 3 ≤ 2 from h) (by omega)
theorem wr_277 {p0 : Int32} (hr : r.1 ≤ 1) (hz : Zr t) (hC : ∀ Q', Kc t T A B w [0] r Q' → X 102 0 [.inr (.inr (11, (some 0))), .inl p0] [] t Q')
    (q : ∀ t1 T1 L1, Wc t1 r.2.2.1 r.2.2.2 T1 L1 (A + 2) (B + 12) → lw t1 t → Zr t1 → (r.1 = 0 → sL t1 23 0 0 = r.2.1.toInt64) → Q (.inl (some (.inl (io r.1)))) t1) :
    X 277 0 [.inr (.inr (11, (some 0))), .inl p0, .inr (.inr (23, (some 0))), sJk] [] t Q := by
  refine x_aload_n (pc' := 1) rfl rfl rfl rfl rfl ?_
  refine x_iconst (pc' := 2) rfl rfl ?_
  refine x_aload_n (pc' := 3) rfl rfl rfl rfl rfl ?_
  refine x_iload_n (pc' := 4) rfl rfl rfl ?_
  refine x_cv (ls0 := [_, _]) (rest := [_, _]) rfl rfl rfl rfl rfl ?_
  refine X_zr hz (hC _ (fun t1 T1 L1 W1 e1 _ hz1 => ?_))
  have hc1 : Cn t1 := W1.2.1.1
  have l1 := lw_ep e1
  obtain ⟨c, v, N, j⟩ := r
  match c, hr with
  | 0, _ =>
    refine sK_i (pc' := 7) rfl ?_
    refine x_i2l (pc' := 8) rfl rfl rfl ?_
    refine x_last (pc' := 9) (N := 1) (p := 0) rfl rfl (kN_23_0 hc1) (by decide) (by decide) ?_
    refine x_goto (pc' := 15) rfl rfl ?_
    refine x_iconst (pc' := 16) rfl rfl ?_
    refine x_reti rfl rfl ?_
    exact q _ T1 L1 (W_L W1) (lw_L l1) (Zr_L hz1) (fun _ => sL_s)
  | 1, _ =>
    refine sK_h (h := 12) (by decide +kernel) rfl ?_
    refine x_catch_n (pc' := 13) (ls' := [_, _, _, _]) rfl rfl rfl rfl ?_
    refine x_iconst (pc' := 14) rfl rfl ?_
    refine x_reti rfl rfl ?_
    exact q t1 T1 L1 W1 l1 hz1 (fun z => by cases z)
  | c + 2, h => exact absurd (show c + 2 ≤ 1 from h) (by omega)
theorem wr_278 {p0 : Int32} (hr : r.1 ≤ 1) (hz : Zr t) (hC : ∀ Q', Kc t T A B w [0] r Q' → X 104 0 [.inr (.inr (11, (some 0))), .inl p0] [] t Q')
    (q : ∀ t1 T1 L1, Wc t1 r.2.2.1 r.2.2.2 T1 L1 (A + 2) (B + 12) → lw t1 t → Zr t1 → (r.1 = 0 → sL t1 23 0 0 = r.2.1.toInt64) → Q (.inl (some (.inl (io r.1)))) t1) :
    X 278 0 [.inr (.inr (11, (some 0))), .inl p0, .inr (.inr (23, (some 0))), sJk] [] t Q := by
  refine x_aload_n (pc' := 1) rfl rfl rfl rfl rfl ?_
  refine x_iconst (pc' := 2) rfl rfl ?_
  refine x_aload_n (pc' := 3) rfl rfl rfl rfl rfl ?_
  refine x_iload_n (pc' := 4) rfl rfl rfl ?_
  refine x_cv (ls0 := [_, _]) (rest := [_, _]) rfl rfl rfl rfl rfl ?_
  refine X_zr hz (hC _ (fun t1 T1 L1 W1 e1 _ hz1 => ?_))
  have hc1 : Cn t1 := W1.2.1.1
  have l1 := lw_ep e1
  obtain ⟨c, v, N, j⟩ := r
  match c, hr with
  | 0, _ =>
    refine sK_i (pc' := 7) rfl ?_
    refine x_i2l (pc' := 8) rfl rfl rfl ?_
    refine x_last (pc' := 9) (N := 1) (p := 0) rfl rfl (kN_23_0 hc1) (by decide) (by decide) ?_
    refine x_goto (pc' := 15) rfl rfl ?_
    refine x_iconst (pc' := 16) rfl rfl ?_
    refine x_reti rfl rfl ?_
    exact q _ T1 L1 (W_L W1) (lw_L l1) (Zr_L hz1) (fun _ => sL_s)
  | 1, _ =>
    refine sK_h (h := 12) (by decide +kernel) rfl ?_
    refine x_catch_n (pc' := 13) (ls' := [_, _, _, _]) rfl rfl rfl rfl ?_
    refine x_iconst (pc' := 14) rfl rfl ?_
    refine x_reti rfl rfl ?_
    exact q t1 T1 L1 W1 l1 hz1 (fun z => by cases z)
  | c + 2, h => exact absurd (show c + 2 ≤ 1 from h) (by omega)
theorem wr_279 {p0 : Int32} (hr : r.1 ≤ 1) (hz : Zr t) (hC : ∀ Q', Kc t T A B w [0] r Q' → X 105 0 [.inr (.inr (11, (some 0))), .inl p0] [] t Q')
    (q : ∀ t1 T1 L1, Wc t1 r.2.2.1 r.2.2.2 T1 L1 (A + 2) (B + 12) → lw t1 t → Zr t1 → (r.1 = 0 → sL t1 23 0 0 = r.2.1.toInt64) → Q (.inl (some (.inl (io r.1)))) t1) :
    X 279 0 [.inr (.inr (11, (some 0))), .inl p0, .inr (.inr (23, (some 0))), sJk] [] t Q := by
  refine x_aload_n (pc' := 1) rfl rfl rfl rfl rfl ?_
  refine x_iconst (pc' := 2) rfl rfl ?_
  refine x_aload_n (pc' := 3) rfl rfl rfl rfl rfl ?_
  refine x_iload_n (pc' := 4) rfl rfl rfl ?_
  refine x_cv (ls0 := [_, _]) (rest := [_, _]) rfl rfl rfl rfl rfl ?_
  refine X_zr hz (hC _ (fun t1 T1 L1 W1 e1 _ hz1 => ?_))
  have hc1 : Cn t1 := W1.2.1.1
  have l1 := lw_ep e1
  obtain ⟨c, v, N, j⟩ := r
  match c, hr with
  | 0, _ =>
    refine sK_i (pc' := 7) rfl ?_
    refine x_i2l (pc' := 8) rfl rfl rfl ?_
    refine x_last (pc' := 9) (N := 1) (p := 0) rfl rfl (kN_23_0 hc1) (by decide) (by decide) ?_
    refine x_goto (pc' := 15) rfl rfl ?_
    refine x_iconst (pc' := 16) rfl rfl ?_
    refine x_reti rfl rfl ?_
    exact q _ T1 L1 (W_L W1) (lw_L l1) (Zr_L hz1) (fun _ => sL_s)
  | 1, _ =>
    refine sK_h (h := 12) (by decide +kernel) rfl ?_
    refine x_catch_n (pc' := 13) (ls' := [_, _, _, _]) rfl rfl rfl rfl ?_
    refine x_iconst (pc' := 14) rfl rfl ?_
    refine x_reti rfl rfl ?_
    exact q t1 T1 L1 W1 l1 hz1 (fun z => by cases z)
  | c + 2, h => exact absurd (show c + 2 ≤ 1 from h) (by omega)
theorem wr_280 {p0 : Int32} (hr : r.1 ≤ 1) (hz : Zr t) (hC : ∀ Q', Kc t T A B w [0] r Q' → X 106 0 [.inr (.inr (11, (some 0))), .inl p0, sJk] [] t Q')
    (q : ∀ t1 T1 L1, Wc t1 r.2.2.1 r.2.2.2 T1 L1 (A + 2) (B + 12) → lw t1 t → Zr t1 → (r.1 = 0 → sL t1 23 0 0 = r.2.1.toInt64) → Q (.inl (some (.inl (io r.1)))) t1) :
    X 280 0 [.inr (.inr (11, (some 0))), .inl p0, .inr (.inr (23, (some 0))), sJk] [] t Q := by
  refine x_aload_n (pc' := 1) rfl rfl rfl rfl rfl ?_
  refine x_iconst (pc' := 2) rfl rfl ?_
  refine x_aload_n (pc' := 3) rfl rfl rfl rfl rfl ?_
  refine x_iload_n (pc' := 4) rfl rfl rfl ?_
  refine x_cv (ls0 := [_, _, sJk]) (rest := [_, _]) rfl rfl rfl rfl rfl ?_
  refine X_zr hz (hC _ (fun t1 T1 L1 W1 e1 _ hz1 => ?_))
  have hc1 : Cn t1 := W1.2.1.1
  have l1 := lw_ep e1
  obtain ⟨c, v, N, j⟩ := r
  match c, hr with
  | 0, _ =>
    refine sK_i (pc' := 7) rfl ?_
    refine x_i2l (pc' := 8) rfl rfl rfl ?_
    refine x_last (pc' := 9) (N := 1) (p := 0) rfl rfl (kN_23_0 hc1) (by decide) (by decide) ?_
    refine x_goto (pc' := 15) rfl rfl ?_
    refine x_iconst (pc' := 16) rfl rfl ?_
    refine x_reti rfl rfl ?_
    exact q _ T1 L1 (W_L W1) (lw_L l1) (Zr_L hz1) (fun _ => sL_s)
  | 1, _ =>
    refine sK_h (h := 12) (by decide +kernel) rfl ?_
    refine x_catch_n (pc' := 13) (ls' := [_, _, _, _]) rfl rfl rfl rfl ?_
    refine x_iconst (pc' := 14) rfl rfl ?_
    refine x_reti rfl rfl ?_
    exact q t1 T1 L1 W1 l1 hz1 (fun z => by cases z)
  | c + 2, h => exact absurd (show c + 2 ≤ 1 from h) (by omega)
theorem wr_281 {p0 : Int32} {s : Bool} (hr : r.1 ≤ 1) (hz : Zr t) (hC : ∀ Q', Kc t T A B w [0] r Q' → X 107 0 [.inr (.inr (11, (some 0))), .inl p0, .inl (bz s)] [] t Q')
    (q : ∀ t1 T1 L1, Wc t1 r.2.2.1 r.2.2.2 T1 L1 (A + 2) (B + 12) → lw t1 t → Zr t1 → (r.1 = 0 → sL t1 23 0 0 = r.2.1.toInt64) → Q (.inl (some (.inl (io r.1)))) t1) :
    X 281 0 [.inr (.inr (11, (some 0))), .inl p0, .inl (bz s), .inr (.inr (23, (some 0))), sJk] [] t Q := by
  refine x_aload_n (pc' := 1) rfl rfl rfl rfl rfl ?_
  refine x_iconst (pc' := 2) rfl rfl ?_
  refine x_aload_n (pc' := 3) rfl rfl rfl rfl rfl ?_
  refine x_iload_n (pc' := 4) rfl rfl rfl ?_
  refine x_iload_n (pc' := 5) rfl rfl rfl ?_
  refine x_cv (ls0 := [_, _, _]) (rest := [_, _]) rfl rfl rfl rfl rfl ?_
  refine X_zr hz (hC _ (fun t1 T1 L1 W1 e1 _ hz1 => ?_))
  have hc1 : Cn t1 := W1.2.1.1
  have l1 := lw_ep e1
  obtain ⟨c, v, N, j⟩ := r
  match c, hr with
  | 0, _ =>
    refine sK_i (pc' := 8) rfl ?_
    refine x_i2l (pc' := 9) rfl rfl rfl ?_
    refine x_last (pc' := 10) (N := 1) (p := 0) rfl rfl (kN_23_0 hc1) (by decide) (by decide) ?_
    refine x_goto (pc' := 17) rfl rfl ?_
    refine x_iconst (pc' := 18) rfl rfl ?_
    refine x_reti rfl rfl ?_
    exact q _ T1 L1 (W_L W1) (lw_L l1) (Zr_L hz1) (fun _ => sL_s)
  | 1, _ =>
    refine sK_h (h := 13) (by decide +kernel) rfl ?_
    refine x_catch (pc' := 15) (ls' := [_, _, _, _, _]) rfl rfl rfl rfl ?_
    refine x_iconst (pc' := 16) rfl rfl ?_
    refine x_reti rfl rfl ?_
    exact q t1 T1 L1 W1 l1 hz1 (fun z => by cases z)
  | c + 2, h => exact absurd (show c + 2 ≤ 1 from h) (by omega)
theorem wr_282 {p0 : Int32} {s : Bool} (hr : r.1 ≤ 1) (hz : Zr t) (hC : ∀ Q', Kc t T A B w [0] r Q' → X 108 0 [.inr (.inr (11, (some 0))), .inl p0, .inl (bz s)] [] t Q')
    (q : ∀ t1 T1 L1, Wc t1 r.2.2.1 r.2.2.2 T1 L1 (A + 2) (B + 12) → lw t1 t → Zr t1 → (r.1 = 0 → sL t1 23 0 0 = r.2.1.toInt64) → Q (.inl (some (.inl (io r.1)))) t1) :
    X 282 0 [.inr (.inr (11, (some 0))), .inl p0, .inl (bz s), .inr (.inr (23, (some 0))), sJk] [] t Q := by
  refine x_aload_n (pc' := 1) rfl rfl rfl rfl rfl ?_
  refine x_iconst (pc' := 2) rfl rfl ?_
  refine x_aload_n (pc' := 3) rfl rfl rfl rfl rfl ?_
  refine x_iload_n (pc' := 4) rfl rfl rfl ?_
  refine x_iload_n (pc' := 5) rfl rfl rfl ?_
  refine x_cv (ls0 := [_, _, _]) (rest := [_, _]) rfl rfl rfl rfl rfl ?_
  refine X_zr hz (hC _ (fun t1 T1 L1 W1 e1 _ hz1 => ?_))
  have hc1 : Cn t1 := W1.2.1.1
  have l1 := lw_ep e1
  obtain ⟨c, v, N, j⟩ := r
  match c, hr with
  | 0, _ =>
    refine sK_i (pc' := 8) rfl ?_
    refine x_i2l (pc' := 9) rfl rfl rfl ?_
    refine x_last (pc' := 10) (N := 1) (p := 0) rfl rfl (kN_23_0 hc1) (by decide) (by decide) ?_
    refine x_goto (pc' := 17) rfl rfl ?_
    refine x_iconst (pc' := 18) rfl rfl ?_
    refine x_reti rfl rfl ?_
    exact q _ T1 L1 (W_L W1) (lw_L l1) (Zr_L hz1) (fun _ => sL_s)
  | 1, _ =>
    refine sK_h (h := 13) (by decide +kernel) rfl ?_
    refine x_catch (pc' := 15) (ls' := [_, _, _, _, _]) rfl rfl rfl rfl ?_
    refine x_iconst (pc' := 16) rfl rfl ?_
    refine x_reti rfl rfl ?_
    exact q t1 T1 L1 W1 l1 hz1 (fun z => by cases z)
  | c + 2, h => exact absurd (show c + 2 ≤ 1 from h) (by omega)
theorem wr_283 {p0 : Int32} {s : Bool} (hr : r.1 ≤ 1) (hz : Zr t) (hC : ∀ Q', Kc t T A B w [0] r Q' → X 109 0 [.inr (.inr (11, (some 0))), .inl p0, .inl (bz s)] [] t Q')
    (q : ∀ t1 T1 L1, Wc t1 r.2.2.1 r.2.2.2 T1 L1 (A + 2) (B + 12) → lw t1 t → Zr t1 → (r.1 = 0 → sL t1 23 0 0 = r.2.1.toInt64) → Q (.inl (some (.inl (io r.1)))) t1) :
    X 283 0 [.inr (.inr (11, (some 0))), .inl p0, .inl (bz s), .inr (.inr (23, (some 0))), sJk] [] t Q := by
  refine x_aload_n (pc' := 1) rfl rfl rfl rfl rfl ?_
  refine x_iconst (pc' := 2) rfl rfl ?_
  refine x_aload_n (pc' := 3) rfl rfl rfl rfl rfl ?_
  refine x_iload_n (pc' := 4) rfl rfl rfl ?_
  refine x_iload_n (pc' := 5) rfl rfl rfl ?_
  refine x_cv (ls0 := [_, _, _]) (rest := [_, _]) rfl rfl rfl rfl rfl ?_
  refine X_zr hz (hC _ (fun t1 T1 L1 W1 e1 _ hz1 => ?_))
  have hc1 : Cn t1 := W1.2.1.1
  have l1 := lw_ep e1
  obtain ⟨c, v, N, j⟩ := r
  match c, hr with
  | 0, _ =>
    refine sK_i (pc' := 8) rfl ?_
    refine x_i2l (pc' := 9) rfl rfl rfl ?_
    refine x_last (pc' := 10) (N := 1) (p := 0) rfl rfl (kN_23_0 hc1) (by decide) (by decide) ?_
    refine x_goto (pc' := 17) rfl rfl ?_
    refine x_iconst (pc' := 18) rfl rfl ?_
    refine x_reti rfl rfl ?_
    exact q _ T1 L1 (W_L W1) (lw_L l1) (Zr_L hz1) (fun _ => sL_s)
  | 1, _ =>
    refine sK_h (h := 13) (by decide +kernel) rfl ?_
    refine x_catch (pc' := 15) (ls' := [_, _, _, _, _]) rfl rfl rfl rfl ?_
    refine x_iconst (pc' := 16) rfl rfl ?_
    refine x_reti rfl rfl ?_
    exact q t1 T1 L1 W1 l1 hz1 (fun z => by cases z)
  | c + 2, h => exact absurd (show c + 2 ≤ 1 from h) (by omega)
theorem wr_284 {p0 : Int32} {s : Bool} (hr : r.1 ≤ 1) (hz : Zr t) (hC : ∀ Q', Kc t T A B w [0] r Q' → X 110 0 [.inr (.inr (11, (some 0))), .inl p0, .inl (bz s), sJk] [] t Q')
    (q : ∀ t1 T1 L1, Wc t1 r.2.2.1 r.2.2.2 T1 L1 (A + 2) (B + 12) → lw t1 t → Zr t1 → (r.1 = 0 → sL t1 23 0 0 = r.2.1.toInt64) → Q (.inl (some (.inl (io r.1)))) t1) :
    X 284 0 [.inr (.inr (11, (some 0))), .inl p0, .inl (bz s), .inr (.inr (23, (some 0))), sJk] [] t Q := by
  refine x_aload_n (pc' := 1) rfl rfl rfl rfl rfl ?_
  refine x_iconst (pc' := 2) rfl rfl ?_
  refine x_aload_n (pc' := 3) rfl rfl rfl rfl rfl ?_
  refine x_iload_n (pc' := 4) rfl rfl rfl ?_
  refine x_iload_n (pc' := 5) rfl rfl rfl ?_
  refine x_cv (ls0 := [_, _, _, sJk]) (rest := [_, _]) rfl rfl rfl rfl rfl ?_
  refine X_zr hz (hC _ (fun t1 T1 L1 W1 e1 _ hz1 => ?_))
  have hc1 : Cn t1 := W1.2.1.1
  have l1 := lw_ep e1
  obtain ⟨c, v, N, j⟩ := r
  match c, hr with
  | 0, _ =>
    refine sK_i (pc' := 8) rfl ?_
    refine x_i2l (pc' := 9) rfl rfl rfl ?_
    refine x_last (pc' := 10) (N := 1) (p := 0) rfl rfl (kN_23_0 hc1) (by decide) (by decide) ?_
    refine x_goto (pc' := 17) rfl rfl ?_
    refine x_iconst (pc' := 18) rfl rfl ?_
    refine x_reti rfl rfl ?_
    exact q _ T1 L1 (W_L W1) (lw_L l1) (Zr_L hz1) (fun _ => sL_s)
  | 1, _ =>
    refine sK_h (h := 13) (by decide +kernel) rfl ?_
    refine x_catch (pc' := 15) (ls' := [_, _, _, _, _]) rfl rfl rfl rfl ?_
    refine x_iconst (pc' := 16) rfl rfl ?_
    refine x_reti rfl rfl ?_
    exact q t1 T1 L1 W1 l1 hz1 (fun z => by cases z)
  | c + 2, h => exact absurd (show c + 2 ≤ 1 from h) (by omega)
theorem wr_285 {p0 : Int32} (hr : r.1 ≤ 1) (hz : Zr t) (hC : ∀ Q', Kc t T A B w [0] r Q' → X 111 0 [.inr (.inr (11, (some 0))), .inl p0] [] t Q')
    (q : ∀ t1 T1 L1, Wc t1 r.2.2.1 r.2.2.2 T1 L1 (A + 2) (B + 12) → lw t1 t → Zr t1 → (r.1 = 0 → sL t1 23 0 0 = r.2.1.toInt64) → Q (.inl (some (.inl (io r.1)))) t1) :
    X 285 0 [.inr (.inr (11, (some 0))), .inl p0, .inr (.inr (23, (some 0))), sJk] [] t Q := by
  refine x_aload_n (pc' := 1) rfl rfl rfl rfl rfl ?_
  refine x_iconst (pc' := 2) rfl rfl ?_
  refine x_aload_n (pc' := 3) rfl rfl rfl rfl rfl ?_
  refine x_iload_n (pc' := 4) rfl rfl rfl ?_
  refine x_cv (ls0 := [_, _]) (rest := [_, _]) rfl rfl rfl rfl rfl ?_
  refine X_zr hz (hC _ (fun t1 T1 L1 W1 e1 _ hz1 => ?_))
  have hc1 : Cn t1 := W1.2.1.1
  have l1 := lw_ep e1
  obtain ⟨c, v, N, j⟩ := r
  match c, hr with
  | 0, _ =>
    refine sK_i (pc' := 7) rfl ?_
    refine x_i2l (pc' := 8) rfl rfl rfl ?_
    refine x_last (pc' := 9) (N := 1) (p := 0) rfl rfl (kN_23_0 hc1) (by decide) (by decide) ?_
    refine x_goto (pc' := 15) rfl rfl ?_
    refine x_iconst (pc' := 16) rfl rfl ?_
    refine x_reti rfl rfl ?_
    exact q _ T1 L1 (W_L W1) (lw_L l1) (Zr_L hz1) (fun _ => sL_s)
  | 1, _ =>
    refine sK_h (h := 12) (by decide +kernel) rfl ?_
    refine x_catch_n (pc' := 13) (ls' := [_, _, _, _]) rfl rfl rfl rfl ?_
    refine x_iconst (pc' := 14) rfl rfl ?_
    refine x_reti rfl rfl ?_
    exact q t1 T1 L1 W1 l1 hz1 (fun z => by cases z)
  | c + 2, h => exact absurd (show c + 2 ≤ 1 from h) (by omega)
theorem wr_286 {p0 : Int32} (hr : r.1 ≤ 1) (hz : Zr t) (hC : ∀ Q', Kc t T A B w [0] r Q' → X 112 0 [.inr (.inr (11, (some 0))), .inl p0] [] t Q')
    (q : ∀ t1 T1 L1, Wc t1 r.2.2.1 r.2.2.2 T1 L1 (A + 2) (B + 12) → lw t1 t → Zr t1 → (r.1 = 0 → sL t1 23 0 0 = r.2.1.toInt64) → Q (.inl (some (.inl (io r.1)))) t1) :
    X 286 0 [.inr (.inr (11, (some 0))), .inl p0, .inr (.inr (23, (some 0))), sJk] [] t Q := by
  refine x_aload_n (pc' := 1) rfl rfl rfl rfl rfl ?_
  refine x_iconst (pc' := 2) rfl rfl ?_
  refine x_aload_n (pc' := 3) rfl rfl rfl rfl rfl ?_
  refine x_iload_n (pc' := 4) rfl rfl rfl ?_
  refine x_cv (ls0 := [_, _]) (rest := [_, _]) rfl rfl rfl rfl rfl ?_
  refine X_zr hz (hC _ (fun t1 T1 L1 W1 e1 _ hz1 => ?_))
  have hc1 : Cn t1 := W1.2.1.1
  have l1 := lw_ep e1
  obtain ⟨c, v, N, j⟩ := r
  match c, hr with
  | 0, _ =>
    refine sK_i (pc' := 7) rfl ?_
    refine x_i2l (pc' := 8) rfl rfl rfl ?_
    refine x_last (pc' := 9) (N := 1) (p := 0) rfl rfl (kN_23_0 hc1) (by decide) (by decide) ?_
    refine x_goto (pc' := 15) rfl rfl ?_
    refine x_iconst (pc' := 16) rfl rfl ?_
    refine x_reti rfl rfl ?_
    exact q _ T1 L1 (W_L W1) (lw_L l1) (Zr_L hz1) (fun _ => sL_s)
  | 1, _ =>
    refine sK_h (h := 12) (by decide +kernel) rfl ?_
    refine x_catch_n (pc' := 13) (ls' := [_, _, _, _]) rfl rfl rfl rfl ?_
    refine x_iconst (pc' := 14) rfl rfl ?_
    refine x_reti rfl rfl ?_
    exact q t1 T1 L1 W1 l1 hz1 (fun z => by cases z)
  | c + 2, h => exact absurd (show c + 2 ≤ 1 from h) (by omega)
theorem wr_287 {p0 : Int32} (hr : r.1 ≤ 1) (hz : Zr t) (hC : ∀ Q', Kc t T A B w [0] r Q' → X 113 0 [.inr (.inr (11, (some 0))), .inl p0] [] t Q')
    (q : ∀ t1 T1 L1, Wc t1 r.2.2.1 r.2.2.2 T1 L1 (A + 2) (B + 12) → lw t1 t → Zr t1 → (r.1 = 0 → sL t1 23 0 0 = r.2.1.toInt64) → Q (.inl (some (.inl (io r.1)))) t1) :
    X 287 0 [.inr (.inr (11, (some 0))), .inl p0, .inr (.inr (23, (some 0))), sJk] [] t Q := by
  refine x_aload_n (pc' := 1) rfl rfl rfl rfl rfl ?_
  refine x_iconst (pc' := 2) rfl rfl ?_
  refine x_aload_n (pc' := 3) rfl rfl rfl rfl rfl ?_
  refine x_iload_n (pc' := 4) rfl rfl rfl ?_
  refine x_cv (ls0 := [_, _]) (rest := [_, _]) rfl rfl rfl rfl rfl ?_
  refine X_zr hz (hC _ (fun t1 T1 L1 W1 e1 _ hz1 => ?_))
  have hc1 : Cn t1 := W1.2.1.1
  have l1 := lw_ep e1
  obtain ⟨c, v, N, j⟩ := r
  match c, hr with
  | 0, _ =>
    refine sK_i (pc' := 7) rfl ?_
    refine x_i2l (pc' := 8) rfl rfl rfl ?_
    refine x_last (pc' := 9) (N := 1) (p := 0) rfl rfl (kN_23_0 hc1) (by decide) (by decide) ?_
    refine x_goto (pc' := 15) rfl rfl ?_
    refine x_iconst (pc' := 16) rfl rfl ?_
    refine x_reti rfl rfl ?_
    exact q _ T1 L1 (W_L W1) (lw_L l1) (Zr_L hz1) (fun _ => sL_s)
  | 1, _ =>
    refine sK_h (h := 12) (by decide +kernel) rfl ?_
    refine x_catch_n (pc' := 13) (ls' := [_, _, _, _]) rfl rfl rfl rfl ?_
    refine x_iconst (pc' := 14) rfl rfl ?_
    refine x_reti rfl rfl ?_
    exact q t1 T1 L1 W1 l1 hz1 (fun z => by cases z)
  | c + 2, h => exact absurd (show c + 2 ≤ 1 from h) (by omega)
theorem wr_288 {p0 : Int32} {p1 : Int32} (hr : r.1 ≤ 2) (hz : Zr t) (hC : ∀ Q', Kc t T A B w [0, 1] r Q' → X 115 0 [.inr (.inr (11, (some 0))), .inl p0, .inl p1, sJk] [] t Q')
    (q : ∀ t1 T1 L1, Wc t1 r.2.2.1 r.2.2.2 T1 L1 (A + 2) (B + 12) → lw t1 t → Zr t1 → (r.1 = 0 → sL t1 23 0 0 = r.2.1.toInt64) → Q (.inl (some (.inl (io r.1)))) t1) :
    X 288 0 [.inr (.inr (11, (some 0))), .inl p0, .inl p1, .inr (.inr (23, (some 0))), sJk] [] t Q := by
  refine x_aload_n (pc' := 1) rfl rfl rfl rfl rfl ?_
  refine x_iconst (pc' := 2) rfl rfl ?_
  refine x_aload_n (pc' := 3) rfl rfl rfl rfl rfl ?_
  refine x_iload_n (pc' := 4) rfl rfl rfl ?_
  refine x_iload_n (pc' := 5) rfl rfl rfl ?_
  refine x_cv (ls0 := [_, _, _, sJk]) (rest := [_, _]) rfl rfl rfl rfl rfl ?_
  refine X_zr hz (hC _ (fun t1 T1 L1 W1 e1 _ hz1 => ?_))
  have hc1 : Cn t1 := W1.2.1.1
  have l1 := lw_ep e1
  obtain ⟨c, v, N, j⟩ := r
  match c, hr with
  | 0, _ =>
    refine sK_i (pc' := 8) rfl ?_
    refine x_i2l (pc' := 9) rfl rfl rfl ?_
    refine x_last (pc' := 10) (N := 1) (p := 0) rfl rfl (kN_23_0 hc1) (by decide) (by decide) ?_
    refine x_goto (pc' := 21) rfl rfl ?_
    refine x_iconst (pc' := 22) rfl rfl ?_
    refine x_reti rfl rfl ?_
    exact q _ T1 L1 (W_L W1) (lw_L l1) (Zr_L hz1) (fun _ => sL_s)
  | 1, _ =>
    refine sK_h (h := 13) (by decide +kernel) rfl ?_
    refine x_catch (pc' := 15) (ls' := [_, _, _, _, _]) rfl rfl rfl rfl ?_
    refine x_iconst (pc' := 16) rfl rfl ?_
    refine x_reti rfl rfl ?_
    exact q t1 T1 L1 W1 l1 hz1 (fun z => by cases z)
  | 2, _ =>
    refine sK_h (h := 17) (by decide +kernel) rfl ?_
    refine x_catch (pc' := 19) (ls' := [_, _, _, _, _]) rfl rfl rfl rfl ?_
    refine x_iconst (pc' := 20) rfl rfl ?_
    refine x_reti rfl rfl ?_
    exact q t1 T1 L1 W1 l1 hz1 (fun z => by cases z)
  | c + 3, h => exact absurd (show c + 3 ≤ 2 from h) (by omega)
theorem wr_289 {p0 : Int32} {p1 : Int32} (hr : r.1 ≤ 1) (hz : Zr t) (hC : ∀ Q', Kc t T A B w [0] r Q' → X 116 0 [.inr (.inr (11, (some 0))), .inl p0, .inl p1, sJk] [] t Q')
    (q : ∀ t1 T1 L1, Wc t1 r.2.2.1 r.2.2.2 T1 L1 (A + 2) (B + 12) → lw t1 t → Zr t1 → (r.1 = 0 → sL t1 23 0 0 = r.2.1.toInt64) → Q (.inl (some (.inl (io r.1)))) t1) :
    X 289 0 [.inr (.inr (11, (some 0))), .inl p0, .inl p1, .inr (.inr (23, (some 0))), sJk] [] t Q := by
  refine x_aload_n (pc' := 1) rfl rfl rfl rfl rfl ?_
  refine x_iconst (pc' := 2) rfl rfl ?_
  refine x_aload_n (pc' := 3) rfl rfl rfl rfl rfl ?_
  refine x_iload_n (pc' := 4) rfl rfl rfl ?_
  refine x_iload_n (pc' := 5) rfl rfl rfl ?_
  refine x_cv (ls0 := [_, _, _, sJk]) (rest := [_, _]) rfl rfl rfl rfl rfl ?_
  refine X_zr hz (hC _ (fun t1 T1 L1 W1 e1 _ hz1 => ?_))
  have hc1 : Cn t1 := W1.2.1.1
  have l1 := lw_ep e1
  obtain ⟨c, v, N, j⟩ := r
  match c, hr with
  | 0, _ =>
    refine sK_i (pc' := 8) rfl ?_
    refine x_i2l (pc' := 9) rfl rfl rfl ?_
    refine x_last (pc' := 10) (N := 1) (p := 0) rfl rfl (kN_23_0 hc1) (by decide) (by decide) ?_
    refine x_goto (pc' := 17) rfl rfl ?_
    refine x_iconst (pc' := 18) rfl rfl ?_
    refine x_reti rfl rfl ?_
    exact q _ T1 L1 (W_L W1) (lw_L l1) (Zr_L hz1) (fun _ => sL_s)
  | 1, _ =>
    refine sK_h (h := 13) (by decide +kernel) rfl ?_
    refine x_catch (pc' := 15) (ls' := [_, _, _, _, _]) rfl rfl rfl rfl ?_
    refine x_iconst (pc' := 16) rfl rfl ?_
    refine x_reti rfl rfl ?_
    exact q t1 T1 L1 W1 l1 hz1 (fun z => by cases z)
  | c + 2, h => exact absurd (show c + 2 ≤ 1 from h) (by omega)
theorem wr_290 {p0 : Int32} {p1 : Int32} (hr : r.1 ≤ 1) (hz : Zr t) (hC : ∀ Q', Kc t T A B w [0] r Q' → X 117 0 [.inr (.inr (11, (some 0))), .inl p0, .inl p1, sJk] [] t Q')
    (q : ∀ t1 T1 L1, Wc t1 r.2.2.1 r.2.2.2 T1 L1 (A + 2) (B + 12) → lw t1 t → Zr t1 → (r.1 = 0 → sL t1 23 0 0 = r.2.1.toInt64) → Q (.inl (some (.inl (io r.1)))) t1) :
    X 290 0 [.inr (.inr (11, (some 0))), .inl p0, .inl p1, .inr (.inr (23, (some 0))), sJk] [] t Q := by
  refine x_aload_n (pc' := 1) rfl rfl rfl rfl rfl ?_
  refine x_iconst (pc' := 2) rfl rfl ?_
  refine x_aload_n (pc' := 3) rfl rfl rfl rfl rfl ?_
  refine x_iload_n (pc' := 4) rfl rfl rfl ?_
  refine x_iload_n (pc' := 5) rfl rfl rfl ?_
  refine x_cv (ls0 := [_, _, _, sJk]) (rest := [_, _]) rfl rfl rfl rfl rfl ?_
  refine X_zr hz (hC _ (fun t1 T1 L1 W1 e1 _ hz1 => ?_))
  have hc1 : Cn t1 := W1.2.1.1
  have l1 := lw_ep e1
  obtain ⟨c, v, N, j⟩ := r
  match c, hr with
  | 0, _ =>
    refine sK_i (pc' := 8) rfl ?_
    refine x_i2l (pc' := 9) rfl rfl rfl ?_
    refine x_last (pc' := 10) (N := 1) (p := 0) rfl rfl (kN_23_0 hc1) (by decide) (by decide) ?_
    refine x_goto (pc' := 17) rfl rfl ?_
    refine x_iconst (pc' := 18) rfl rfl ?_
    refine x_reti rfl rfl ?_
    exact q _ T1 L1 (W_L W1) (lw_L l1) (Zr_L hz1) (fun _ => sL_s)
  | 1, _ =>
    refine sK_h (h := 13) (by decide +kernel) rfl ?_
    refine x_catch (pc' := 15) (ls' := [_, _, _, _, _]) rfl rfl rfl rfl ?_
    refine x_iconst (pc' := 16) rfl rfl ?_
    refine x_reti rfl rfl ?_
    exact q t1 T1 L1 W1 l1 hz1 (fun z => by cases z)
  | c + 2, h => exact absurd (show c + 2 ≤ 1 from h) (by omega)
theorem wr_291 {p0 : Int32} (hr : r.1 ≤ 1) (hz : Zr t) (hC : ∀ Q', Kc t T A B w [0] r Q' → X 118 0 [.inr (.inr (11, (some 0))), .inl p0] [] t Q')
    (q : ∀ t1 T1 L1, Wc t1 r.2.2.1 r.2.2.2 T1 L1 (A + 2) (B + 12) → lw t1 t → Zr t1 → (r.1 = 0 → sL t1 23 0 0 = r.2.1.toInt64) → Q (.inl (some (.inl (io r.1)))) t1) :
    X 291 0 [.inr (.inr (11, (some 0))), .inl p0, .inr (.inr (23, (some 0))), sJk] [] t Q := by
  refine x_aload_n (pc' := 1) rfl rfl rfl rfl rfl ?_
  refine x_iconst (pc' := 2) rfl rfl ?_
  refine x_aload_n (pc' := 3) rfl rfl rfl rfl rfl ?_
  refine x_iload_n (pc' := 4) rfl rfl rfl ?_
  refine x_cv (ls0 := [_, _]) (rest := [_, _]) rfl rfl rfl rfl rfl ?_
  refine X_zr hz (hC _ (fun t1 T1 L1 W1 e1 _ hz1 => ?_))
  have hc1 : Cn t1 := W1.2.1.1
  have l1 := lw_ep e1
  obtain ⟨c, v, N, j⟩ := r
  match c, hr with
  | 0, _ =>
    refine sK_i (pc' := 7) rfl ?_
    refine x_i2l (pc' := 8) rfl rfl rfl ?_
    refine x_last (pc' := 9) (N := 1) (p := 0) rfl rfl (kN_23_0 hc1) (by decide) (by decide) ?_
    refine x_goto (pc' := 15) rfl rfl ?_
    refine x_iconst (pc' := 16) rfl rfl ?_
    refine x_reti rfl rfl ?_
    exact q _ T1 L1 (W_L W1) (lw_L l1) (Zr_L hz1) (fun _ => sL_s)
  | 1, _ =>
    refine sK_h (h := 12) (by decide +kernel) rfl ?_
    refine x_catch_n (pc' := 13) (ls' := [_, _, _, _]) rfl rfl rfl rfl ?_
    refine x_iconst (pc' := 14) rfl rfl ?_
    refine x_reti rfl rfl ?_
    exact q t1 T1 L1 W1 l1 hz1 (fun z => by cases z)
  | c + 2, h => exact absurd (show c + 2 ≤ 1 from h) (by omega)
theorem wr_292 {p0 : Int32} (hr : r.1 ≤ 1) (hz : Zr t) (hC : ∀ Q', Kc t T A B w [0] r Q' → X 119 0 [.inr (.inr (11, (some 0))), .inl p0] [] t Q')
    (q : ∀ t1 T1 L1, Wc t1 r.2.2.1 r.2.2.2 T1 L1 (A + 2) (B + 12) → lw t1 t → Zr t1 → (r.1 = 0 → sL t1 23 0 0 = r.2.1.toInt64) → Q (.inl (some (.inl (io r.1)))) t1) :
    X 292 0 [.inr (.inr (11, (some 0))), .inl p0, .inr (.inr (23, (some 0))), sJk] [] t Q := by
  refine x_aload_n (pc' := 1) rfl rfl rfl rfl rfl ?_
  refine x_iconst (pc' := 2) rfl rfl ?_
  refine x_aload_n (pc' := 3) rfl rfl rfl rfl rfl ?_
  refine x_iload_n (pc' := 4) rfl rfl rfl ?_
  refine x_cv (ls0 := [_, _]) (rest := [_, _]) rfl rfl rfl rfl rfl ?_
  refine X_zr hz (hC _ (fun t1 T1 L1 W1 e1 _ hz1 => ?_))
  have hc1 : Cn t1 := W1.2.1.1
  have l1 := lw_ep e1
  obtain ⟨c, v, N, j⟩ := r
  match c, hr with
  | 0, _ =>
    refine sK_i (pc' := 7) rfl ?_
    refine x_i2l (pc' := 8) rfl rfl rfl ?_
    refine x_last (pc' := 9) (N := 1) (p := 0) rfl rfl (kN_23_0 hc1) (by decide) (by decide) ?_
    refine x_goto (pc' := 15) rfl rfl ?_
    refine x_iconst (pc' := 16) rfl rfl ?_
    refine x_reti rfl rfl ?_
    exact q _ T1 L1 (W_L W1) (lw_L l1) (Zr_L hz1) (fun _ => sL_s)
  | 1, _ =>
    refine sK_h (h := 12) (by decide +kernel) rfl ?_
    refine x_catch_n (pc' := 13) (ls' := [_, _, _, _]) rfl rfl rfl rfl ?_
    refine x_iconst (pc' := 14) rfl rfl ?_
    refine x_reti rfl rfl ?_
    exact q t1 T1 L1 W1 l1 hz1 (fun z => by cases z)
  | c + 2, h => exact absurd (show c + 2 ≤ 1 from h) (by omega)
theorem wr_293 {p0 : Int32} (hr : r.1 ≤ 1) (hz : Zr t) (hC : ∀ Q', Kc t T A B w [0] r Q' → X 120 0 [.inr (.inr (11, (some 0))), .inl p0] [] t Q')
    (q : ∀ t1 T1 L1, Wc t1 r.2.2.1 r.2.2.2 T1 L1 (A + 2) (B + 12) → lw t1 t → Zr t1 → (r.1 = 0 → sL t1 23 0 0 = r.2.1.toInt64) → Q (.inl (some (.inl (io r.1)))) t1) :
    X 293 0 [.inr (.inr (11, (some 0))), .inl p0, .inr (.inr (23, (some 0))), sJk] [] t Q := by
  refine x_aload_n (pc' := 1) rfl rfl rfl rfl rfl ?_
  refine x_iconst (pc' := 2) rfl rfl ?_
  refine x_aload_n (pc' := 3) rfl rfl rfl rfl rfl ?_
  refine x_iload_n (pc' := 4) rfl rfl rfl ?_
  refine x_cv (ls0 := [_, _]) (rest := [_, _]) rfl rfl rfl rfl rfl ?_
  refine X_zr hz (hC _ (fun t1 T1 L1 W1 e1 _ hz1 => ?_))
  have hc1 : Cn t1 := W1.2.1.1
  have l1 := lw_ep e1
  obtain ⟨c, v, N, j⟩ := r
  match c, hr with
  | 0, _ =>
    refine sK_i (pc' := 7) rfl ?_
    refine x_i2l (pc' := 8) rfl rfl rfl ?_
    refine x_last (pc' := 9) (N := 1) (p := 0) rfl rfl (kN_23_0 hc1) (by decide) (by decide) ?_
    refine x_goto (pc' := 15) rfl rfl ?_
    refine x_iconst (pc' := 16) rfl rfl ?_
    refine x_reti rfl rfl ?_
    exact q _ T1 L1 (W_L W1) (lw_L l1) (Zr_L hz1) (fun _ => sL_s)
  | 1, _ =>
    refine sK_h (h := 12) (by decide +kernel) rfl ?_
    refine x_catch_n (pc' := 13) (ls' := [_, _, _, _]) rfl rfl rfl rfl ?_
    refine x_iconst (pc' := 14) rfl rfl ?_
    refine x_reti rfl rfl ?_
    exact q t1 T1 L1 W1 l1 hz1 (fun z => by cases z)
  | c + 2, h => exact absurd (show c + 2 ≤ 1 from h) (by omega)
theorem wr_294 {p0 : Int32} (hr : r.1 ≤ 1) (hz : Zr t) (hC : ∀ Q', Kc t T A B w [0] r Q' → X 121 0 [.inr (.inr (11, (some 0))), .inl p0] [] t Q')
    (q : ∀ t1 T1 L1, Wc t1 r.2.2.1 r.2.2.2 T1 L1 (A + 2) (B + 12) → lw t1 t → Zr t1 → (r.1 = 0 → sL t1 23 0 0 = r.2.1.toInt64) → Q (.inl (some (.inl (io r.1)))) t1) :
    X 294 0 [.inr (.inr (11, (some 0))), .inl p0, .inr (.inr (23, (some 0))), sJk] [] t Q := by
  refine x_aload_n (pc' := 1) rfl rfl rfl rfl rfl ?_
  refine x_iconst (pc' := 2) rfl rfl ?_
  refine x_aload_n (pc' := 3) rfl rfl rfl rfl rfl ?_
  refine x_iload_n (pc' := 4) rfl rfl rfl ?_
  refine x_cv (ls0 := [_, _]) (rest := [_, _]) rfl rfl rfl rfl rfl ?_
  refine X_zr hz (hC _ (fun t1 T1 L1 W1 e1 _ hz1 => ?_))
  have hc1 : Cn t1 := W1.2.1.1
  have l1 := lw_ep e1
  obtain ⟨c, v, N, j⟩ := r
  match c, hr with
  | 0, _ =>
    refine sK_i (pc' := 7) rfl ?_
    refine x_i2l (pc' := 8) rfl rfl rfl ?_
    refine x_last (pc' := 9) (N := 1) (p := 0) rfl rfl (kN_23_0 hc1) (by decide) (by decide) ?_
    refine x_goto (pc' := 15) rfl rfl ?_
    refine x_iconst (pc' := 16) rfl rfl ?_
    refine x_reti rfl rfl ?_
    exact q _ T1 L1 (W_L W1) (lw_L l1) (Zr_L hz1) (fun _ => sL_s)
  | 1, _ =>
    refine sK_h (h := 12) (by decide +kernel) rfl ?_
    refine x_catch_n (pc' := 13) (ls' := [_, _, _, _]) rfl rfl rfl rfl ?_
    refine x_iconst (pc' := 14) rfl rfl ?_
    refine x_reti rfl rfl ?_
    exact q t1 T1 L1 W1 l1 hz1 (fun z => by cases z)
  | c + 2, h => exact absurd (show c + 2 ≤ 1 from h) (by omega)
theorem wr_295 {p0 : Int32} (hr : r.1 ≤ 1) (hz : Zr t) (hC : ∀ Q', Kc t T A B w [0] r Q' → X 122 0 [.inr (.inr (11, (some 0))), .inl p0] [] t Q')
    (q : ∀ t1 T1 L1, Wc t1 r.2.2.1 r.2.2.2 T1 L1 (A + 2) (B + 12) → lw t1 t → Zr t1 → (r.1 = 0 → sL t1 23 0 0 = r.2.1.toInt64) → Q (.inl (some (.inl (io r.1)))) t1) :
    X 295 0 [.inr (.inr (11, (some 0))), .inl p0, .inr (.inr (23, (some 0))), sJk] [] t Q := by
  refine x_aload_n (pc' := 1) rfl rfl rfl rfl rfl ?_
  refine x_iconst (pc' := 2) rfl rfl ?_
  refine x_aload_n (pc' := 3) rfl rfl rfl rfl rfl ?_
  refine x_iload_n (pc' := 4) rfl rfl rfl ?_
  refine x_cv (ls0 := [_, _]) (rest := [_, _]) rfl rfl rfl rfl rfl ?_
  refine X_zr hz (hC _ (fun t1 T1 L1 W1 e1 _ hz1 => ?_))
  have hc1 : Cn t1 := W1.2.1.1
  have l1 := lw_ep e1
  obtain ⟨c, v, N, j⟩ := r
  match c, hr with
  | 0, _ =>
    refine sK_i (pc' := 7) rfl ?_
    refine x_i2l (pc' := 8) rfl rfl rfl ?_
    refine x_last (pc' := 9) (N := 1) (p := 0) rfl rfl (kN_23_0 hc1) (by decide) (by decide) ?_
    refine x_goto (pc' := 15) rfl rfl ?_
    refine x_iconst (pc' := 16) rfl rfl ?_
    refine x_reti rfl rfl ?_
    exact q _ T1 L1 (W_L W1) (lw_L l1) (Zr_L hz1) (fun _ => sL_s)
  | 1, _ =>
    refine sK_h (h := 12) (by decide +kernel) rfl ?_
    refine x_catch_n (pc' := 13) (ls' := [_, _, _, _]) rfl rfl rfl rfl ?_
    refine x_iconst (pc' := 14) rfl rfl ?_
    refine x_reti rfl rfl ?_
    exact q t1 T1 L1 W1 l1 hz1 (fun z => by cases z)
  | c + 2, h => exact absurd (show c + 2 ≤ 1 from h) (by omega)
theorem wr_296 {p0 : Int32} (hr : r.1 ≤ 1) (hz : Zr t) (hC : ∀ Q', Kc t T A B w [0] r Q' → X 123 0 [.inr (.inr (11, (some 0))), .inl p0] [] t Q')
    (q : ∀ t1 T1 L1, Wc t1 r.2.2.1 r.2.2.2 T1 L1 (A + 2) (B + 12) → lw t1 t → Zr t1 → (r.1 = 0 → sL t1 23 0 0 = (ol r.2.1)) → Q (.inl (some (.inl (io r.1)))) t1) :
    X 296 0 [.inr (.inr (11, (some 0))), .inl p0, .inr (.inr (23, (some 0))), sJk] [] t Q := by
  refine x_aload_n (pc' := 1) rfl rfl rfl rfl rfl ?_
  refine x_iconst (pc' := 2) rfl rfl ?_
  refine x_aload_n (pc' := 3) rfl rfl rfl rfl rfl ?_
  refine x_iload_n (pc' := 4) rfl rfl rfl ?_
  refine x_cv (ls0 := [_, _]) (rest := [_, _]) rfl rfl rfl rfl rfl ?_
  refine X_zr hz (hC _ (fun t1 T1 L1 W1 e1 _ hz1 => ?_))
  have hc1 : Cn t1 := W1.2.1.1
  have l1 := lw_ep e1
  obtain ⟨c, v, N, j⟩ := r
  match c, hr with
  | 0, _ =>
    refine sK_i (pc' := 7) rfl ?_
    refine x_if (a' := 14) (pc' := 10) (z := decide (v = 0)) rfl rfl rfl rfl (fun h0 => ?_) (fun h0 => ?_)
    · refine x_lconst (pc' := 15) rfl rfl rfl ?_
      refine x_last (pc' := 16) (N := 1) (p := 0) rfl rfl (kN_23_0 hc1) (by decide) (by decide) ?_
      refine x_goto (pc' := 22) rfl rfl ?_
      refine x_iconst (pc' := 23) rfl rfl ?_
      refine x_reti rfl rfl ?_
      exact q _ T1 L1 (W_L W1) (lw_L l1) (Zr_L hz1) (fun _ => (sL_s.trans (ol_0 h0).symm))
    · refine x_lconst (pc' := 11) rfl rfl rfl ?_
      refine x_goto (pc' := 15) rfl rfl ?_
      refine x_last (pc' := 16) (N := 1) (p := 0) rfl rfl (kN_23_0 hc1) (by decide) (by decide) ?_
      refine x_goto (pc' := 22) rfl rfl ?_
      refine x_iconst (pc' := 23) rfl rfl ?_
      refine x_reti rfl rfl ?_
      exact q _ T1 L1 (W_L W1) (lw_L l1) (Zr_L hz1) (fun _ => (sL_s.trans (ol_1 h0).symm))
  | 1, _ =>
    refine sK_h (h := 19) (by decide +kernel) rfl ?_
    refine x_catch_n (pc' := 20) (ls' := [_, _, _, _]) rfl rfl rfl rfl ?_
    refine x_iconst (pc' := 21) rfl rfl ?_
    refine x_reti rfl rfl ?_
    exact q t1 T1 L1 W1 l1 hz1 (fun z => by cases z)
  | c + 2, h => exact absurd (show c + 2 ≤ 1 from h) (by omega)
end S99zp
