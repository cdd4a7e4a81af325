/-! the class's step: from the head of the loop to its next -/
section S72
variable {t t' t0 : sT} {M M' M0 N : sM} {n T A B b c m o k x y K w f : Nat} {p a d sz : Int32} {s z : Bool} {L L' l : List Nat} {V : TV} {Lg : List (Nat × Int32)} {tr : sM} {y0 y1 y2 : sV} {Q : sRs → sT → Prop}
theorem step_ne (hI : Iv M n) (hb : b < 5) (hw3 : w < 3) (hok : wokF M n b s w = true) : ¬ wprF M n b s w = -10000 := by
  have hlg := wok_L hok
  obtain ⟨g1, _, g3, g4, _⟩ := lg_mem hb hw3 hlg
  exact prF_ne hI.2.2.2.2.1 (fun x hx => (g1 x hx).1) g3 g4
theorem w56_t (hW : Wc t M n T L A B) (hI : Iv M n) (ho : o < n) (hk : k < 1000) (h19 : mA M 19 o = 4) (hT : T < 1500) (hw3 : w < 3)
    (hG : Gd M n o w p L) (hbad : badP M o p = false) (hM : csM M n o = stpM M n o p L (LgF M (oB M o) w p L) (trF M n o w p L)) (hZ : csZ M n o = stpZ M n o p L (LgF M (oB M o) w p L)) (e0 : ep t = ep t0)
    (q0 : csZ M n o = false → ∀ t' T' L', Wc t' (csM M n o) n T' L' A B → T ≤ T' → T' ≤ T + 400 → ep t' = ep t0 → Q (.inl none) t')
    (q1 : csZ M n o = true → ∀ t' T' L' y0 y1 y2, Wc t' (csM M n o) n T' L' A B → T ≤ T' → T' ≤ T + 400 → ep t' = ep t0 → X 56 2 [.inr (.inr (6, (some 0))), .inr (.inr (8, (some o))), .inl (io (k + 1)), y0, y1, y2] [] t' Q) :
    X 56 90 [.inr (.inr (6, (some 0))), .inr (.inr (8, (some o))), .inl (io k), .inl (io w), .inl p, y2] [] t Q := by
  obtain ⟨hx, hnd, ⟨x, l, hne⟩, hfar, hw⟩ := hG
  have hTn : tN M = T := by unfold tN; rw [W_801 hW]; exact nn_io (by omega)
  refine w56_g hW ho hk hx hfar hbad hM hZ e0 (fun t1 V h1 v1 k1 => ?_) q0 q1
  unfold trF at k1
  rw [hTn] at k1
  by_cases hw0 : w = 0
  · rw [if_pos hw0] at k1
    exact w56_tb h1 hI ho hk h19 hx hnd hne hT hw0 k1
  · rw [if_neg hw0] at k1
    have hw1 : 1 ≤ w := by omega
    obtain ⟨g1, g2⟩ := hw hw1
    have hi0 : ¬ io w = 0 := pos_ne0 ((io_pos (by omega)).mpr hw1)
    have hf := (hfar V).2
    rw [decide_eq_false hi0] at hf
    exact w56_tl h1 hI ho hk h19 hx hnd g1 hT hw1 hw3 v1 hf (g2 V) k1
theorem w56 (hW : Wc t M n T L A B) (hI : Iv M n) (ho : o < n) (hk : k < 1000) (h19 : mA M 19 o = 4) (hl1 : 1 ≤ lfN M o) (hT : T < 1500)
    (q0 : csZ M n o = false → ∀ t' T' L', Wc t' (csM M n o) n T' L' A B → T ≤ T' → T' ≤ T + 400 → ep t' = ep t → Q (.inl none) t')
    (q1 : csZ M n o = true → ∀ t' T' L' y0 y1 y2, Wc t' (csM M n o) n T' L' A B → T ≤ T' → T' ≤ T + 400 → ep t' = ep t → X 56 2 [.inr (.inr (6, (some 0))), .inr (.inr (8, (some o))), .inl (io (k + 1)), y0, y1, y2] [] t' Q) :
    X 56 2 [.inr (.inr (6, (some 0))), .inr (.inr (8, (some o))), .inl (io k), y0, y1, y2] [] t Q := by
  obtain ⟨hlf, hlf1⟩ := Iv_lf hI ho
  have hb := W_oB hW ho
  have hR := W_R hW
  have hpos : 0 < mA M 15 o := by rw [hlf]; exact (io_pos (by omega)).mpr hl1
  refine n56_2 hW ho hk (fun h => absurd hpos h) (fun _ _ => ?_) (fun _ h => absurd hT h)
  refine c82 hW.1 hW.2.1 hR hW.2.2.2.1 hb (fun _ => ?_)
  refine sK_i (pc' := 47) rfl ?_
  rw [cbF_e (fun w hw hok => step_ne hI hb hw hok)]
  cases hw : bwF M n (oB M o) (mB M 3 o) with
  | none =>
    have e1 : csM M n o = M := by unfold csM; rw [hw]
    have e2 : csZ M n o = false := by unfold csZ; rw [hw]
    rw [e1, e2] at q0
    refine n56_47 (p := 0) hW ho hk ?_
    refine w81m hW hb ?_
    refine sK_i (pc' := 64) rfl ?_
    refine n56_64 (y0 := y1) hW ho hk (fun _ => ?_) (fun h => absurd rfl h) (fun h => absurd rfl h) (fun h => absurd rfl h) (fun h => absurd rfl h)
    exact q0 rfl t T L hW (Nat.le_refl T) (by omega) rfl
  | some w =>
    obtain ⟨LL, hlg, hw3, epr, hcase⟩ := step_some hI hR ho hw
    obtain ⟨_, hok⟩ := bwF_ok hw
    have hne := step_ne hI hb hw3 hok
    have e1 : csM M n o = stpM M n o (wprF M n (oB M o) (mB M 3 o) w) (legL M n o w) (LgF M (oB M o) w (wprF M n (oB M o) (mB M 3 o) w) (legL M n o w)) (trF M n o w (wprF M n (oB M o) (mB M 3 o) w) (legL M n o w)) := by unfold csM; rw [hw]
    have e2 : csZ M n o = stpZ M n o (wprF M n (oB M o) (mB M 3 o) w) (legL M n o w) (LgF M (oB M o) w (wprF M n (oB M o) (mB M 3 o) w) (legL M n o w)) := by unfold csZ; rw [hw]
    refine n56_47 (p := 0) hW ho hk ?_
    refine c81_g hW.1 hW.2.1 hR hW.2.2.2.1 hb hw3 ?_
    rw [hok]
    refine sK_i (pc' := 64) rfl ?_
    have bad : badP M o (wprF M n (oB M o) (mB M 3 o) w) = true → Q (.inl none) t := fun hbad => by
      obtain ⟨s1, s2⟩ := stp_bad (n := n) (L := legL M n o w) (Lg := LgF M (oB M o) w (wprF M n (oB M o) (mB M 3 o) w) (legL M n o w)) (tr := trF M n o w (wprF M n (oB M o) (mB M 3 o) w) (legL M n o w)) hbad
      rw [← e1] at s1
      rw [← e2] at s2
      exact q0 s2 t T L (s1.symm ▸ hW) (Nat.le_refl T) (by omega) rfl
    have good : badP M o (wprF M n (oB M o) (mB M 3 o) w) = false → X 57 0 [.inr (.inr (6, (some 0))), .inr (.inr (8, (some o))), .inl (io w), sJk, sJk] [] t (sK 57 56 87 [.inr (.inr (6, (some 0))), .inr (.inr (8, (some o))), .inl (io k), .inl (io w), .inl (wprF M n (oB M o) (mB M 3 o) w), y2] [] Q) := fun hbad => by
      refine w57 hW ho hw3 (fun h0 _ => ?_) (fun hsh t1 h1 f1 _ => ?_) (fun h0 hsh t1 x l hCl h1 f1 _ => ?_)
      · subst h0
        exact ⟨_, (lgO_0 hb hlg).2.1⟩
      · obtain ⟨g1, g2, g3⟩ := hcase hsh
        rw [g2] at h1
        rw [g1] at e1 e2
        rw [epr] at e1 e2 hbad ⊢
        refine sK_v (pc' := 90) rfl ?_
        exact w56_t h1 hI ho hk h19 hT hw3 g3 hbad e1 e2 f1 q0 q1
      · subst h0
        obtain ⟨g1, g2, g3⟩ := step_lv hI hR ho hsh hlg hCl
        rw [g1] at e1 e2
        rw [epr, g2] at e1 e2 hbad ⊢
        refine sK_v (pc' := 90) rfl ?_
        exact w56_t h1 hI ho hk h19 hT hw3 g3 hbad e1 e2 f1 q0 q1
    refine n56_64 (y0 := y1) hW ho hk (fun h => absurd h hne) (fun _ h1 h2 => bad ?_) (fun _ h1 h2 => good ?_) (fun _ h1 h2 => bad ?_) (fun _ h1 h2 => good ?_)
    · unfold badP; generalize wprF M n (oB M o) (mB M 3 o) w = P9 at h2 ⊢; rw [h1]; exact decide_eq_true h2
    · unfold badP; generalize wprF M n (oB M o) (mB M 3 o) w = P9 at h2 ⊢; rw [h1]; exact decide_eq_false h2
    · unfold badP; generalize wprF M n (oB M o) (mB M 3 o) w = P9 at h2 ⊢; rw [h1]; exact decide_eq_true h2
    · unfold badP; generalize wprF M n (oB M o) (mB M 3 o) w = P9 at h2 ⊢; rw [h1]; exact decide_eq_false h2
end S72
