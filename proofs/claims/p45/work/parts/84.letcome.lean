/-! the class: an order comes, and all that follows -/
section S84
variable {t t' t0 : sT} {M M' M0 N : sM} {n T A B b c m o k x y K w f v j : Nat} {p a d sz : Int32} {s z : Bool} {L L' l : List Nat} {r r0 : Option Nat} {y0 y1 y2 : sV} {Q : sRs → sT → Prop}
theorem Qn_ox (hQ : Qn M n) (hO : Ox M N n o) (hz : nz (mA N 19 o)) : Qn N n := fun k hk hb h0 => by
  by_cases e : k = o
  · rw [e] at h0; exact nz_0 hz h0
  · have hb2 : mB M 4 k = true := by rw [← hO.1.2]; exact hb
    by_cases h1 : mA M 19 k = 1
    · exact nz_0 (hO.2 k hk e (Or.inl h1)) h0
    · rw [(hO.1.1 k e h1).1] at h0
      exact hQ k hk hb2 h0
theorem w140_end (hW : Wc t N n T L A B) (hK : Kv M n) (ho : o < n) (hk : k ≤ 200) (hJ : Jv N n) (h19 : mA N 19 o = 4) (hO : Ox M N n o) (hN : N = mtR M n o)
    (q : ∀ t', Wc t' (comF M n o) n T L A B → ep t' = ep t → X 140 4 [.inr (.inr (11, (some 0))), .inr (.inr (8, r0)), .inr (.inr (8, lrF (comF M n o) n)), .inl (io (k + 1))] [] t' Q) :
    X 29 0 [.inr (.inr (4, (some 0))), .inr (.inr (8, (some o)))] [] t (sK 29 140 44 [.inr (.inr (11, (some 0))), .inr (.inr (8, r0)), .inr (.inr (8, (some o))), .inl (io k)] [] Q) := by
  obtain ⟨b1, b2, b3⟩ := se_all hJ ho h19
  have hQ := Qn_ox hK.2.2.1 (hO.trans b3) b2
  refine w29 hW hJ ho h19 (fun t1 h1 e1 => ?_)
  refine sK_v (pc' := 47) rfl ?_
  refine n140_47 h1 ho hk ?_
  refine w141 h1 hQ (fun t2 h2 e2 => ?_)
  refine sK_v (pc' := 51) rfl ?_
  refine n140_51 h2 ho hk ?_
  have e9 : poF (seF (finF N o) o) n = comF M n o := by rw [hN]; rfl
  rw [e9] at h2
  refine c37 h2.1 h2.2.1 h2.2.2.1 ?_
  refine sK_i (pc' := 58) rfl ?_
  exact n140_58 h2 ho hk (q t2 h2 (e2.trans e1))
/-- one turn -/
theorem w140_turn (hW : Wc t M n T L A B) (hK : Kv M n) (ho : o < n) (hs : mA M 19 o = 0 ∨ mA M 19 o = 4) (hk : k ≤ 200)
    (q : ∀ t' T' L', Wc t' (comF M n o) n T' L' A B → T ≤ T' → (T' ≤ T ∨ T' ≤ 1899) → ep t' = ep t → X 140 4 [.inr (.inr (11, (some 0))), .inr (.inr (8, r0)), .inr (.inr (8, lrF (comF M n o) n)), .inl (io (k + 1))] [] t' Q) :
    X 140 4 [.inr (.inr (11, (some 0))), .inr (.inr (8, r0)), .inr (.inr (8, (some o))), .inl (io k)] [] t Q := by
  have hJ := hK.1
  have hR := hK.2.1
  have hlf := Iv_lf hJ.1 ho
  have hs1 : ¬ mA M 19 o = 1 := by rcases hs with g | g <;> rw [g] <;> decide
  have hW4 : Wc (sIw t 522 o 4) (mAw M 19 o 4) n T L A B := W_eq (st17 (W_17 hW ho hs1)) (W_st hW hs1 (by decide))
  have he4 : ep (sIw t 522 o 4) = ep t := ep_I rfl
  have hJ1 := Jv_4 hJ ho hs
  have hO1 : Ox M (mAw M 19 o 4) n o := Ox_o (fun k hk => aw_o hk) (fun k _ => rfl) rfl
  refine n140_k hW ho hk (fun hp => ?_) (fun hp => ?_)
  · refine w140_end hW4 hK ho hk hJ1 w4_19 hO1 (by unfold mtR; rw [decide_eq_false hp]; rfl) (fun t1 h1 e1 => ?_)
    exact q t1 T L h1 (Nat.le_refl T) (Or.inl (Nat.le_refl T)) (e1.trans he4)
  · refine n56_0 hW4 ?_
    have hT4 := W_T hW
    obtain ⟨a1, a2, a3, _⟩ := mtR_all hJ hR ho hs (W_801 hW) hT4
    have em : mtR M n o = mtF n o 305 (mAw M 19 o 4) := by unfold mtR; rw [decide_eq_true hp]; rfl
    refine w56_loop ho 305 0 (mAw M 19 o 4) _ T L _ _ _ hW4 hJ1 w4_19 (mu_b hlf.2 hJ.1.2.2.2.2.2) (by decide) (fun t1 T1 L1 h1 j1 j2 j3 j4 e1 => ?_)
    refine sK_v (pc' := 39) rfl ?_
    refine n140_39 h1 ho hk ?_
    refine w140_end h1 hK ho hk j1 j2 (em ▸ a3) em.symm (fun t2 h2 e2 => ?_)
    exact q t2 T1 L1 h2 j3 j4 (e2.trans (e1.trans he4))
theorem W_Kv (hW : Wc t M n T L A B) (hJ : Jv M n) (hQ : Qn M n) (hl : ∀ k, k < n → mA M 19 k = 0 → 1 ≤ lfN M k) : Kv M n := ⟨hJ, W_R hW, hQ, hl, T, W_801 hW, W_T hW⟩
theorem w140_run : ∀ (f k : Nat) (M : sM) (t : sT) (T : Nat) (L : List Nat), Wc t M n T L A B → Kv M n → wt0 M n ≤ f → k + f ≤ 201 →
    (∀ t' T' L', Wc t' (folF n f M) n T' L' A B → Kv (folF n f M) n → T ≤ T' → (T' ≤ T ∨ T' ≤ 1899) → ep t' = ep t → Q (.inl none) t') →
    X 140 4 [.inr (.inr (11, (some 0))), .inr (.inr (8, r0)), .inr (.inr (8, lrF M n)), .inl (io k)] [] t Q := by
  intro f
  induction f with
  | zero =>
    intro k M t T L hW hK hw hk q
    have hnone : lrF M n = none := by
      cases h : lrF M n with
      | none => rfl
      | some o =>
        obtain ⟨ho, h0⟩ := lrF_s h
        obtain ⟨k1, k2, k3, _⟩ := com_all hK ho (Or.inl h0)
        have := wt0_com k2 ho h0 k3
        omega
    rw [hnone]
    exact n140_n hW (q t T L hW hK (Nat.le_refl T) (Or.inl (Nat.le_refl T)) rfl)
  | succ f ih =>
    intro k M t T L hW hK hw hk q
    cases h : lrF M n with
    | none =>
      rw [fol_n h] at q
      exact n140_n hW (q t T L hW hK (Nat.le_refl T) (Or.inl (Nat.le_refl T)) rfl)
    | some o =>
      rw [fol_s h] at q
      obtain ⟨ho, h0⟩ := lrF_s h
      obtain ⟨k1, k2, k3, _⟩ := com_all hK ho (Or.inl h0)
      have hlt := wt0_com k2 ho h0 k3
      refine w140_turn hW hK ho (Or.inl h0) (by omega) (fun t1 T1 L1 g1 g2 g3 g4 => ?_)
      refine ih (k + 1) (comF M n o) t1 T1 L1 g1 k1 (by omega) (by omega) (fun t2 T2 L2 i1 i2 i3 i4 i5 => ?_)
      exact q t2 T2 L2 i1 i2 (by omega) (by omega) (i5.trans g4)
/-- the class: an order comes, and all that follows it -/
theorem w140 (hW : Wc t M n T L A B) (hK : Kv M n) (ho : o < n) (hs : mA M 19 o = 4) (hf : wt0 M n ≤ f) (hf2 : f ≤ 200)
    (q : ∀ t' T' L', Wc t' (folF n f (comF M n o)) n T' L' A B → Kv (folF n f (comF M n o)) n → T ≤ T' → (T' ≤ T ∨ T' ≤ 1899) → ep t' = ep t → Q (.inl none) t') :
    X 140 0 [.inr (.inr (11, (some 0))), .inr (.inr (8, (some o))), sJk, sJk] [] t Q := by
  refine n140_0 hW ?_
  refine w140_turn (k := 0) hW hK ho (Or.inr hs) (by decide) (fun t1 T1 L1 g1 g2 g3 g4 => ?_)
  obtain ⟨k1, k2, k3, _⟩ := com_all hK ho (Or.inr hs)
  have hle := wt0_le k2 k3
  refine w140_run f (0 + 1) (comF M n o) t1 T1 L1 g1 k1 (by omega) (by omega) (fun t2 T2 L2 i1 i2 i3 i4 i5 => ?_)
  exact q t2 T2 L2 i1 i2 (by omega) (by omega) (i5.trans g4)
/-- the class: nobody comes, but some may follow -/
theorem w140_f (hW : Wc t M n T L A B) (hK : Kv M n) (hf : wt0 M n ≤ f) (hf2 : f ≤ 200)
    (q : ∀ t' T' L', Wc t' (folF n f M) n T' L' A B → Kv (folF n f M) n → T ≤ T' → (T' ≤ T ∨ T' ≤ 1899) → ep t' = ep t → Q (.inl none) t') :
    X 140 0 [.inr (.inr (11, (some 0))), .inr (.inr (8, lrF M n)), sJk, sJk] [] t Q :=
  n140_0 hW (w140_run f 0 M t T L hW hK hf (by omega) q)
end S84
