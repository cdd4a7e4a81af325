/-! the reference matches by shares -/
section S59
variable {t t' : sT} {M M' M0 : sM} {n T b c m o k x y K w : Nat} {p a d h : Int32} {s z : Bool} {L L' l : List Nat} {Q : sRs → sT → Prop}
/-- the reference's part of a store -/
def Vr (t : sT) (M : sM) (n : Nat) : Prop := rp t = M ∧ Cn t ∧ Ri M n
theorem Vr_mk (hV : Vr t M n) (h1 : rp t' = M') (h2 : cp t' = cp t) (f : Fr M' M) : Vr t' M' n := ⟨h1, Cn_cp h2 hV.2.1, f.ri hV.2.2⟩
theorem TkL_sp (h : sp t' = sp t) (hk : TkL t L) : TkL t' L := ⟨(sI_sp h).trans hk.1, fun i hi => (sA_sp h rfl).trans (hk.2 i hi)⟩
theorem am_sp (h : sp t' = sp t) : sA t' 21 28 k = sA t 21 28 k := sA_sp h rfl
theorem v156 (hV : Vr t M n) (hk : k < n) (q : ∀ t', Vr t' (cnF M k) n → cp t' = cp t → sp t' = sp t → Q (.inl none) t') : X 156 0 [.inr (.inr (12, (some 0))), .inl (io k)] [] t Q :=
  r156 hV.1 hV.2.1 hV.2.2 hk (fun t' h1 h2 h3 => q t' (Vr_mk hV h1 h2 (Fr_cnF (Fr.refl M))) h2 h3)
theorem v154 (hV : Vr t M n) (hk : k < n) (q : ∀ t', Vr t' (rsF M k) n → cp t' = cp t → sp t' = sp t → Q (.inl none) t') : X 154 0 [.inr (.inr (12, (some 0))), .inl (io k)] [] t Q :=
  r154 hV.1 hV.2.1 hV.2.2 hk (fun t' h1 h2 h3 => q t' (Vr_mk hV h1 h2 (Fr_rsF (Fr.refl M))) h2 h3)
theorem v167 (hV : Vr t M n) (hk : k < n) (q : ∀ t', Vr t' (ofF M k a) n → cp t' = cp t → sp t' = sp t → Q (.inl none) t') : X 167 0 [.inr (.inr (12, (some 0))), .inl (io k), .inl a] [] t Q :=
  r167 hV.1 hV.2.1 hV.2.2 hk (fun t' h1 h2 h3 => q t' (Vr_mk hV h1 h2 (Fr_ofF (Fr.refl M))) h2 h3)
theorem v168 (hV : Vr t M n) (hk : k < n) (q : ∀ t', Vr t' (flF M k a) n → cp t' = cp t → sp t' = sp t → Q (.inl none) t') : X 168 0 [.inr (.inr (12, (some 0))), .inl (io k), .inl a] [] t Q :=
  r168 hV.1 hV.2.1 hV.2.2 hk (fun t' h1 h2 h3 => q t' (Vr_mk hV h1 h2 (Fr_flF (Fr.refl M))) h2 h3)
theorem v166 (hV : Vr t M n) (hb : b < 5) (q : ∀ t', Vr t' (reF M n b p) n → cp t' = cp t → sp t' = sp t → Q (.inl none) t') : X 166 0 [.inr (.inr (12, (some 0))), .inl (io b), .inl p, sJk, sJk] [] t Q :=
  r166 hV.1 hV.2.1 hV.2.2 hb (fun t' h1 h2 h3 => q t' (Vr_mk hV h1 h2 (Fr_reF (Fr.refl M))) h2 h3)
theorem v177 (hV : Vr t M n) (q : ∀ t', Vr t' (poF M n) n → cp t' = cp t → sp t' = sp t → Q (.inl none) t') : X 177 0 [.inr (.inr (12, (some 0))), sJk, sJk, sJk] [] t Q :=
  r177 hV.1 hV.2.1 hV.2.2 (fun t' h1 h2 h3 => q t' (Vr_mk hV h1 h2 (Fr_poF (Fr.refl M))) h2 h3)
/-! the level: all resting orders of a price, by stamps -/
def Lv (M : sM) (n b : Nat) (s : Bool) (p : Int32) (L : List Nat) : Prop := (∀ x, x ∈ L ↔ rst M n b s x ∧ mA M 14 x = p) ∧ L.Pairwise (fun x y => mA M 18 x < mA M 18 y)
def isl (M : sM) (b : Nat) (s : Bool) (p l : Int32) (k : Nat) : Bool := ((decide ((mA M 19 k) = 1)) && ((decide ((oB M k) = b)) && (!(xor (mB M 3 k) s) && ((decide ((mA M 14 k) = p)) && (decide (l < (mA M 18 k)))))))
theorem isl_iff {l : Int32} (hk : k < n) : isl M b s p l k = true ↔ (rst M n b s k ∧ mA M 14 k = p) ∧ l < mA M 18 k := by
  unfold isl rst
  simp only [Bool.and_eq_true, decide_eq_true_eq, Bool.not_eq_true', bne_eq_false_iff_eq]
  constructor
  · rintro ⟨h1, h2, h3, h4, h5⟩
    exact ⟨⟨⟨hk, h1, h2, h3⟩, h4⟩, h5⟩
  · rintro ⟨⟨⟨-, h1, h2, h3⟩, h4⟩, h5⟩
    exact ⟨h1, h2, h3, h4, h5⟩
theorem la_spec {l : Int32} {rest : List Nat} (hm : ∀ k, k < n → (isl M b s p l k = true ↔ k ∈ rest)) (hp : rest.Pairwise (fun x y => mA M 18 x < mA M 18 y)) : ∀ k, k ≤ n → (laL M n b s p l none k = none → ∀ j, j < k → ¬ j ∈ rest) ∧ ∀ f, laL M n b s p l none k = some f → f ∈ rest ∧ ∀ j, j < k → j ∈ rest → j = f ∨ mA M 18 f < mA M 18 j
  | 0, _ => ⟨fun _ j hj => absurd hj (Nat.not_lt_zero j), fun f h => by cases h⟩
  | k + 1, hk => by
    have ih := la_spec hm hp k (by omega)
    have hkn : k < n := by omega
    have e : laL M n b s p l none (k + 1) = (bif isl M b s p l k then (bif (laL M n b s p l none k).isNone then (some k) else (bif (decide ((mA M 18 k) < (mA M 18 (ovD (laL M n b s p l none k))))) then (some k) else (laL M n b s p l none k))) else (laL M n b s p l none k)) := rfl
    have tot : ∀ x y, x ∈ rest → y ∈ rest → x = y ∨ mA M 18 x < mA M 18 y ∨ mA M 18 y < mA M 18 x := by
      clear ih e
      intro x y hx hy
      clear hm
      induction rest with
      | nil => cases hx
      | cons a r ih =>
        rw [List.pairwise_cons] at hp
        rcases List.mem_cons.mp hx with e1 | h1
        · rcases List.mem_cons.mp hy with e2 | h2
          · exact Or.inl (e1.trans e2.symm)
          · rw [e1]; exact Or.inr (Or.inl (hp.1 y h2))
        · rcases List.mem_cons.mp hy with e2 | h2
          · rw [e2]; exact Or.inr (Or.inr (hp.1 x h1))
          · exact ih hp.2 h1 h2
    cases hi : isl M b s p l k with
    | false =>
      rw [show laL M n b s p l none (k + 1) = laL M n b s p l none k by rw [e, hi]; rfl]
      have hnr : ¬ k ∈ rest := fun h => by rw [(hm k hkn).mpr h] at hi; cases hi
      refine ⟨fun h j hj => ?_, fun f h => ?_⟩
      · by_cases e1 : j = k
        · rw [e1]; exact hnr
        · exact ih.1 h j (by omega)
      · obtain ⟨h2, h3⟩ := ih.2 f h
        refine ⟨h2, fun j hj hr => ?_⟩
        by_cases e1 : j = k
        · rw [e1] at hr; exact absurd hr hnr
        · exact h3 j (by omega) hr
    | true =>
      have hr := (hm k hkn).mp hi
      cases hb : laL M n b s p l none k with
      | none =>
        rw [show laL M n b s p l none (k + 1) = some k by rw [e, hi, hb]; rfl]
        refine ⟨fun h => (by cases h), fun f h => ?_⟩
        cases h
        refine ⟨hr, fun j hj hj2 => ?_⟩
        by_cases e1 : j = k
        · exact Or.inl e1
        · exact absurd hj2 (ih.1 hb j (by omega))
      | some g =>
        obtain ⟨g2, g3⟩ := ih.2 g hb
        rw [show laL M n b s p l none (k + 1) = (bif decide (mA M 18 k < mA M 18 g) then some k else some g) by rw [e, hi, hb]; rfl]
        by_cases hB : mA M 18 k < mA M 18 g
        · rw [decide_eq_true hB]
          refine ⟨fun h => (by cases h), fun f h => ?_⟩
          cases h
          refine ⟨hr, fun j hj hj2 => ?_⟩
          by_cases e1 : j = k
          · exact Or.inl e1
          · rcases g3 j (by omega) hj2 with h4 | h4
            · rw [h4]; exact Or.inr hB
            · exact Or.inr (Int32.lt_trans hB h4)
        · rw [decide_eq_false hB]
          refine ⟨fun h => (by cases h), fun f h => ?_⟩
          cases h
          refine ⟨g2, fun j hj hj2 => ?_⟩
          by_cases e1 : j = k
          · rw [e1]
            rcases tot k g hr g2 with h4 | h4 | h4
            · exact Or.inl h4
            · exact absurd h4 hB
            · exact Or.inr h4
          · exact g3 j (by omega) hj2
theorem la_hd {l : Int32} {rest : List Nat} (hm : ∀ k, k < n → (isl M b s p l k = true ↔ k ∈ rest)) (hn : ∀ x, x ∈ rest → x < n) (hp : rest.Pairwise (fun x y => mA M 18 x < mA M 18 y)) : laL M n b s p l none n = rest.head? := by
  have h := la_spec hm hp n (Nat.le_refl n)
  cases hb : laL M n b s p l none n with
  | none =>
    cases rest with
    | nil => rfl
    | cons x r => exact absurd List.mem_cons_self (h.1 hb x (hn x List.mem_cons_self))
  | some f =>
    obtain ⟨h2, h3⟩ := h.2 f hb
    cases rest with
    | nil => cases h2
    | cons x r =>
      show some f = some x
      rcases h3 x (hn x List.mem_cons_self) List.mem_cons_self with h4 | h4
      · rw [h4]
      · rcases List.mem_cons.mp h2 with h5 | h5
        · rw [h5]
        · have h6 := (List.pairwise_cons.mp hp).1 f h5
          rw [Int32.lt_iff_toInt_lt] at h4 h6
          omega
/-- the turns of laysAll -/
theorem v169_run (hb : b < 5) (hLv : Lv M n b s p L) (hn2 : n ≤ 200) : ∀ (d j : Nat) (pf rest : List Nat) (l : Int32) (y0 y1 y2 : sV) (t : sT), j + d = n → Vr t M n → TkL t pf → pf ++ rest = L → rest.length ≤ d → (∀ x, x ∈ pf → ¬ l < mA M 18 x) → (∀ x, x ∈ rest → l < mA M 18 x) →
    (∀ t', Vr t' M n → cp t' = cp t → TkL t' L → Q (.inl none) t') →
    X 169 23 [.inr (.inr (12, (some 0))), .inl (io b), .inl (bz s), .inl p, .inl l, .inl (io j), y0, y1, y2] [] t Q
  | 0, j, pf, rest, l, y0, y1, y2, t, e, hV, hT, hpr, hlen, _, _, q => by
    have e : j = n := by omega
    subst e
    have er : rest = [] := List.length_eq_zero_iff.mp (Nat.le_zero.mp hlen)
    subst er
    rw [List.append_nil] at hpr
    subst hpr
    have hl : pf.length ≤ 200 := by
      have nd : pf.Nodup := hLv.2.imp (fun {a b} h e => by rw [e] at h; exact absurd h Int32.lt_irrefl)
      exact Nat.le_trans (nd_len j pf nd (fun x hx => ((hLv.1 x).mp hx).1.1)) hn2
    exact r169_23e hV.1 hV.2.1 hV.2.2 hT hl hb (q t hV rfl hT)
  | d + 1, j, pf, rest, l, y0, y1, y2, t, e, hV, hT, hpr, hlen, hpl, hrl, q => by
    have hj : j < n := by omega
    have nd : L.Nodup := hLv.2.imp (fun {a b} h e => by rw [e] at h; exact absurd h Int32.lt_irrefl)
    have hLn : L.length ≤ n := nd_len n L nd (fun x hx => ((hLv.1 x).mp hx).1.1)
    have hlap : pf.length + rest.length = L.length := by rw [← hpr, List.length_append]
    have hm : ∀ k, k < n → (isl M b s p l k = true ↔ k ∈ rest) := by
      intro k hk
      rw [isl_iff hk, ← hLv.1 k, ← hpr, List.mem_append]
      constructor
      · rintro ⟨h1 | h1, h2⟩
        · exact absurd h2 (hpl k h1)
        · exact h1
      · intro h1
        exact ⟨Or.inr h1, hrl k h1⟩
    have hp2 : rest.Pairwise (fun x y => mA M 18 x < mA M 18 y) := by
      have := hLv.2
      rw [← hpr, List.pairwise_append] at this
      exact this.2.1
    have hcross : ∀ x, x ∈ pf → ∀ y, y ∈ rest → mA M 18 x < mA M 18 y := by
      have := hLv.2
      rw [← hpr, List.pairwise_append] at this
      exact this.2.2
    have hrn : ∀ x, x ∈ rest → x < n := fun x hx => ((hLv.1 x).mp (by rw [← hpr]; exact List.mem_append_right pf hx)).1.1
    have hhd := la_hd hm hrn hp2
    refine r169_23 hV.1 hV.2.1 hV.2.2 hT (by omega) hb hj ?_
    refine r169_38 (f := none) hV.1 hV.2.1 hV.2.2 hb (fun i hi => by cases hi) (fun e0 hb0 => ?_)
    rw [hhd]
    cases rest with
    | nil =>
      refine r169_38n hV.1 hV.2.1 hV.2.2 hT (by omega) hb hj ?_
      exact v169_run hb hLv hn2 d (j + 1) pf [] l _ _ _ t (by omega) hV hT hpr (Nat.zero_le d) hpl hrl q
    | cons x r =>
      have hxn := hrn x List.mem_cons_self
      have hlen2 : pf.length + (r.length + 1) = L.length := hlap
      refine r169_38s hV.1 hV.2.1 hV.2.2 hT (by omega) hb hxn (by omega) hj (fun h => absurd h (io_ne1 (Nat.lt_trans hxn (gn31 hV.2.2)))) (fun _ => ?_)
      have hV2 : Vr (sIw (sAw t 21 27 pf.length (io x)) 811 0 (io (pf.length + 1))) M n := Vr_mk hV (((rp_Ic rfl).trans (rp_As rfl)).trans hV.1) ((cp_I rfl).trans cp_A) (Fr.refl M)
      have hT2 : TkL (sIw (sAw t 21 27 pf.length (io x)) 811 0 (io (pf.length + 1))) (pf ++ [x]) := by
        refine ⟨?_, fun i hi => ?_⟩
        · rw [List.length_append]; exact sI_s
        · show (if 21 = 21 ∧ 27 = 27 ∧ i = pf.length then io x else sA t 21 27 i) = _
          rw [List.length_append] at hi
          have hi2 : i < pf.length + 1 := hi
          by_cases e5 : i = pf.length
          · rw [if_pos ⟨rfl, rfl, e5⟩, e5]; simp
          · rw [if_neg (fun z => e5 z.2.2), hT.2 i (by omega)]
            have : (pf ++ [x]).getD i 0 = pf.getD i 0 := by
              rw [List.getD_eq_getElem?_getD, List.getD_eq_getElem?_getD, List.getElem?_append_left (by omega)]
            rw [this]
      refine v169_run hb hLv hn2 d (j + 1) (pf ++ [x]) r (mA M 18 x) _ _ _ _ (by omega) hV2 hT2 (by rw [List.append_assoc]; exact hpr) (by have : r.length + 1 ≤ d + 1 := hlen; omega) (fun y hy h => ?_) (fun y hy => (List.pairwise_cons.mp hp2).1 y hy) (fun t' g1 g2 g3 => q t' g1 (g2.trans ((cp_I rfl).trans cp_A)) g3)
      rcases List.mem_append.mp hy with h1 | h1
      · have := hcross y h1 x List.mem_cons_self
        rw [Int32.lt_iff_toInt_lt] at h this
        omega
      · rw [List.mem_singleton.mp h1] at h
        exact absurd h Int32.lt_irrefl
theorem v169 (hV : Vr t M n) (hb : b < 5) (hLv : Lv M n b s p (x :: l)) (hs : ∀ y, y ∈ x :: l → 0 < mA M 18 y) (hT : TkL t [x])
    (q : ∀ t', Vr t' M n → cp t' = cp t → TkL t' (x :: l) → Q (.inl none) t') :
    X 169 0 [.inr (.inr (12, (some 0))), .inl (io b), .inl (bz s), sJk, sJk, sJk, sJk, sJk, sJk] [] t Q := by
  have hx := (hLv.1 x).mp List.mem_cons_self
  refine r169_0 hV.1 hV.2.1 hV.2.2 hT (show 1 ≤ 200 by decide) (show 0 < 1 by decide) rfl hx.1.1 hb ?_
  rw [show mA M 14 ([x].getD 0 0) = p from hx.2]
  have nd : (x :: l).Nodup := hLv.2.imp (fun {a b} h e => by rw [e] at h; exact absurd h Int32.lt_irrefl)
  refine v169_run hb hLv hV.2.2.2.1 n 0 [] (x :: l) 0 _ _ _ _ (Nat.zero_add n) (Vr_mk hV ((rp_Ic rfl).trans hV.1) (cp_I rfl) (Fr.refl M)) ⟨sI_s, fun i hi => absurd hi (Nat.not_lt_zero i)⟩ rfl (nd_len n _ nd (fun y hy => ((hLv.1 y).mp hy).1.1)) (fun y hy => by cases hy) hs (fun t' g1 g2 g3 => q t' g1 (g2.trans (cp_I rfl)) g3)
end S59
