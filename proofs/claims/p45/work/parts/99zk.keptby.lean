/-! what an order that comes, and all that follows, keep -/
section S99zk
variable {t t' t0 : sT} {M M' M0 N Y Z : sM} {n T A B b c m o k x K w e i d R H C D : Nat} {p a h u p0 p1 : Int32} {s z : Bool} {L L' l : List Nat} {V : List Nat} {v : Int32}
theorem mt_G (ho : o < n) : ∀ (f : Nat) (M : sM) (T : Nat), Jv M n → Ri M n → mA M 19 o = 4 → mI M 801 = io T → T < 4096 → Gk (mtF n o f M) M := by
  intro f
  induction f with
  | zero => intro M T _ _ _ _ _; exact Gk.refl M
  | succ f ih =>
    intro M T hJ hR h19 hT hT4
    by_cases hst : lfN M o = 0 ∨ 1500 ≤ tN M
    · rw [mtF_stop hst]; exact Gk.refl M
    · rw [mtF_go hst]
      have hTn : tN M = T := tN_T hT hT4
      have hl1 : 1 ≤ lfN M o := by omega
      have hG := cs_G hJ hR ho hl1 hT (by omega)
      cases hz : csZ M n o with
      | false => exact hG
      | true =>
        obtain ⟨j1, j2, _, _⟩ := cs_J hJ hR ho h19 hl1 (fun b s _ => Cl_ex hJ b s)
        obtain ⟨T', t1, t2, t3⟩ := cs_T hJ hR ho hT (by omega)
        exact (ih (csM M n o) T' j1 (cs_R hJ hR ho) j2 t1 (by omega)).trans hG
theorem mtR_G (hJ : Jv M n) (hR : Ri M n) (ho : o < n) (hs : mA M 19 o = 0 ∨ mA M 19 o = 4) (hT : mI M 801 = io T) (hT4 : T < 4096) : Gk (mtR M n o) M := by
  have g1 : Gk (mAw M 19 o 4) M := Gk_A rfl (Gk.refl M)
  unfold mtR
  cases decide (mA M 0 (oB M o) = 2) with
  | false => exact g1
  | true => exact (mt_G ho 305 (mAw M 19 o 4) T (Jv_4 hJ ho hs) ((Fr_A rfl (Fr.refl M) : Fr (mAw M 19 o 4) M).ri hR) w4_19 hT hT4).trans g1
/-- those that are dead stay as they are; none begins to come -/
def Dd (N M : sM) (n : Nat) : Prop := ∀ k, k < n → (¬ mA M 19 k = 0 → ¬ mA M 19 k = 1 → ¬ mA M 19 k = 4 → mA N 19 k = mA M 19 k) ∧ (mA N 19 k = 4 → mA M 19 k = 4)
theorem Dd.refl (M : sM) : Dd M M n := fun _ _ => ⟨fun _ _ _ => rfl, fun h => h⟩
theorem Dd.trans (h1 : Dd N Y n) (h2 : Dd Y M n) : Dd N M n := fun k hk => by
  obtain ⟨a1, a2⟩ := h1 k hk
  obtain ⟨b1, b2⟩ := h2 k hk
  refine ⟨fun g0 g1 g4 => ?_, fun h => b2 (a2 h)⟩
  have e := b1 g0 g1 g4
  rw [← e] at g0 g1 g4
  exact (a1 g0 g1 g4).trans e
theorem Dd_eq (h : mA N 19 = mA M 19) : Dd N M n := fun k _ => by rw [h]; exact ⟨fun _ _ _ => rfl, fun h => h⟩
theorem Dd_cn (h : mA M 19 o = 0 ∨ mA M 19 o = 1 ∨ mA M 19 o = 4) : Dd (cnF M o) M n := fun k _ => by
  rw [cn_19]
  by_cases e : k = o
  · rw [if_pos e, e]
    exact ⟨fun g0 g1 g4 => by rcases h with h | h | h <;> contradiction, fun g => absurd g (by decide)⟩
  · rw [if_neg e]; exact ⟨fun _ _ _ => rfl, fun h => h⟩
theorem Dd_4 (h : mA M 19 o = 0 ∨ mA M 19 o = 1 ∨ mA M 19 o = 4) : ∀ k, k < n → ¬ k = o → (¬ mA M 19 k = 0 → ¬ mA M 19 k = 1 → ¬ mA M 19 k = 4 → mA (mAw M 19 o v) 19 k = mA M 19 k) := fun k _ e _ _ _ => aw_o e
theorem com_D (hK : Kv M n) (ho : o < n) (hs : mA M 19 o = 0 ∨ mA M 19 o = 4) : Dd (comF M n o) M n ∧ nz (mA (comF M n o) 19 o) ∧ Gk (comF M n o) M := by
  obtain ⟨hJ, hR, hQ, hW, T, hT, hT4⟩ := hK
  obtain ⟨a1, a2, a3, a4, T', a5, a6, a7⟩ := mtR_all hJ hR ho hs hT hT4
  obtain ⟨b1, b2, b3⟩ := se_all a1 ho a2
  have e : comF M n o = poF (seF (finF (mtR M n o) o) o) n := rfl
  have hO : Ox M (comF M n o) n o := by rw [e]; exact (a3.trans b3).trans Ox_po
  have hnz : nz (mA (comF M n o) 19 o) := by
    rw [e]
    rcases po_19 (N := seF (finF (mtR M n o) o) o) (n := n) (k := o) with g | g
    · rw [g]; exact b2
    · exact Or.inr (Or.inr g.2)
  have n4 : ∀ {q : Int32}, nz q → ¬ q = 4 := fun h => by rcases h with h | h | h <;> rw [h] <;> decide
  refine ⟨fun k hk => ?_, hnz, ?_⟩
  · by_cases ek : k = o
    · rw [ek]
      refine ⟨fun g0 _ g4 => ?_, fun g => absurd g (n4 hnz)⟩
      rcases hs with h | h
      · exact absurd h g0
      · exact absurd h g4
    · by_cases h1 : mA M 19 k = 1
      · exact ⟨fun _ g1 _ => absurd h1 g1, fun g => absurd g (n4 (hO.2 k hk ek (Or.inl h1)))⟩
      · have e2 := (hO.1.1 k ek h1).1
        exact ⟨fun _ _ _ => e2, fun g => by rw [← e2]; exact g⟩
  · rw [e]
    exact Gk_po (Gk_se (Gk_fin (mtR_G hJ hR ho hs hT hT4)))
theorem fol_D : ∀ (f : Nat) (M : sM), Kv M n → Dd (folF n f M) M n ∧ Gk (folF n f M) M ∧ tN (folF n f M) ≤ max (tN M) 1899
  | 0, M, _ => ⟨Dd.refl M, Gk.refl M, by show tN M ≤ _; omega⟩
  | f + 1, M, hK => by
    cases e : lrF M n with
    | none => rw [fol_n e]; exact ⟨Dd.refl M, Gk.refl M, by omega⟩
    | some o =>
      obtain ⟨ho, h0⟩ := lrF_s e
      rw [fol_s e]
      obtain ⟨k1, _, _, k4⟩ := com_all hK ho (Or.inl h0)
      obtain ⟨d1, _, d3⟩ := com_D hK ho (Or.inl h0)
      obtain ⟨i1, i2, i3⟩ := fol_D f (comF M n o) k1
      obtain ⟨T, hT, hT4⟩ := hK.2.2.2.2
      obtain ⟨T', t1, t2, t3⟩ := k4 T hT hT4
      have e1 := tN_T hT hT4
      have e2 : tN (comF M n o) = T' := tN_T t1 (by omega)
      exact ⟨i1.trans d1, i2.trans d3, by omega⟩
theorem com_t (hK : Kv M n) (ho : o < n) (hs : mA M 19 o = 0 ∨ mA M 19 o = 4) : tN (comF M n o) ≤ max (tN M) 1899 := by
  obtain ⟨_, _, _, k4⟩ := com_all hK ho hs
  obtain ⟨T, hT, hT4⟩ := hK.2.2.2.2
  obtain ⟨T', t1, t2, t3⟩ := k4 T hT hT4
  have e1 := tN_T hT hT4
  have e2 : tN (comF M n o) = T' := tN_T t1 (by omega)
  omega
/-! what holds between the calls -/
/-- the reference's notes of quotes -/
def Q4 (M : sM) (n m b : Nat) (r : Option Nat) : Prop := mA M 10 ((5 * m) + b) = ov r ∧ (∀ q, r = some q → q + 1 < n ∧ ∀ k, k = q ∨ k = q + 1 → mB M 4 k = true ∧ oM M k = m ∧ oB M k = b) ∧ ∀ k, k < n → mB M 4 k = true → oM M k = m → oB M k = b → (mA M 19 k = 0 ∨ mA M 19 k = 1 ∨ mA M 19 k = 4) → ∃ q, r = some q ∧ (k = q ∨ k = q + 1)
def Qa (M : sM) (n : Nat) : Prop := ∀ m b, m < 6 → b < 5 → ∃ r, Q4 M n m b r
theorem Qa_Qt (h : Qa M n) : ∀ m b, m < 6 → b < 5 → ∃ r, Qt M n m b r := fun m b hm hb => by
  obtain ⟨r, h1, h2, h3⟩ := h m b hm hb
  exact ⟨r, h1, h2, fun k hk g1 g2 g3 g4 => h3 k hk g1 g2 g3 (by rcases g4 with g | g; exact Or.inl g; exact Or.inr (Or.inl g))⟩
theorem Qa_go (h : Qa M n) (hd : Dd N M n) (h10 : mA N 10 = mA M 10) (h12 : mA N 12 = mA M 12) (h13 : mA N 13 = mA M 13) (h4 : mB N 4 = mB M 4) : Qa N n := fun m b hm hb => by
  obtain ⟨r, h1, h2, h3⟩ := h m b hm hb
  have eM : oM N = oM M := funext fun k => by unfold oM; rw [h12]
  have eB : oB N = oB M := funext fun k => by unfold oB; rw [h13]
  refine ⟨r, by rw [h10]; exact h1, fun q hq => ?_, fun k hk g1 g2 g3 g4 => ?_⟩
  · rw [h4, eM, eB]; exact h2 q hq
  · rw [h4] at g1
    rw [eM] at g2
    rw [eB] at g3
    refine h3 k hk g1 g2 g3 ?_
    obtain ⟨d1, d2⟩ := hd k hk
    by_cases c0 : mA M 19 k = 0
    · exact Or.inl c0
    · by_cases c1 : mA M 19 k = 1
      · exact Or.inr (Or.inl c1)
      · by_cases c4 : mA M 19 k = 4
        · exact Or.inr (Or.inr c4)
        · rw [d1 c0 c1 c4] at g4
          exact g4
def M11 (M : sM) : Prop := ∀ q, q < 18 → -500 ≤ (mA M 11 q).toInt ∧ (mA M 11 q).toInt ≤ 500
def ouN (M : sM) : Nat := sumN (fun k => if mB M 2 k = true then 1 else 0) 6
theorem ouN_le : ouN M ≤ 6 := by
  have h : ∀ k, sumN (fun k => if mB M 2 k = true then 1 else 0) k ≤ k := fun k => by
    induction k with
    | zero => exact Nat.le_refl 0
    | succ k ih =>
      have e : sumN (fun k => if mB M 2 k = true then 1 else 0) (k + 1) = sumN (fun k => if mB M 2 k = true then 1 else 0) k + (if mB M 2 k = true then 1 else 0) := rfl
      rw [e]
      split <;> omega
  exact h 6
theorem dnN_le : dnN M n ≤ n := by
  have h : ∀ k, sumN (fun k => if mA M 19 k = 2 then 1 else 0) k ≤ k := fun k => by
    induction k with
    | zero => exact Nat.le_refl 0
    | succ k ih =>
      have e : sumN (fun k => if mA M 19 k = 2 then 1 else 0) (k + 1) = sumN (fun k => if mA M 19 k = 2 then 1 else 0) k + (if mA M 19 k = 2 then 1 else 0) := rfl
      rw [e]
      split <;> omega
  exact h n
theorem dn_mono (h : ∀ k, k < n → mA M 19 k = 2 → mA N 19 k = 2) : dnN M n ≤ dnN N n := sumN_mono (fun k hk => by
  show (if mA M 19 k = 2 then 1 else 0) ≤ (if mA N 19 k = 2 then 1 else 0)
  by_cases e : mA M 19 k = 2
  · rw [if_pos e, if_pos (h k hk e)]; exact Nat.le_refl _
  · rw [if_neg e]; exact Nat.zero_le _)
theorem dn_D (h : Dd N M n) : dnN M n ≤ dnN N n := dn_mono (fun k hk e => by
  rw [(h k hk).1 (by rw [e]; decide) (by rw [e]; decide) (by rw [e]; decide)]; exact e)
/-- beside the orders -/
def Ha (M : sM) (n e : Nat) : Prop := Qa M n ∧ Hs M ∧ 0 ≤ (mI M 784).toInt ∧ M11 M ∧ Pt M e
def Hv (M : sM) (n e : Nat) : Prop := Kv M n ∧ Ha M n e ∧ (∀ k, k < n → ¬ mA M 19 k = 4) ∧ tN M ≤ 1899 + 2 * dnN M n + 18 * ouN M
theorem Ha_go (h : Ha M n e) (he : e ≤ 600) (hd : Dd N M n) (hg : Gk N M) : Ha N n e := by
  obtain ⟨h1, h2, h3, h4, h5⟩ := h
  obtain ⟨⟨u1, u2, u3⟩, u4⟩ := hg
  refine ⟨Qa_go h1 hd (u1 10 rfl) (u1 12 rfl) (u1 13 rfl) (u2 4 (by decide) (by decide)), Hs_eq (u1 7 rfl) h2, ?_, ?_, u4 e he h5⟩
  · rw [u3 784 (by decide) (by decide)]; exact h3
  · intro q hq
    rw [u1 11 rfl]; exact h4 q hq
theorem Gk_ou (hg : Gk N M) : ouN N = ouN M := by
  unfold ouN
  rw [hg.1.2.1 2 (by decide) (by decide)]
theorem no4_D (h : Dd N M n) (h4 : ∀ k, k < n → ¬ mA M 19 k = 4) : ∀ k, k < n → ¬ mA N 19 k = 4 := fun k hk g => h4 k hk ((h k hk).2 g)
theorem Hv_go (h : Ha M n e) (he : e ≤ 600) (hK : Kv N n) (hd : Dd N M n) (hg : Gk N M) (h4 : ∀ k, k < n → ¬ mA N 19 k = 4) (hb : tN M ≤ 1899 + 2 * dnN M n + 18 * ouN M) (ht : tN N ≤ max (tN M) 1899) : Hv N n e := by
  have h1 := dn_D hd
  have h2 := Gk_ou hg
  exact ⟨hK, Ha_go h he hd hg, h4, by omega⟩
theorem Pt_le {e' : Nat} (h : Pt M e) (he : e ≤ e') : Pt M e' := ⟨Po_le h.1 (Nat.mul_le_mul_left 200 (Nat.add_le_add_left he _)), h.2⟩
theorem Hv_e (h : Hv M n e) : Hv M n (e + 1) := ⟨h.1, ⟨h.2.1.1, h.2.1.2.1, h.2.1.2.2.1, h.2.1.2.2.2.1, Pt_le h.2.1.2.2.2.2 (Nat.le_succ e)⟩, h.2.2⟩
/-- what the calls need -/
theorem Hv_Pv (h : Hv M n e) (he : e ≤ 600) : Pv M := by
  obtain ⟨T, hT, hT4⟩ := h.1.2.2.2.2
  have e1 := tN_T hT hT4
  exact Po_Pv h.2.1.2.2.2.2.1 (by omega) h.2.1.2.2.2.1
theorem rc_dn : rcN M n + dnN M n ≤ n := by
  have h : ∀ k, sumN (fun k => if mA M 19 k = 1 then 1 else 0) k + sumN (fun k => if mA M 19 k = 2 then 1 else 0) k ≤ k := fun k => by
    induction k with
    | zero => exact Nat.le_refl 0
    | succ k ih =>
      have e1 : sumN (fun k => if mA M 19 k = 1 then 1 else 0) (k + 1) = sumN (fun k => if mA M 19 k = 1 then 1 else 0) k + (if mA M 19 k = 1 then 1 else 0) := rfl
      have e2 : sumN (fun k => if mA M 19 k = 2 then 1 else 0) (k + 1) = sumN (fun k => if mA M 19 k = 2 then 1 else 0) k + (if mA M 19 k = 2 then 1 else 0) := rfl
      rw [e1, e2]
      by_cases c1 : mA M 19 k = 1
      · rw [if_pos c1, if_neg (by rw [c1]; decide)]; omega
      · rw [if_neg c1]
        split <;> omega
  exact h n
theorem Hv_T (h : Hv M n e) : tN M ≤ 2407 ∧ tN M + 2 * rcN M n ≤ 2807 ∧ mI M 801 = io (tN M) := by
  obtain ⟨T, hT, hT4⟩ := h.1.2.2.2.2
  have e1 := tN_T hT hT4
  have h1 := h.2.2.2
  have h2 := rc_dn (M := M) (n := n)
  have h3 := ouN_le (M := M)
  have h4 := h.1.2.1.2.1
  exact ⟨by omega, by omega, by rw [e1]; exact hT⟩
/-! calls that change little -/
/-- what is the same of a state -/
theorem Kv_cgT (h : Kv M n) (hA : ∀ q, 12 ≤ q → q ≤ 19 → mA N q = mA M q) (h3 : ∀ c, c < 3 → 0 ≤ mA N 3 c) (hB : mB N 4 = mB M 4) (hI : ∀ F, (F = 786 ∨ F = 800) → mI N F = mI M F) (hT : mI N 801 = io T) (hT4 : T < 4096) : Kv N n := by
  have K0 : Kv (mIw (mAf N 3 (mA M 3)) 801 (mI M 801)) n := Kv_cg (M := M) (fun q k hq => by
    rcases hq with hq | hq
    · rw [hq]
      show (if 3 = 3 then mA M 3 k else mA N 3 k) = mA M 3 k
      exact if_pos rfl
    · show (if q = 3 then mA M 3 k else mA N q k) = mA M q k
      rw [if_neg (by omega), hA q (by omega) (by omega)]) (fun k _ => by
      show mB N 4 k = mB M 4 k
      rw [hB]) ((jI (by decide)).trans (hI 786 (by omega))) ((jI (by decide)).trans (hI 800 (by omega))) mI_s h
  obtain ⟨⟨⟨j1, j2, j3, j4, j5, j6⟩, jSd⟩, jR, jQ, jl, jT⟩ := K0
  exact ⟨⟨⟨fun k hk => j1 k hk, j2, j3, h3, j5, j6⟩, jSd⟩, jR, jQ, jl, T, hT, hT4⟩
theorem Hv_cg (h : Hv M n e) (hA : ∀ q, (q = 6 ∨ q = 7 ∨ q = 10 ∨ q = 11 ∨ (12 ≤ q ∧ q ≤ 19) ∨ q = 22 ∨ q = 23 ∨ q = 25) → mA N q = mA M q) (h3 : ∀ c, c < 3 → 0 ≤ mA N 3 c) (hB : ∀ q, (q = 2 ∨ q = 4) → mB N q = mB M q) (hI : ∀ F, (F = 784 ∨ F = 786 ∨ F = 800 ∨ F = 801) → mI N F = mI M F) : Hv N n e := by
  obtain ⟨hK, ⟨g1, g2, g3, g4, g5⟩, hn4, hb⟩ := h
  obtain ⟨T, hT, hT4⟩ := hK.2.2.2.2
  have K1 : Kv N n := Kv_cgT hK (fun q h1 h2 => hA q (by omega)) h3 (hB 4 (Or.inr rfl)) (fun F hF => hI F (by omega)) ((hI 801 (by omega)).trans hT) hT4
  have d0 : Dd N M n := Dd_eq (hA 19 (by omega))
  refine ⟨K1, ⟨Qa_go g1 d0 (hA 10 (by omega)) (hA 12 (by omega)) (hA 13 (by omega)) (hB 4 (Or.inr rfl)), Hs_eq (hA 7 (by omega)) g2, by rw [hI 784 (by omega)]; exact g3, fun q hq => by rw [hA 11 (by omega)]; exact g4 q hq, Pt_cg g5 (hA 6 (by omega)) (hA 22 (by omega)) (hA 23 (by omega)) (hA 25 (by omega)) (hB 2 (Or.inl rfl)) (hI 801 (by omega))⟩, fun k hk => by rw [hA 19 (by omega)]; exact hn4 k hk, ?_⟩
  have e1 : tN N = tN M := by unfold tN; rw [hI 801 (by omega)]
  have e2 : dnN N n = dnN M n := by unfold dnN; rw [hA 19 (by omega)]
  have e3 : ouN N = ouN M := by unfold ouN; rw [hB 2 (Or.inl rfl)]
  rw [e1, e2, e3]
  exact hb
theorem Hv_3 (h : Hv M n e) : ∀ c, c < 3 → 0 ≤ mA M 3 c := h.1.1.1.2.2.2.1
theorem Hv_768 (h : Hv M n e) : Hv (mIw M 768 v) n e := Hv_cg h (fun _ _ => rfl) (Hv_3 h) (fun _ _ => rfl) (fun F hF => if_neg (by omega))
theorem Hv_m0 (h : Hv M n e) : Hv (m0 M) n e := Hv_768 h
end S99zk
