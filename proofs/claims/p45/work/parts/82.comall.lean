/-! an order that comes: all that it keeps -/
section S82
variable {t t' t0 : sT} {M M' M0 N : sM} {n T A B b c m o k x y K w f v j : Nat} {p a d sz : Int32} {s z : Bool} {L L' l : List Nat} {P P' : Nat → Bool} {y0 y1 y2 : sV} {Q : sRs → sT → Prop}
/-- what holds at the head of each turn -/
def Kv (M : sM) (n : Nat) : Prop := Jv M n ∧ Ri M n ∧ Qn M n ∧ (∀ k, k < n → mA M 19 k = 0 → 1 ≤ lfN M k) ∧ ∃ T, mI M 801 = io T ∧ T < 4096
theorem Fr_finF (f : Fr M M0) : Fr (finF M o) M0 := by
  unfold finF
  cases decide (mA M 15 o = 0)
  · exact f
  · exact Fr_A rfl (Fr_A rfl f)
theorem Fr_seF (f : Fr M M0) : Fr (seF M o) M0 := by
  unfold seF
  cases decide (0 < mA M 15 o)
  · exact f
  · cases mB M 5 o
    · exact Fr_rsF f
    · exact Fr_cnF f
theorem se_801 : mI (seF M o) 801 = mI M 801 := by
  unfold seF
  cases decide (0 < mA M 15 o)
  · rfl
  · cases mB M 5 o <;> rfl
theorem po_801 : mI (poF M n) 801 = mI M 801 := by
  have e : poF M n = poL M n n := rfl
  rw [e, po_wd]; rfl
theorem se_all (hJ : Jv N n) (ho : o < n) (h19 : mA N 19 o = 4) : Jv (seF (finF N o) o) n ∧ nz (mA (seF (finF N o) o) 19 o) ∧ Ox N (seF (finF N o) o) n o := by
  obtain ⟨hlf, hlf1⟩ := Iv_lf hJ.1 ho
  by_cases e : mA N 15 o = 0
  · have e2 : seF (finF N o) o = mAw (mAw N 19 o 2) 17 o 0 := by
      rw [fin_yes e]
      unfold seF
      have e3 : mA (mAw (mAw N 19 o 2) 17 o 0) 15 o = 0 := e
      rw [e3]
      rfl
    rw [e2]
    refine ⟨Jv_st hJ ho (Or.inl rfl), ?_, Ox_o (fun k hk => by rw [st_19, if_neg hk]) (fun k _ => rfl) rfl⟩
    rw [st_19, if_pos rfl]
    exact Or.inr (Or.inl rfl)
  · have hl1 : 1 ≤ lfN N o := by
      rcases Nat.eq_zero_or_pos (lfN N o) with g | g
      · rw [hlf, g] at e; exact absurd rfl e
      · exact g
    have hp : 0 < mA N 15 o := by rw [hlf]; exact (io_pos (by omega)).mpr hl1
    rw [fin_no e]
    unfold seF
    rw [decide_eq_true hp]
    cases mB N 5 o with
    | true =>
      have e2 : cnF N o = mAw (mAw N 19 o 3) 17 o 0 := rfl
      show Jv (cnF N o) n ∧ nz (mA (cnF N o) 19 o) ∧ Ox N (cnF N o) n o
      rw [e2]
      refine ⟨Jv_st hJ ho (Or.inr rfl), ?_, Ox_o (fun k hk => by rw [st_19, if_neg hk]) (fun k _ => rfl) rfl⟩
      rw [st_19, if_pos rfl]
      exact Or.inr (Or.inr rfl)
    | false =>
      show Jv (rsF N o) n ∧ nz (mA (rsF N o) 19 o) ∧ Ox N (rsF N o) n o
      refine ⟨Jv_rs hJ ho h19 hl1, ?_, Ox_o (fun k hk => rs_o hk) (fun k hk => rs_o hk) rfl⟩
      rw [rs_19, if_pos rfl]
      exact Or.inl rfl
theorem com_all (hK : Kv M n) (ho : o < n) (hs : mA M 19 o = 0 ∨ mA M 19 o = 4) :
    Kv (comF M n o) n ∧ (∀ k, k < n → ¬ k = o → (mA (comF M n o) 19 k = 0 ↔ mA M 19 k = 0)) ∧ nz (mA (comF M n o) 19 o) ∧ ∀ T, mI M 801 = io T → T < 4096 → ∃ T', mI (comF M n o) 801 = io T' ∧ T ≤ T' ∧ (T' ≤ T ∨ T' ≤ 1899) := by
  obtain ⟨hJ, hR, hQ, hW, T, hT, hT4⟩ := hK
  obtain ⟨a1, a2, a3, a4, T', a5, a6, a7⟩ := mtR_all hJ hR ho hs hT hT4
  obtain ⟨b1, b2, b3⟩ := se_all a1 ho a2
  have e : comF M n o = poF (seF (finF (mtR M n o) o) o) n := rfl
  have hO : Ox M (comF M n o) n o := by rw [e]; exact (a3.trans b3).trans Ox_po
  have hnz : nz (mA (comF M n o) 19 o) := by
    rw [e]
    rcases po_19 (N := seF (finF (mtR M n o) o) o) (n := n) (k := o) with g | g
    · rw [g]; exact b2
    · exact Or.inr (Or.inr g.2)
  have h801 : mI (comF M n o) 801 = mI (mtR M n o) 801 := by rw [e, po_801, se_801, fin_801]
  have hst : ∀ k, k < n → ¬ k = o → (mA (comF M n o) 19 k = 0 ↔ mA M 19 k = 0) := fun k hk hn => by
    by_cases h1 : mA M 19 k = 1
    · have g := nz_0 (hO.2 k hk hn (Or.inl h1))
      exact ⟨fun h => absurd h g, fun h => by rw [h] at h1; exact absurd h1 (by decide)⟩
    · rw [(hO.1.1 k hn h1).1]
  have hRc : Ri (comF M n o) n := by
    rw [e]
    exact (Fr_poF (Fr_seF (Fr_finF (Fr.refl (mtR M n o)))) : Fr (poF (seF (finF (mtR M n o) o) o) n) (mtR M n o)).ri a4
  have hJc : Jv (comF M n o) n := by
    rw [e]
    exact po_J b1 n (Nat.le_refl n)
  refine ⟨⟨hJc, hRc, fun k hk hb h0 => ?_, fun k hk h0 => ?_, T', h801.trans a5, by omega⟩, hst, hnz, fun T2 h2 h24 => ?_⟩
  · by_cases hn : k = o
    · rw [hn] at h0; exact nz_0 hnz h0
    · exact hQ k hk (by rw [← hO.1.2]; exact hb) ((hst k hk hn).mp h0)
  · by_cases hn : k = o
    · rw [hn] at h0; exact absurd h0 (nz_0 hnz)
    · have g0 := (hst k hk hn).mp h0
      have g1 := hW k hk g0
      have g2 := (hO.1.1 k hn (by rw [g0]; decide)).2
      unfold lfN at g1 ⊢
      rw [g2]; exact g1
  · have e9 : T2 = T := by
      rw [hT] at h2
      exact ((io_inj (by omega) (by omega)).mp h2).symm
    rw [e9]
    exact ⟨T', h801.trans a5, a6, a7⟩
/-- how many orders wait -/
def wt0 (M : sM) (n : Nat) : Nat := sumN (fun k => if mA M 19 k = 0 then 1 else 0) n
theorem wt0_com (hst : ∀ k, k < n → ¬ k = o → (mA N 19 k = 0 ↔ mA M 19 k = 0)) (ho : o < n) (hs : mA M 19 o = 0) (hnz : nz (mA N 19 o)) : wt0 N n < wt0 M n := by
  have hz := nz_0 hnz
  refine sumN_lt (x := o) (fun k hk => ?_) ho ?_
  · show (if mA N 19 k = 0 then 1 else 0) ≤ (if mA M 19 k = 0 then 1 else 0)
    by_cases e : k = o
    · rw [e, if_neg hz]; exact Nat.zero_le _
    · by_cases g : mA M 19 k = 0
      · rw [if_pos g, if_pos ((hst k hk e).mpr g)]; exact Nat.le_refl _
      · rw [if_neg (fun q => g ((hst k hk e).mp q))]; exact Nat.zero_le _
  · show (if mA N 19 o = 0 then 1 else 0) < (if mA M 19 o = 0 then 1 else 0)
    rw [if_neg hz, if_pos hs]
    exact Nat.zero_lt_one
theorem wt0_le (hst : ∀ k, k < n → ¬ k = o → (mA N 19 k = 0 ↔ mA M 19 k = 0)) (hnz : nz (mA N 19 o)) : wt0 N n ≤ wt0 M n := by
  have hz := nz_0 hnz
  refine sumN_mono (fun k hk => ?_)
  show (if mA N 19 k = 0 then 1 else 0) ≤ (if mA M 19 k = 0 then 1 else 0)
  by_cases e : k = o
  · rw [e, if_neg hz]; exact Nat.zero_le _
  · by_cases g : mA M 19 k = 0
    · rw [if_pos g, if_pos ((hst k hk e).mpr g)]; exact Nat.le_refl _
    · rw [if_neg (fun q => g ((hst k hk e).mp q))]; exact Nat.zero_le _
end S82
