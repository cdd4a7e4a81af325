/-! what an order that comes leaves -/
section S81
variable {t t' t0 : sT} {M M' M0 N : sM} {n T A B b c m o k x y K w f v j : Nat} {p a d sz : Int32} {s z : Bool} {L L' l : List Nat} {P P' : Nat → Bool} {y0 y1 y2 : sV} {Q : sRs → sT → Prop}
theorem fin_yes (h : mA N 15 o = 0) : finF N o = mAw (mAw N 19 o 2) 17 o 0 := by unfold finF; rw [decide_eq_true h]; rfl
theorem st_19 : mA (mAw (mAw N 19 o a) 17 o 0) 19 k = if k = o then a else mA N 19 k := by
  by_cases e : k = o
  · rw [if_pos e, e]; exact if_pos ⟨rfl, rfl⟩
  · rw [if_neg e]; exact aw_o (M := N) (B := 19) (v := a) e
theorem Jv_st (h : Jv N n) (ho : o < n) (ha : a = 2 ∨ a = 3) : Jv (mAw (mAw N 19 o a) 17 o 0) n := by
  obtain ⟨e, f, h1, h2, h3, h4, h5, h6, h7⟩ := h.1.1 o ho
  have a1 : ¬ a = 1 := by rcases ha with g | g <;> rw [g] <;> decide
  have aw : wtN a = 0 := by rcases ha with g | g <;> rw [g] <;> rfl
  refine ⟨?_, Sd_mono h.2 (fun k h1 => ?_)⟩
  · refine Iv_up h.1 ho (show mI (mAw (mAw N 19 o a) 17 o 0) 800 = io (stN N) from h.1.2.1) (Nat.le_refl _) (fun k _ hn => ⟨rfl, aw_o (M := mAw N 19 o a) hn, rfl, aw_o (M := N) (B := 19) (v := a) hn⟩) rfl rfl rfl ?_ ?_
    · rw [st_19, if_pos rfl]
      exact ⟨e, f, h1, h2, h3, h4, h5, h6, fun q => absurd q a1⟩
    · rw [st_19, if_pos rfl, aw]
      show stN N + (lfN N o + 0) ≤ _
      omega
  · rw [st_19] at h1
    by_cases e : k = o
    · rw [if_pos e] at h1; exact absurd h1 a1
    · rw [if_neg e] at h1; exact ⟨h1, rfl⟩
theorem Jv_fin (h : Jv N n) (ho : o < n) : Jv (finF N o) n := by
  by_cases e : mA N 15 o = 0
  · rw [fin_yes e]; exact Jv_st h ho (Or.inl rfl)
  · rw [fin_no e]; exact h
theorem rs_19 : mA (rsF N o) 19 k = if k = o then 1 else mA N 19 k := by
  show mA (mAw N 19 o 1) 19 k = _
  by_cases e : k = o
  · rw [if_pos e, e]; exact if_pos ⟨rfl, rfl⟩
  · rw [if_neg e]; exact aw_o (M := N) (B := 19) (v := 1) e
theorem rs_18 : mA (rsF N o) 18 o = mI N 800 + 1 := if_pos ⟨rfl, rfl⟩
theorem rs_17 : mA (rsF N o) 17 o = mnc (mA N 16 o) (mA N 15 o) := if_pos ⟨rfl, rfl⟩
theorem rs_o {q : Nat} (h : ¬ k = o) : mA (rsF N o) q k = mA N q k := (sh_o (s := true) h).trans (aw_o h)
theorem Jv_rs (h : Jv N n) (ho : o < n) (h19 : mA N 19 o = 4) (hl1 : 1 ≤ lfN N o) : Jv (rsF N o) n := by
  obtain ⟨e, f, h1, h2, h3, h4, h5, h6, h7⟩ := h.1.1 o ho
  have h0 := Iv_st h.1
  have e8 : mI N 800 + 1 = io (stN N + 1) := by rw [h.1.2.1]; exact io_succ
  have ee : lfN N o = e := by unfold lfN; rw [h1]; exact nn_io (by omega)
  have w1 : wtN (1 : Int32) = 0 := rfl
  have w4 : wtN (4 : Int32) = 1 := rfl
  refine ⟨?_, ?_⟩
  · refine Iv_up (st' := stN N + 1) h.1 ho (show mI (rsF N o) 800 = _ from e8) (Nat.le_succ _) (fun k _ hn => ⟨rs_o hn, rs_o hn, rs_o hn, rs_o hn⟩) rfl rfl rfl ?_ ?_
    · rw [rs_19, if_pos rfl, rs_18, rs_17, e8]
      show Io (stN N + 1) (mA N 15 o) (mA N 16 o) 1 (mnc (mA N 16 o) (mA N 15 o)) (io (stN N + 1))
      rw [h1, h3, mnc_io (by omega) (by omega)]
      refine ⟨e, f, rfl, h2, rfl, h4, h5, ?_, fun _ => ⟨(io_pos (by omega)).mpr (Nat.succ_pos _), min f e, rfl, by omega, by omega⟩⟩
      rw [io_int (by omega)]
      exact Int.le_refl _
    · rw [rs_19, if_pos rfl, h19, w1, w4]
      show stN N + 1 + (lfN N o + 0) ≤ _
      omega
  · have new : ∀ k, k < n → ¬ k = o → ¬ mA (rsF N o) 18 k = mA (rsF N o) 18 o := fun k hk hn e2 => by
      rw [rs_o hn, rs_18, e8] at e2
      obtain ⟨_, _, _, _, _, _, _, g, _⟩ := h.1.1 k hk
      rw [e2, io_int (by omega)] at g
      omega
    intro u w hu hw g1 g2 eq
    by_cases e1 : u = o
    · by_cases e2 : w = o
      · rw [e1, e2]
      · rw [e1] at eq
        exact absurd eq.symm (new w hw e2)
    · by_cases e2 : w = o
      · rw [e2] at eq
        exact absurd eq (new u hu e1)
      · rw [rs_o e1] at g1 eq
        rw [rs_o e2] at g2 eq
        exact h.2 u w hu hw g1 g2 eq
theorem po_J (h : Jv N n) : ∀ K, K ≤ n → Jv (poL N n K) n
  | 0, _ => h
  | K + 1, hK => by
    have e : poL N n (K + 1) = poS (poL N n K) n K := rfl
    rw [e, poS_e]
    have i := po_J h K (by omega)
    cases pq (poL N n K) K
    · exact i
    · exact Jv_cn i (by omega)
/-- beside o: what rests doesn't wait again, what doesn't rest stays -/
def Ox (M N : sM) (n o : Nat) : Prop := Ot M N o ∧ ∀ k, k < n → ¬ k = o → nz (mA M 19 k) → nz (mA N 19 k)
theorem Ox.refl (M : sM) : Ox M M n o := ⟨Ot.refl M, fun _ _ _ h => h⟩
theorem Ox.trans (h1 : Ox M M' n o) (h2 : Ox M' N n o) : Ox M N n o := ⟨h1.1.trans h2.1, fun k hk hn h => h2.2 k hk hn (h1.2 k hk hn h)⟩
theorem Ox_o (h19 : ∀ k, ¬ k = o → mA N 19 k = mA M 19 k) (h15 : ∀ k, ¬ k = o → mA N 15 k = mA M 15 k) (hB : mB N 4 = mB M 4) : Ox M N n o := ⟨⟨fun k hk _ => ⟨h19 k hk, h15 k hk⟩, hB⟩, fun k _ hn h => by rw [h19 k hn]; exact h⟩
theorem po_19 : mA (poF N n) 19 k = mA N 19 k ∨ (mA N 19 k = 1 ∧ mA (poF N n) 19 k = 3) := by
  have e : poF N n = poL N n n := rfl
  rw [e, po_wd, wd_19]
  cases h : (decide (k < n) && pq N k) with
  | false => exact Or.inl (if_neg Bool.false_ne_true)
  | true =>
    refine Or.inr ⟨?_, if_pos rfl⟩
    unfold pq at h
    rw [Bool.and_eq_true, Bool.and_eq_true, Bool.and_eq_true] at h
    have h5 := h.2.2
    rw [Bool.and_eq_true] at h5
    exact of_decide_eq_true h5.2
theorem Ox_po : Ox N (poF N n) n o := by
  have e : poF N n = poL N n n := rfl
  have e15 : mA (poF N n) 15 = mA N 15 := by rw [e, po_wd, wd_o (by decide) (by decide)]
  refine ⟨⟨fun k _ hs => ?_, by rw [e, po_wd]; rfl⟩, fun k _ _ h => ?_⟩
  · rcases po_19 (N := N) (n := n) (k := k) with g | g
    · exact ⟨g, by rw [e15]⟩
    · exact absurd g.1 hs
  · rcases po_19 (N := N) (n := n) (k := k) with g | g
    · rw [g]; exact h
    · exact Or.inr (Or.inr g.2)
theorem mtR_all (hJ : Jv M n) (hR : Ri M n) (ho : o < n) (hs : mA M 19 o = 0 ∨ mA M 19 o = 4) (hT : mI M 801 = io T) (hT4 : T < 4096) :
    Jv (mtR M n o) n ∧ mA (mtR M n o) 19 o = 4 ∧ Ox M (mtR M n o) n o ∧ Ri (mtR M n o) n ∧ ∃ T', mI (mtR M n o) 801 = io T' ∧ T ≤ T' ∧ (T' ≤ T ∨ T' ≤ 1899) := by
  have hJ1 := Jv_4 hJ ho hs
  have hR1 : Ri (mAw M 19 o 4) n := (Fr_A rfl (Fr.refl M) : Fr (mAw M 19 o 4) M).ri hR
  have hO1 : Ox M (mAw M 19 o 4) n o := Ox_o (fun k hk => aw_o hk) (fun k _ => rfl) rfl
  unfold mtR
  cases decide (mA M 0 (oB M o) = 2) with
  | false => exact ⟨hJ1, w4_19, hO1, hR1, T, hT, Nat.le_refl T, Or.inl (Nat.le_refl T)⟩
  | true =>
    obtain ⟨g1, g2, g3, g4, g5⟩ := mt_all ho (fun M' h hl => cs_R h.1 h.2.1 ho) 305 (mAw M 19 o 4) T hJ1 hR1 w4_19 hT hT4
    have g6 := mt_Rz ho 305 (mAw M 19 o 4) hJ1 hR1 w4_19 ⟨T, hT, hT4⟩
    exact ⟨g1, g2, hO1.trans ⟨g3, fun k hk _ h => g6 k hk h⟩, g4, g5⟩
end S81
