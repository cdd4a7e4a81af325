/-! the loop of steps in the reference -/
section S76
variable {t t' t0 : sT} {M M' M0 N : sM} {n T A B b c m o k x y K w f v : Nat} {p a d sz : Int32} {s z : Bool} {L L' l : List Nat} {V : TV} {y0 y1 y2 : sV} {Q : sRs → sT → Prop}
def T4 (M N : sM) (K : Nat) : Prop := ∀ T, mI M 801 = io T → ∃ T', mI N 801 = io T' ∧ T ≤ T' ∧ T' ≤ T + K
theorem T4_eq (h : mI N 801 = mI M 801) : T4 M N K := fun T e => ⟨T, h.trans e, Nat.le_refl T, Nat.le_add_right T K⟩
theorem fl_801 : mI (flF M x a) 801 = mI M 801 := (Fc_flF (Fc.refl M)).2.2.2.2.2.2.2.2
theorem re_801 : mI (reF M k b p) 801 = mI M 801 := by rw [reF_eq]; rfl
theorem flL_801 : ∀ {l V : List Nat} {M : sM}, mI (flL l V M) 801 = mI M 801
  | [], _, _ => rfl
  | x :: l, [], _ => rfl
  | x :: l, v :: V, M => by
    show mI (flL l V (if 0 < v then flF M x (io v) else M)) 801 = mI M 801
    rw [flL_801]
    split
    · exact fl_801
    · rfl
theorem flS_801 : ∀ {l : List Nat} {M : sM}, mI (flS sz l M) 801 = mI M 801
  | [], _ => rfl
  | x :: l, M => by
    show mI (flS sz l (flF M x sz)) 801 = mI M 801
    rw [flS_801]
    exact fl_801
theorem rfL_801 : ∀ {l : List Nat} {M : sM}, mI (rfL M0 n l M) 801 = mI M 801
  | [], _ => rfl
  | x :: l, M => by
    show mI (rfL M0 n l (reF M n (oB M0 x) (mA M0 14 x))) 801 = mI M 801
    rw [rfL_801]
    exact re_801
theorem own_801 : ∀ {l : List Nat} {M : sM}, mI (ownF m l M) 801 = mI M 801
  | [], _ => rfl
  | x :: l, M => by
    show mI (ownF m l (bif decide (oM M x = m) then cnF M x else M)) 801 = mI M 801
    rw [own_801]
    cases decide (oM M x = m) <;> rfl
theorem mkL_801 : ∀ (l V : List Nat) (M : sM) (T : Nat), mI M 801 = io T → ∃ T', mI (mkL M0 o p l V M T) 801 = io T' ∧ T ≤ T' ∧ T' ≤ T + 2 * l.length
  | [], V, M, T, h => ⟨T, h, Nat.le_refl T, Nat.le_refl T⟩
  | x :: l, [], M, T, h => ⟨T, h, Nat.le_refl T, Nat.le_add_right T _⟩
  | x :: l, v :: V, M, T, h => by
    have hd := dbT_le (b := oB M0 o) (T := T)
    have e : mkL M0 o p (x :: l) (v :: V) M T = if 0 < v then mkL M0 o p l V (dbF M T (oB M0 o) (dbM M0 o x) (dbS M0 o x) p (io v)) (dbT (oB M0 o) T) else mkL M0 o p l V M T := rfl
    have hl : (x :: l).length = l.length + 1 := rfl
    rw [e, hl]
    by_cases h0 : 0 < v
    · rw [if_pos h0]
      obtain ⟨T', i1, i2, i3⟩ := mkL_801 l V (dbF M T (oB M0 o) (dbM M0 o x) (dbS M0 o x) p (io v)) (dbT (oB M0 o) T) dbF_T
      exact ⟨T', i1, by omega, by omega⟩
    · rw [if_neg h0]
      obtain ⟨T', i1, i2, i3⟩ := mkL_801 l V M T h
      exact ⟨T', i1, by omega, by omega⟩
theorem mlG_801 : ∀ (l : List Nat) (k m : Nat) (M : sM) (T : Nat), mI M 801 = io T → ∃ T', mI (mlG M0 o sz z V k m l M T) 801 = io T' ∧ T ≤ T' ∧ T' ≤ T + l.length
  | [], k, m, M, T, h => ⟨T, h, Nat.le_refl T, Nat.le_refl T⟩
  | x :: l, k, m, M, T, h => by
    have e : mlG M0 o sz z V k m (x :: l) M T = mlG M0 o sz z V (k + 1) (bif z then m else oM M0 x) l (tlM M0 o sz z V k m x M T) (tlT V x T) := rfl
    have hl : (x :: l).length = l.length + 1 := rfl
    rw [e, hl]
    have h2 : mI (tlM M0 o sz z V k m x M T) 801 = io (tlT V x T) ∧ T ≤ tlT V x T ∧ tlT V x T ≤ T + 1 := by
      unfold tlM tlT
      cases V.2.2.1 x with
      | none => exact ⟨h, Nat.le_refl T, Nat.le_succ T⟩
      | some d => exact ⟨mk_T, Nat.le_succ T, Nat.le_refl _⟩
    obtain ⟨T', i1, i2, i3⟩ := mlG_801 l (k + 1) (bif z then m else oM M0 x) (tlM M0 o sz z V k m x M T) (tlT V x T) h2.1
    exact ⟨T', i1, by omega, by omega⟩
theorem leg_Gd (hJ : Jv M n) (hR : Ri M n) (ho : o < n) (hw : bwF M n (oB M o) (mB M 3 o) = some w) : w < 3 ∧ Gd M n o w (wprF M n (oB M o) (mB M 3 o) w) (legL M n o w) := by
  have hb := gb5 hR ho
  obtain ⟨LL, hlg, hw3, epr, hcase⟩ := step_some hJ.1 hR ho hw
  refine ⟨hw3, ?_⟩
  by_cases hsh : w = 0 ∧ mB M 0 (oB M o) = true
  · obtain ⟨h0, hsh⟩ := hsh
    subst h0
    obtain ⟨l, hl⟩ := Cl_ex hJ (oB M o) (!(mB M 3 o))
    have ehd := bsF_hd hl.1 hl.2
    rw [(lgO_0 hb hlg).2.1] at ehd
    cases l with
    | nil => cases ehd
    | cons x l =>
      obtain ⟨g1, g2, g3⟩ := step_lv hJ.1 hR ho hsh hlg hl
      rw [g1, epr, g2]
      exact g3
  · obtain ⟨g1, g2, g3⟩ := hcase hsh
    rw [g1, epr]
    exact g3
theorem cs_T (hJ : Jv M n) (hR : Ri M n) (ho : o < n) (hT : mI M 801 = io T) (hT4 : T < 1500) : ∃ T', mI (csM M n o) 801 = io T' ∧ T ≤ T' ∧ T' ≤ T + 400 := by
  have hn := hJ.1.2.2.2.2.2
  have hTn : tN M = T := by unfold tN; rw [hT]; exact nn_io (by omega)
  unfold csM
  cases hw : bwF M n (oB M o) (mB M 3 o) with
  | none => exact ⟨T, hT, Nat.le_refl T, by omega⟩
  | some w =>
    obtain ⟨hw3, hx, hnd, hne, hfar, hlen⟩ := leg_Gd hJ hR ho hw
    show ∃ T', mI (stpM M n o (wprF M n (oB M o) (mB M 3 o) w) (legL M n o w) (LgF M (oB M o) w (wprF M n (oB M o) (mB M 3 o) w) (legL M n o w)) (trF M n o w (wprF M n (oB M o) (mB M 3 o) w) (legL M n o w))) 801 = io T' ∧ T ≤ T' ∧ T' ≤ T + 400
    generalize wprF M n (oB M o) (mB M 3 o) w = p at *
    generalize legL M n o w = L at *
    have h200 := nd_len n L hnd (fun y hy => (hx y hy).1)
    cases hbad : badP M o p with
    | true => rw [(stp_bad hbad).1]; exact ⟨T, hT, Nat.le_refl T, by omega⟩
    | false =>
      cases hown : ownB M (oM M o) L with
      | true => rw [(stp_own hbad hown).1]; exact ⟨T, own_801.trans hT, Nat.le_refl T, by omega⟩
      | false =>
        cases hob : obF M n (LgF M (oB M o) w p L) (LgF M (oB M o) w p L).length with
        | some c => rw [(stp_h (tr := trF M n o w p L) hbad hown hob).1]; exact ⟨T, hT, Nat.le_refl T, by omega⟩
        | none =>
          rw [(stp_tr (tr := trF M n o w p L) hbad hown hob).1]
          unfold trF
          rw [hTn]
          by_cases hw0 : w = 0
          · rw [if_pos hw0]
            unfold cshF
            obtain ⟨T', i1, i2, i3⟩ := mkL_801 (M0 := M) (o := o) (p := p) L (portN (L.map (shN M)) (lfN M o)) M T hT
            refine ⟨T', ?_, i2, by omega⟩
            rw [re_801]
            exact (flL_801 (M := mkL M o p L (portN (L.map (shN M)) (lfN M o)) M T)).trans i1
          · rw [if_neg hw0]
            have h3 := (hlen (by omega)).1
            unfold wayF
            obtain ⟨T', i1, i2, i3⟩ := mlG_801 (M0 := M) (o := o) (sz := szF M L (mA M 15 o)) (z := (snd (oB M o)).isSome) (V := plV M (oB M o) false p L dV) L 0 (oM M o) M T hT
            refine ⟨T', ?_, i2, by omega⟩
            rw [rfL_801, re_801]
            exact (flS_801 (M := mlG M o (szF M L (mA M 15 o)) ((snd (oB M o)).isSome) (plV M (oB M o) false p L dV) 0 (oM M o) L M T)).trans i1
theorem fin_15 : mA (finF M o) 15 = mA M 15 := by unfold finF; cases decide (mA M 15 o = 0) <;> rfl
theorem fin_801 : mI (finF M o) 801 = mI M 801 := by unfold finF; cases decide (mA M 15 o = 0) <;> rfl
end S76
