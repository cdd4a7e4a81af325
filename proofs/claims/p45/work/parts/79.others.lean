/-! what a step leaves of the orders that don't rest -/
section S79
variable {t t' t0 : sT} {M M' M0 N : sM} {n T A B b c m o k x y K w f v j : Nat} {p a d sz : Int32} {s z : Bool} {L L' l : List Nat} {P P' : Nat → Bool} {y0 y1 y2 : sV} {Q : sRs → sT → Prop}
/-- the orders beside o that don't rest stay as they are -/
def Ot (M N : sM) (o : Nat) : Prop := (∀ k, ¬ k = o → ¬ mA M 19 k = 1 → mA N 19 k = mA M 19 k ∧ mA N 15 k = mA M 15 k) ∧ mB N 4 = mB M 4
theorem Ot.refl (M : sM) : Ot M M o := ⟨fun _ _ _ => ⟨rfl, rfl⟩, rfl⟩
theorem Ot.trans (h1 : Ot M M' o) (h2 : Ot M' N o) : Ot M N o := ⟨fun k hk hs => by
  obtain ⟨g1, g2⟩ := h1.1 k hk hs
  obtain ⟨g3, g4⟩ := h2.1 k hk (by rw [g1]; exact hs)
  exact ⟨g3.trans g1, g4.trans g2⟩, h2.2.trans h1.2⟩
theorem flL_B4 : ∀ {l V : List Nat} {M : sM}, mB (flL l V M) 4 = mB M 4
  | [], _, _ => rfl
  | x :: l, [], _ => rfl
  | x :: l, v :: V, M => by
    show mB (flL l V (if 0 < v then flF M x (io v) else M)) 4 = mB M 4
    rw [flL_B4]
    split
    · rw [fl_B]
    · rfl
theorem flS_B4 : ∀ {l : List Nat} {M : sM}, mB (flS sz l M) 4 = mB M 4
  | [], _ => rfl
  | x :: l, M => by
    show mB (flS sz l (flF M x sz)) 4 = mB M 4
    rw [flS_B4, fl_B]
theorem re_B4 : mB (reF M k b p) 4 = mB M 4 := by rw [reF_eq]; rfl
theorem re_15 : mA (reF M k b p) 15 = mA M 15 := by rw [reF_eq]; rfl
theorem rfL_all : ∀ {l : List Nat} {M : sM}, mB (rfL M0 n l M) 4 = mB M 4 ∧ mA (rfL M0 n l M) 19 = mA M 19 ∧ mA (rfL M0 n l M) 15 = mA M 15
  | [], _ => ⟨rfl, rfl, rfl⟩
  | x :: l, M => by
    have ih : mB (rfL M0 n l (reF M n (oB M0 x) (mA M0 14 x))) 4 = mB (reF M n (oB M0 x) (mA M0 14 x)) 4 ∧ mA (rfL M0 n l (reF M n (oB M0 x) (mA M0 14 x))) 19 = mA (reF M n (oB M0 x) (mA M0 14 x)) 19 ∧ mA (rfL M0 n l (reF M n (oB M0 x) (mA M0 14 x))) 15 = mA (reF M n (oB M0 x) (mA M0 14 x)) 15 := rfL_all
    exact ⟨ih.1.trans re_B4, ih.2.1.trans re_st, ih.2.2.trans re_15⟩
theorem own_B : ∀ {l : List Nat} {M : sM}, mB (ownF m l M) = mB M
  | [], _ => rfl
  | x :: l, M => by
    show mB (ownF m l (bif decide (oM M x = m) then cnF M x else M)) = mB M
    rw [own_B]
    cases decide (oM M x = m) <;> rfl
theorem Ot_csh {V : List Nat} (hx : ∀ y, y ∈ L → y < n ∧ mA M 19 y = 1) : Ot M (cshF M n T o p L V) o := by
  unfold cshF
  rw [mkL_self, flL_pt]
  refine ⟨fun k hk hs => ?_, ?_⟩
  · have hnl : ¬ k ∈ L := fun e => hs (hx k e).2
    refine ⟨?_, ?_⟩
    · rw [re_st]
      show mA (pt1 (flL L V M) (mkL M o p L V M T)) 19 k = mA M 19 k
      rw [pt1_rA rfl, flL_o hnl (by decide)]
    · rw [re_15, tk_o hk (by decide), pt1_rA rfl, flL_o hnl (by decide)]
  · rw [re_B4]
    exact flL_B4 (l := L) (V := V) (M := M)
theorem Ot_way {V : TV} (hx : ∀ y, y ∈ L → y < n ∧ mA M 19 y = 1) : Ot M (wayF M n T o p L V) o := by
  unfold wayF
  rw [mlG_self, flS_pt]
  generalize szF M L (mA M 15 o) = sz
  generalize mlG M o sz ((snd (oB M o)).isSome) V 0 (oM M o) L M T = N
  obtain ⟨g1, g2, g3⟩ := rfL_all (M0 := M) (n := n) (l := L) (M := reF (tkF (pt1 (flS sz L M) N) o sz) n (oB M o) p)
  refine ⟨fun k hk hs => ?_, ?_⟩
  · have hnl : ¬ k ∈ L := fun e => hs (hx k e).2
    refine ⟨?_, ?_⟩
    · rw [g2, re_st]
      show mA (pt1 (flS sz L M) N) 19 k = mA M 19 k
      rw [pt1_rA rfl, flS_o hnl (by decide)]
    · rw [g3, re_15, tk_o hk (by decide), pt1_rA rfl, flS_o hnl (by decide)]
  · rw [g1, re_B4]
    exact flS_B4 (sz := sz) (l := L) (M := M)
theorem Ot_own (hx : ∀ y, y ∈ L → y < n ∧ mA M 19 y = 1) : Ot M (ownF m L M) o := ⟨fun k _ hs => by
  rcases own_19 (m := m) (k := k) (l := L) (M := M) with g | g
  · exact ⟨g, by rw [ownF_15]⟩
  · exact absurd (hx k g.1).2 hs, by rw [own_B]⟩
theorem cs_Ot (hJ : Jv M n) (hR : Ri M n) (ho : o < n) : Ot M (csM M n o) o := by
  unfold csM
  cases hw : bwF M n (oB M o) (mB M 3 o) with
  | none => exact Ot.refl M
  | some w =>
    obtain ⟨hw3, hx, hnd, hne, hfar, hlen⟩ := leg_Gd hJ hR ho hw
    show Ot M (stpM M n o (wprF M n (oB M o) (mB M 3 o) w) (legL M n o w) (LgF M (oB M o) w (wprF M n (oB M o) (mB M 3 o) w) (legL M n o w)) (trF M n o w (wprF M n (oB M o) (mB M 3 o) w) (legL M n o w))) o
    generalize wprF M n (oB M o) (mB M 3 o) w = p at *
    generalize legL M n o w = L at *
    cases hbad : badP M o p with
    | true => rw [(stp_bad hbad).1]; exact Ot.refl M
    | false =>
      cases hown : ownB M (oM M o) L with
      | true => rw [(stp_own hbad hown).1]; exact Ot_own hx
      | false =>
        cases hob : obF M n (LgF M (oB M o) w p L) (LgF M (oB M o) w p L).length with
        | some c => rw [(stp_h (tr := trF M n o w p L) hbad hown hob).1]; exact ⟨fun _ _ _ => ⟨rfl, rfl⟩, rfl⟩
        | none =>
          rw [(stp_tr (tr := trF M n o w p L) hbad hown hob).1]
          unfold trF
          by_cases hw0 : w = 0
          · rw [if_pos hw0]; exact Ot_csh hx
          · rw [if_neg hw0]; exact Ot_way hx
theorem Ri_fr (hR : Ri M n) (h : Fr M' M) : Ri M' n := h.ri hR
/-- all that a loop of steps keeps -/
def Mv (M : sM) (n o : Nat) : Prop := Jv M n ∧ Ri M n ∧ mA M 19 o = 4 ∧ ∃ T, mI M 801 = io T ∧ T < 4096
theorem T4_801 {T' : Nat} (hT : mI M 801 = io T) (h : T < 4096) : tN M = T := by unfold tN; rw [hT]; exact nn_io (by omega)
theorem mt_all (ho : o < n) (hRi : ∀ M, Mv M n o → 1 ≤ lfN M o → Ri (csM M n o) n) : ∀ (f : Nat) (M : sM) (T : Nat), Jv M n → Ri M n → mA M 19 o = 4 → mI M 801 = io T → T < 4096 →
    Jv (mtF n o f M) n ∧ mA (mtF n o f M) 19 o = 4 ∧ Ot M (mtF n o f M) o ∧ Ri (mtF n o f M) n ∧ ∃ T', mI (mtF n o f M) 801 = io T' ∧ T ≤ T' ∧ (T' ≤ T ∨ T' ≤ 1899) := by
  intro f
  induction f with
  | zero => intro M T hJ hR h19 hT hT4; exact ⟨hJ, h19, Ot.refl M, hR, T, hT, Nat.le_refl T, Or.inl (Nat.le_refl T)⟩
  | succ f ih =>
    intro M T hJ hR h19 hT hT4
    by_cases hst : lfN M o = 0 ∨ 1500 ≤ tN M
    · rw [mtF_stop hst]
      exact ⟨hJ, h19, Ot.refl M, hR, T, hT, Nat.le_refl T, Or.inl (Nat.le_refl T)⟩
    · rw [mtF_go hst]
      have hTn : tN M = T := by unfold tN; rw [hT]; exact nn_io (by omega)
      have hT15 : T < 1500 := by omega
      have hl1 : 1 ≤ lfN M o := by omega
      obtain ⟨j1, j2, _, j4⟩ := cs_J hJ hR ho h19 hl1 (fun b s _ => Cl_ex hJ b s)
      obtain ⟨T', t1, t2, t3⟩ := cs_T hJ hR ho hT hT15
      have hO := cs_Ot hJ hR ho
      have hR2 := hRi M ⟨hJ, hR, h19, T, hT, hT4⟩ hl1
      cases hz : csZ M n o with
      | false => exact ⟨j1, j2, hO, hR2, T', t1, t2, Or.inr (by omega)⟩
      | true =>
        obtain ⟨k1, k2, k3, k4, T2, k5, k6, k7⟩ := ih (csM M n o) T' j1 hR2 j2 t1 (by omega)
        exact ⟨k1, k2, hO.trans k3, k4, T2, k5, by omega, Or.inr (by omega)⟩
end S79
