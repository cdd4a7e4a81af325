/-! a resting order never waits again; a step keeps the reference's numbers in their ranges -/
section S80
variable {t t' t0 : sT} {M M' M0 N : sM} {n T A B b c m o k x y K w f v j : Nat} {p a d sz : Int32} {s z : Bool} {L L' l : List Nat} {P P' : Nat → Bool} {y0 y1 y2 : sV} {Q : sRs → sT → Prop}
def nz (s : Int32) : Prop := s = 1 ∨ s = 2 ∨ s = 3
theorem nz_0 {s : Int32} (h : nz s) : ¬ s = 0 := by
  rcases h with h | h | h <;> rw [h] <;> decide
def Rz (M N : sM) (n : Nat) : Prop := ∀ k, k < n → nz (mA M 19 k) → nz (mA N 19 k)
theorem Rz.refl (M : sM) : Rz M M n := fun _ _ h => h
theorem Rz.trans (h1 : Rz M M' n) (h2 : Rz M' N n) : Rz M N n := fun k hk h => h2 k hk (h1 k hk h)
theorem Rz_eq (h : mA N 19 = mA M 19) : Rz M N n := fun k _ g => by rw [h]; exact g
theorem Rz_fl (h : Jv M n) (hx : x < n) (hs : mA M 19 x = 1) (hv1 : 1 ≤ v) (hv : v ≤ shN M x) : Rz M (flF M x (io v)) n := fun k hk g => by
  by_cases e : k = x
  · rw [e]
    obtain ⟨_, w⟩ := fl_val h.1 hx hs hv1 hv
    rcases w with ⟨_, u, _⟩ | ⟨_, u, _⟩
    · exact Or.inr (Or.inl u)
    · exact Or.inl u
  · rw [fl_o e (by decide)]; exact g
theorem Rz_flL : ∀ {l V : List Nat} {M : sM}, Jv M n → (∀ x, x ∈ l → x < n ∧ mA M 19 x = 1) → l.Nodup → leL V (l.map (shN M)) → Rz M (flL l V M) n
  | [], _, _, h, _, _, _ => Rz.refl _
  | x :: l, [], _, h, _, _, hV => by cases hV
  | x :: l, v :: V, M, h, hx, hN, hV => by
    have hN2 := List.nodup_cons.mp hN
    obtain ⟨h1, h2⟩ := hx x List.mem_cons_self
    have hv : v ≤ shN M x := hV.1
    have hV2 : leL V (l.map (shN M)) := hV.2
    have hne : ∀ y, y ∈ l → ¬ y = x := fun y hy e => hN2.1 (by rw [← e]; exact hy)
    have e : flL (x :: l) (v :: V) M = flL l V (if 0 < v then flF M x (io v) else M) := rfl
    rw [e]
    by_cases h0 : 0 < v
    · rw [if_pos h0]
      have i1 := Rz_flL (l := l) (V := V) (Jv_fl h h1 h2 h0 hv) (fun y hy => ⟨(hx y (List.mem_cons_of_mem x hy)).1, (st_flF (hne y hy)).trans (hx y (List.mem_cons_of_mem x hy)).2⟩) hN2.2 (by
        rw [List.map_congr_left (g := shN M) (fun y hy => shN_o (hne y hy))]
        exact hV2)
      exact (Rz_fl h h1 h2 h0 hv).trans i1
    · rw [if_neg h0]
      exact Rz_flL h (fun y hy => hx y (List.mem_cons_of_mem x hy)) hN2.2 hV2
theorem Rz_flS (hv1 : 1 ≤ v) : ∀ {l : List Nat} {M : sM}, Jv M n → (∀ x, x ∈ l → x < n ∧ mA M 19 x = 1 ∧ v ≤ shN M x) → l.Nodup → Rz M (flS (io v) l M) n
  | [], _, h, _, _ => Rz.refl _
  | x :: l, M, h, hx, hN => by
    have hN2 := List.nodup_cons.mp hN
    obtain ⟨h1, h2, h3⟩ := hx x List.mem_cons_self
    have hne : ∀ y, y ∈ l → ¬ y = x := fun y hy e => hN2.1 (by rw [← e]; exact hy)
    have e : flS (io v) (x :: l) M = flS (io v) l (flF M x (io v)) := rfl
    rw [e]
    have i1 := Rz_flS hv1 (l := l) (Jv_fl h h1 h2 hv1 h3) (fun y hy => ⟨(hx y (List.mem_cons_of_mem x hy)).1, (st_flF (hne y hy)).trans (hx y (List.mem_cons_of_mem x hy)).2.1, by rw [shN_o (hne y hy)]; exact (hx y (List.mem_cons_of_mem x hy)).2.2⟩) hN2.2
    exact (Rz_fl h h1 h2 hv1 h3).trans i1
theorem Rz_own : Rz M (ownF m l M) n := fun k _ g => by
  rcases own_19 (m := m) (k := k) (l := l) (M := M) with e | e
  · rw [e]; exact g
  · exact Or.inr (Or.inr e.2)
theorem Rz_csh (h : Jv M n) (hx : ∀ y, y ∈ L → y < n ∧ mA M 19 y = 1) (hN : L.Nodup) : Rz M (cshF M n T o p L (portN (L.map (shN M)) (lfN M o))) n := by
  have hS := Iv_Sh h.1 hx
  unfold cshF
  rw [mkL_self, flL_pt, portN_sum (Sh_1 hS)]
  have i := Rz_flL h hx hN (portN_le (a := lfN M o) (Sh_1 hS))
  refine (i.trans (Rz_eq ?_)).trans (Rz_eq re_st)
  show mA (pt1 (flL L (portN (L.map (shN M)) (lfN M o)) M) (mkL M o p L (portN (L.map (shN M)) (lfN M o)) M T)) 19 = _
  exact funext fun q => pt1_rA rfl
theorem Rz_way {V : TV} (h : Jv M n) (ho : o < n) (hl1 : 1 ≤ lfN M o) (hx : ∀ y, y ∈ L → y < n ∧ mA M 19 y = 1) (hN : L.Nodup) : Rz M (wayF M n T o p L V) n := by
  have hS := Iv_Sh h.1 hx
  obtain ⟨hlf, hlf1⟩ := Iv_lf h.1 ho
  obtain ⟨z1, z2, z3⟩ := szN_b hS hl1
  unfold wayF
  rw [mlG_self, flS_pt, hlf, szF_io hS hlf1]
  have i := Rz_flS z1 h (fun y hy => ⟨(hx y hy).1, (hx y hy).2, z3 y hy⟩) hN
  generalize mlG M o (io (szN M L (lfN M o))) ((snd (oB M o)).isSome) V 0 (oM M o) L M T = N
  obtain ⟨g1, g2, g3⟩ := rfL_all (M0 := M) (n := n) (l := L) (M := reF (tkF (pt1 (flS (io (szN M L (lfN M o))) L M) N) o (io (szN M L (lfN M o)))) n (oB M o) p)
  refine i.trans (Rz_eq ?_)
  rw [g2, re_st]
  show mA (pt1 (flS (io (szN M L (lfN M o))) L M) N) 19 = _
  exact funext fun q => pt1_rA rfl
theorem cs_Rz (hJ : Jv M n) (hR : Ri M n) (ho : o < n) (hl1 : 1 ≤ lfN M o) : Rz M (csM M n o) n := by
  unfold csM
  cases hw : bwF M n (oB M o) (mB M 3 o) with
  | none => exact Rz.refl M
  | some w =>
    obtain ⟨hw3, hx, hnd, hne, hfar, hlen⟩ := leg_Gd hJ hR ho hw
    show Rz M (stpM M n o (wprF M n (oB M o) (mB M 3 o) w) (legL M n o w) (LgF M (oB M o) w (wprF M n (oB M o) (mB M 3 o) w) (legL M n o w)) (trF M n o w (wprF M n (oB M o) (mB M 3 o) w) (legL M n o w))) n
    generalize wprF M n (oB M o) (mB M 3 o) w = p at *
    generalize legL M n o w = L at *
    cases hbad : badP M o p with
    | true => rw [(stp_bad hbad).1]; exact Rz.refl M
    | false =>
      cases hown : ownB M (oM M o) L with
      | true => rw [(stp_own hbad hown).1]; exact Rz_own
      | false =>
        cases hob : obF M n (LgF M (oB M o) w p L) (LgF M (oB M o) w p L).length with
        | some c => rw [(stp_h (tr := trF M n o w p L) hbad hown hob).1]; exact Rz.refl M
        | none =>
          rw [(stp_tr (tr := trF M n o w p L) hbad hown hob).1]
          unfold trF
          by_cases hw0 : w = 0
          · rw [if_pos hw0]; exact Rz_csh hJ hx hnd
          · rw [if_neg hw0]; exact Rz_way hJ ho hl1 hx hnd
/-! the ranges -/
theorem Fr_ownF : ∀ {l : List Nat} {M : sM}, Fr M M0 → Fr (ownF m l M) M0
  | [], _, f => f
  | x :: l, M, f => by
    show Fr (ownF m l (bif decide (oM M x = m) then cnF M x else M)) M0
    refine Fr_ownF ?_
    cases decide (oM M x = m)
    · exact f
    · exact Fr_cnF f
theorem Fr_flS : ∀ {l : List Nat} {M : sM}, Fr M M0 → Fr (flS sz l M) M0
  | [], _, f => f
  | x :: l, M, f => by
    show Fr (flS sz l (flF M x sz)) M0
    exact Fr_flS (Fr_flF f)
theorem Fr_rfL : ∀ {l : List Nat} {M : sM}, Fr M M' → Fr (rfL M0 n l M) M'
  | [], _, f => f
  | x :: l, M, f => by
    show Fr (rfL M0 n l (reF M n (oB M0 x) (mA M0 14 x))) M'
    exact Fr_rfL (Fr_reF f)
theorem Fr_mlG {V : TV} : ∀ (l : List Nat) (k m : Nat) (M : sM) (T : Nat), Fr M M' → Fr (mlG M0 o sz z V k m l M T) M'
  | [], _, _, _, _, f => f
  | x :: l, k, m, M, T, f => by
    show Fr (mlG M0 o sz z V (k + 1) (bif z then m else oM M0 x) l (tlM M0 o sz z V k m x M T) (tlT V x T)) M'
    exact Fr_mlG l _ _ _ _ (Fr_tlM f)
theorem Fr_tk : Fr M M0 → Fr (tkF M x a) M0 := fun f => Fr_A rfl (Fr_A rfl f)
theorem cs_R (hJ : Jv M n) (hR : Ri M n) (ho : o < n) : Ri (csM M n o) n := by
  have key : Fr (csM M n o) M := by
    unfold csM
    cases hw : bwF M n (oB M o) (mB M 3 o) with
    | none => exact Fr.refl M
    | some w =>
      show Fr (stpM M n o (wprF M n (oB M o) (mB M 3 o) w) (legL M n o w) (LgF M (oB M o) w (wprF M n (oB M o) (mB M 3 o) w) (legL M n o w)) (trF M n o w (wprF M n (oB M o) (mB M 3 o) w) (legL M n o w))) M
      generalize wprF M n (oB M o) (mB M 3 o) w = p
      generalize legL M n o w = L
      cases hbad : badP M o p with
      | true => rw [(stp_bad hbad).1]; exact Fr.refl M
      | false =>
        cases hown : ownB M (oM M o) L with
        | true => rw [(stp_own hbad hown).1]; exact Fr_ownF (Fr.refl M)
        | false =>
          cases hob : obF M n (LgF M (oB M o) w p L) (LgF M (oB M o) w p L).length with
          | some c => rw [(stp_h (tr := trF M n o w p L) hbad hown hob).1]; exact Fr_A rfl (Fr.refl M)
          | none =>
            rw [(stp_tr (tr := trF M n o w p L) hbad hown hob).1]
            unfold trF
            by_cases hw0 : w = 0
            · rw [if_pos hw0]; exact Fr_reF (Fr_tk (Fr_flL _ _ _ (Fr_mkL _ _ _ _ (Fr.refl M))))
            · rw [if_neg hw0]; exact Fr_rfL (Fr_reF (Fr_tk (Fr_flS (Fr_mlG _ _ _ _ _ (Fr.refl M)))))
  exact key.ri hR
theorem mt_Rz (ho : o < n) : ∀ (f : Nat) (M : sM), Jv M n → Ri M n → mA M 19 o = 4 → (∃ T, mI M 801 = io T ∧ T < 4096) → Rz M (mtF n o f M) n := by
  intro f
  induction f with
  | zero => intro M _ _ _ _; exact Rz.refl M
  | succ f ih =>
    intro M hJ hR h19 hT
    obtain ⟨T, hT, hT4⟩ := hT
    by_cases hst : lfN M o = 0 ∨ 1500 ≤ tN M
    · rw [mtF_stop hst]; exact Rz.refl M
    · rw [mtF_go hst]
      have hTn : tN M = T := by unfold tN; rw [hT]; exact nn_io (by omega)
      have hl1 : 1 ≤ lfN M o := by omega
      obtain ⟨j1, j2, _, _⟩ := cs_J hJ hR ho h19 hl1 (fun b s _ => Cl_ex hJ b s)
      obtain ⟨T', t1, t2, t3⟩ := cs_T hJ hR ho hT (by omega)
      have hz9 := cs_Rz hJ hR ho hl1
      cases hz : csZ M n o with
      | false => exact hz9
      | true => exact hz9.trans (ih (csM M n o) j1 (cs_R hJ hR ho) j2 ⟨T', t1, by omega⟩)
end S80
