/-! what is left only falls; an order is done just where nothing is left -/
section Sya
variable {M M' M0 N Y Z R : sM} {n T b c m o k x w e : Nat} {p a v sz : Int32} {s z : Bool} {L l : List Nat}
/-- an order that comes, or one that is done just where nothing is left -/
def Dk (M : sM) (k : Nat) : Prop := mA M 19 k = 4 ∨ (mA M 19 k = 2 ↔ lfN M k = 0)
def Lz (M N : sM) (n : Nat) : Prop := ∀ k, k < n → lfN N k ≤ lfN M k ∧ (Dk M k → Dk N k)
theorem Lz.refl (M : sM) : Lz M M n := fun _ _ => ⟨Nat.le_refl _, fun h => h⟩
theorem Lz.trans (h1 : Lz M Y n) (h2 : Lz Y N n) : Lz M N n := fun k hk => ⟨Nat.le_trans (h2 k hk).1 (h1 k hk).1, fun h => (h2 k hk).2 ((h1 k hk).2 h)⟩
theorem Lz_eq (h19 : mA N 19 = mA M 19) (h15 : mA N 15 = mA M 15) : Lz M N n := fun k _ => by
  unfold Dk lfN
  rw [h19, h15]
  exact ⟨Nat.le_refl _, fun h => h⟩
theorem Lz_fl {v : Nat} (h : Jv M n) (hx : x < n) (hs : mA M 19 x = 1) (hv1 : 1 ≤ v) (hv : v ≤ shN M x) : Lz M (flF M x (io v)) n := fun k hk => by
  by_cases e : k = x
  · subst e
    obtain ⟨w1, w⟩ := fl_val h.1 hx hs hv1 hv
    obtain ⟨hl, hl1⟩ := Iv_lf h.1 hx
    have e1 : lfN (flF M k (io v)) k = lfN M k - v := by
      unfold lfN at hl1 ⊢
      rw [w1]
      exact nn_io (by have : (mA M 15 k).toNatClampNeg = lfN M k := rfl; omega)
    refine ⟨by rw [e1]; omega, fun _ => Or.inr ?_⟩
    rw [e1]
    rcases w with ⟨u0, u, _⟩ | ⟨u0, u, _⟩
    · rw [u]; exact ⟨fun _ => by omega, fun _ => rfl⟩
    · rw [u]; exact ⟨fun g => absurd g (by decide), fun g => by omega⟩
  · have a19 : mA (flF M x (io v)) 19 k = mA M 19 k := fl_o e (by decide)
    have a15 : mA (flF M x (io v)) 15 k = mA M 15 k := fl_o e (by decide)
    unfold Dk lfN
    rw [a19, a15]
    exact ⟨Nat.le_refl _, fun g => g⟩
theorem Lz_flL : ∀ {l V : List Nat} {M : sM}, Jv M n → (∀ x, x ∈ l → x < n ∧ mA M 19 x = 1) → l.Nodup → leL V (l.map (shN M)) → Lz M (flL l V M) n
  | [], _, _, h, _, _, _ => Lz.refl _
  | x :: l, [], _, h, _, _, hV => by cases hV
  | x :: l, v :: V, M, h, hx, hN, hV => by
    have hN2 := List.nodup_cons.mp hN
    obtain ⟨h1, h2⟩ := hx x List.mem_cons_self
    have hv : v ≤ shN M x := hV.1
    have hV2 : leL V (l.map (shN M)) := hV.2
    have hne : ∀ y, y ∈ l → ¬ y = x := fun y hy e => hN2.1 (by rw [← e]; exact hy)
    have e : flL (x :: l) (v :: V) M = flL l V (if 0 < v then flF M x (io v) else M) := rfl
    rw [e]
    by_cases h0 : 0 < v
    · rw [if_pos h0]
      have i1 := Lz_flL (l := l) (V := V) (Jv_fl h h1 h2 h0 hv) (fun y hy => ⟨(hx y (List.mem_cons_of_mem x hy)).1, (st_flF (hne y hy)).trans (hx y (List.mem_cons_of_mem x hy)).2⟩) hN2.2 (by
        rw [List.map_congr_left (g := shN M) (fun y hy => shN_o (hne y hy))]
        exact hV2)
      exact (Lz_fl h h1 h2 h0 hv).trans i1
    · rw [if_neg h0]
      exact Lz_flL h (fun y hy => hx y (List.mem_cons_of_mem x hy)) hN2.2 hV2
theorem Lz_flS {v : Nat} (hv1 : 1 ≤ v) : ∀ {l : List Nat} {M : sM}, Jv M n → (∀ x, x ∈ l → x < n ∧ mA M 19 x = 1 ∧ v ≤ shN M x) → l.Nodup → Lz M (flS (io v) l M) n
  | [], _, h, _, _ => Lz.refl _
  | x :: l, M, h, hx, hN => by
    have hN2 := List.nodup_cons.mp hN
    obtain ⟨h1, h2, h3⟩ := hx x List.mem_cons_self
    have hne : ∀ y, y ∈ l → ¬ y = x := fun y hy e => hN2.1 (by rw [← e]; exact hy)
    have e : flS (io v) (x :: l) M = flS (io v) l (flF M x (io v)) := rfl
    rw [e]
    have i1 := Lz_flS hv1 (l := l) (Jv_fl h h1 h2 hv1 h3) (fun y hy => ⟨(hx y (List.mem_cons_of_mem x hy)).1, (st_flF (hne y hy)).trans (hx y (List.mem_cons_of_mem x hy)).2.1, by rw [shN_o (hne y hy)]; exact (hx y (List.mem_cons_of_mem x hy)).2.2⟩) hN2.2
    exact (Lz_fl h h1 h2 hv1 h3).trans i1
theorem cn_15y : mA (cnF M x) 15 = mA M 15 := rfl
theorem own_15 : ∀ {l : List Nat} {M : sM}, mA (ownF m l M) 15 = mA M 15
  | [], _ => rfl
  | x :: l, M => by
    show mA (ownF m l (bif decide (oM M x = m) then cnF M x else M)) 15 = mA M 15
    rw [own_15]
    cases decide (oM M x = m) <;> rfl
/-- one that was live is cancelled -/
theorem Dk_3 (h : Dk M k) (h1 : mA M 19 k = 0 ∨ mA M 19 k = 1) (h3 : mA N 19 k = 3) (h15 : mA N 15 = mA M 15) : Dk N k := by
  have e : lfN N k = lfN M k := by unfold lfN; rw [h15]
  refine Or.inr ⟨fun g => ?_, fun g => ?_⟩
  · rw [h3] at g; exact absurd g (by decide)
  · rw [e] at g
    rcases h with h | h
    · rcases h1 with h1 | h1 <;> rw [h1] at h <;> exact absurd h (by decide)
    · have := h.mpr g
      rcases h1 with h1 | h1 <;> rw [h1] at this <;> exact absurd this (by decide)
theorem Lz_own (hx : ∀ y, y ∈ l → y < n ∧ mA M 19 y = 1) : Lz M (ownF m l M) n := fun k _ => by
  refine ⟨?_, fun h => ?_⟩
  · unfold lfN; rw [own_15]; exact Nat.le_refl _
  · rcases own_19 (m := m) (k := k) (l := l) (M := M) with e | e
    · unfold Dk lfN at h ⊢
      rw [e, own_15]; exact h
    · exact Dk_3 h (Or.inr (hx k e.1).2) e.2 own_15
theorem Lz_tk {v : Nat} (h4 : mA N 19 o = 4) (hl : mA N 15 o = io (lfN N o)) (hb : lfN N o < 2 ^ 31) (hv : v ≤ lfN N o) : Lz N (tkF N o (io v)) n := fun k _ => by
  have a19 : mA (tkF N o (io v)) 19 = mA N 19 := rfl
  by_cases e : k = o
  · subst e
    have e1 : mA (tkF N k (io v)) 15 k = io (lfN N k - v) := by rw [tk15, hl, io_sub hv]
    refine ⟨?_, fun _ => Or.inl (by rw [a19]; exact h4)⟩
    unfold lfN at hb hv ⊢
    rw [e1]
    show (io (lfN N k - v)).toNatClampNeg ≤ lfN N k
    have hb : lfN N k < 2 ^ 31 := hb
    rw [nn_io (by omega)]; omega
  · have a15 : mA (tkF N o (io v)) 15 k = mA N 15 k := tk_o e (by decide)
    unfold Dk lfN
    rw [a19, a15]
    exact ⟨Nat.le_refl _, fun g => g⟩
theorem Lz_csh {A : Nat} (h : Jv M n) (ho : o < n) (h19 : mA M 19 o = 4) (hx : ∀ y, y ∈ L → y < n ∧ mA M 19 y = 1) (hN : L.Nodup) (hA : lfN M o = A) : Lz M (cshF M n T o p L (portN (L.map (shN M)) A)) n := by
  have hS := Iv_Sh h.1 hx
  have hno : ¬ o ∈ L := fun g => by have := (hx o g).2; rw [h19] at this; exact absurd this (by decide)
  obtain ⟨hl, hl1⟩ := Iv_lf h.1 ho
  unfold cshF
  rw [mkL_self, flL_pt, portN_sum (Sh_1 hS)]
  have i := Lz_flL h hx hN (portN_le (a := A) (Sh_1 hS))
  have o15 : mA (flL L (portN (L.map (shN M)) A) M) 15 o = mA M 15 o := flL_o hno (by decide) _ _
  have o19 : mA (flL L (portN (L.map (shN M)) A) M) 19 o = mA M 19 o := flL_o hno (by decide) _ _
  generalize flL L (portN (L.map (shN M)) A) M = F at *
  generalize mkL M o p L (portN (L.map (shN M)) A) M T = W
  have p15 : mA (pt1 F W) 15 = mA F 15 := funext fun q => pt1_rA rfl
  have p19 : mA (pt1 F W) 19 = mA F 19 := funext fun q => pt1_rA rfl
  have j : Lz M (pt1 F W) n := i.trans (Lz_eq p19 p15)
  have e15 : lfN (pt1 F W) o = lfN M o := by unfold lfN; rw [p15, o15]
  refine (j.trans (Lz_tk (v := min (L.map (shN M)).sum A) (by rw [p19, o19]; exact h19) (by rw [e15, p15, o15]; exact hl) (by rw [e15]; omega) (by rw [e15]; omega))).trans (Lz_eq re_st re_15)
theorem Lz_way {V : TV} (h : Jv M n) (ho : o < n) (h19 : mA M 19 o = 4) (hl1 : 1 ≤ lfN M o) (hx : ∀ y, y ∈ L → y < n ∧ mA M 19 y = 1) (hN : L.Nodup) : Lz M (wayF M n T o p L V) n := by
  have hS := Iv_Sh h.1 hx
  have hno : ¬ o ∈ L := fun g => by have := (hx o g).2; rw [h19] at this; exact absurd this (by decide)
  obtain ⟨hlf, hlf1⟩ := Iv_lf h.1 ho
  obtain ⟨z1, z2, z3⟩ := szN_b hS hl1
  unfold wayF
  rw [mlG_self, flS_pt, hlf, szF_io hS hlf1]
  have i := Lz_flS z1 h (fun y hy => ⟨(hx y hy).1, (hx y hy).2, z3 y hy⟩) hN
  have o15 : mA (flS (io (szN M L (lfN M o))) L M) 15 o = mA M 15 o := flS_o hno (by decide) _
  have o19 : mA (flS (io (szN M L (lfN M o))) L M) 19 o = mA M 19 o := flS_o hno (by decide) _
  generalize mlG M o (io (szN M L (lfN M o))) ((snd (oB M o)).isSome) V 0 (oM M o) L M T = W
  generalize flS (io (szN M L (lfN M o))) L M = F at *
  have p15 : mA (pt1 F W) 15 = mA F 15 := funext fun q => pt1_rA rfl
  have p19 : mA (pt1 F W) 19 = mA F 19 := funext fun q => pt1_rA rfl
  have j : Lz M (pt1 F W) n := i.trans (Lz_eq p19 p15)
  have e15 : lfN (pt1 F W) o = lfN M o := by unfold lfN; rw [p15, o15]
  obtain ⟨g1, g2, g3⟩ := rfL_all (M0 := M) (n := n) (l := L) (M := reF (tkF (pt1 F W) o (io (szN M L (lfN M o)))) n (oB M o) p)
  exact ((j.trans (Lz_tk (v := szN M L (lfN M o)) (by rw [p19, o19]; exact h19) (by rw [e15, p15, o15]; exact hlf) (by rw [e15]; omega) (by rw [e15]; omega))).trans (Lz_eq re_st re_15)).trans (Lz_eq g2 g3)
theorem cs_Lz (hJ : Jv M n) (hR : Ri M n) (ho : o < n) (h19 : mA M 19 o = 4) (hl1 : 1 ≤ lfN M o) : Lz M (csM M n o) n := by
  unfold csM
  cases hw : bwF M n (oB M o) (mB M 3 o) with
  | none => exact Lz.refl M
  | some w =>
    obtain ⟨hw3, hx, hnd, hne, hfar, hlen⟩ := leg_Gd hJ hR ho hw
    show Lz M (stpM M n o (wprF M n (oB M o) (mB M 3 o) w) (legL M n o w) (LgF M (oB M o) w (wprF M n (oB M o) (mB M 3 o) w) (legL M n o w)) (trF M n o w (wprF M n (oB M o) (mB M 3 o) w) (legL M n o w))) n
    generalize wprF M n (oB M o) (mB M 3 o) w = p at *
    generalize legL M n o w = L at *
    cases hbad : badP M o p with
    | true => rw [(stp_bad hbad).1]; exact Lz.refl M
    | false =>
      cases hown : ownB M (oM M o) L with
      | true => rw [(stp_own hbad hown).1]; exact Lz_own hx
      | false =>
        cases hob : obF M n (LgF M (oB M o) w p L) (LgF M (oB M o) w p L).length with
        | some c => rw [(stp_h (tr := trF M n o w p L) hbad hown hob).1]; exact Lz_eq rfl rfl
        | none =>
          rw [(stp_tr (tr := trF M n o w p L) hbad hown hob).1]
          unfold trF
          by_cases hw0 : w = 0
          · rw [if_pos hw0]; exact Lz_csh hJ ho h19 hx hnd rfl
          · rw [if_neg hw0]; exact Lz_way hJ ho h19 hl1 hx hnd
theorem mt_Lz (ho : o < n) : ∀ (f : Nat) (M : sM), Jv M n → Ri M n → mA M 19 o = 4 → (∃ T, mI M 801 = io T ∧ T < 4096) → Lz M (mtF n o f M) n := by
  intro f
  induction f with
  | zero => intro M _ _ _ _; exact Lz.refl M
  | succ f ih =>
    intro M hJ hR h19 hT
    obtain ⟨T, hT, hT4⟩ := hT
    by_cases hst : lfN M o = 0 ∨ 1500 ≤ tN M
    · rw [mtF_stop hst]; exact Lz.refl M
    · rw [mtF_go hst]
      have hTn : tN M = T := by unfold tN; rw [hT]; exact nn_io (by omega)
      have hl1 : 1 ≤ lfN M o := by omega
      obtain ⟨j1, j2, _, _⟩ := cs_J hJ hR ho h19 hl1 (fun b s _ => Cl_ex hJ b s)
      obtain ⟨T', t1, t2, t3⟩ := cs_T hJ hR ho hT (by omega)
      have hz9 := cs_Lz hJ hR ho h19 hl1
      cases hz : csZ M n o with
      | false => exact hz9
      | true => exact hz9.trans (ih (csM M n o) j1 (cs_R hJ hR ho) j2 ⟨T', t1, by omega⟩)
theorem mtR_Lz (hJ : Jv M n) (hR : Ri M n) (ho : o < n) (hs : mA M 19 o = 0 ∨ mA M 19 o = 4) (hT : ∃ T, mI M 801 = io T ∧ T < 4096) : Lz M (mtR M n o) n := by
  have h1 : Lz M (mAw M 19 o 4) n := fun k _ => by
    refine ⟨Nat.le_refl _, fun g => ?_⟩
    by_cases e : k = o
    · exact Or.inl (by rw [e]; exact w4_19)
    · have a19 : mA (mAw M 19 o 4) 19 k = mA M 19 k := aw_o e
      unfold Dk lfN at g ⊢
      rw [a19]; exact g
  unfold mtR
  cases decide (mA M 0 (oB M o) = 2) with
  | false => exact h1
  | true => exact h1.trans (mt_Lz ho 305 (mAw M 19 o 4) (Jv_4 hJ ho hs) ((Fr_A rfl (Fr.refl M) : Fr (mAw M 19 o 4) M).ri hR) w4_19 hT)
theorem fin_15y : mA (finF N o) 15 = mA N 15 := by
  unfold finF
  cases decide (mA N 15 o = 0) <;> rfl
theorem se_15 : mA (seF N o) 15 = mA N 15 := by
  unfold seF
  cases decide (0 < mA N 15 o)
  · rfl
  · cases mB N 5 o <;> rfl
theorem po_15 : mA (poF N n) 15 = mA N 15 := by
  have e : poF N n = poL N n n := rfl
  rw [e, po_wd]
  rfl
theorem Lz_po : Lz N (poF N n) n := fun k _ => by
  refine ⟨?_, fun h => ?_⟩
  · unfold lfN; rw [po_15]; exact Nat.le_refl _
  · rcases po_19 (N := N) (n := n) (k := k) with g | g
    · unfold Dk lfN at h ⊢
      rw [g, po_15]; exact h
    · exact Dk_3 h (Or.inr g.1) g.2 po_15
/-- an order that came, at its end -/
theorem Lz_se (h : Jv N n) (ho : o < n) (h19 : mA N 19 o = 4) : Lz N (seF (finF N o) o) n := fun k hk => by
  obtain ⟨hl, hl1⟩ := Iv_lf h.1 ho
  refine ⟨?_, fun g => ?_⟩
  · unfold lfN; rw [se_15, fin_15y]; exact Nat.le_refl _
  · by_cases e : k = o
    · subst e
      unfold finF
      by_cases h0 : mA N 15 k = 0
      · rw [decide_eq_true h0]
        have e1 : seF (bif true then mAw (mAw N 19 k 2) 17 k 0 else N) k = mAw (mAw N 19 k 2) 17 k 0 := by
          have e2 : mA (mAw (mAw N 19 k 2) 17 k 0) 15 k = 0 := h0
          show (bif decide (0 < mA (mAw (mAw N 19 k 2) 17 k 0) 15 k) then _ else _) = _
          rw [e2]; rfl
        rw [e1]
        have e3 : mA (mAw (mAw N 19 k 2) 17 k 0) 19 k = 2 := if_pos ⟨rfl, rfl⟩
        refine Or.inr ⟨fun _ => ?_, fun _ => e3⟩
        show (mA N 15 k).toNatClampNeg = 0
        rw [h0]; rfl
      · rw [decide_eq_false h0]
        have hp : 1 ≤ lfN N k := by
          rcases Nat.eq_zero_or_pos (lfN N k) with z | z
          · rw [z] at hl; exact absurd hl h0
          · exact z
        have hd : decide (0 < mA N 15 k) = true := decide_eq_true (by rw [hl]; exact (io_lt (p := 0) (by decide) (by omega)).mpr hp)
        have e2 : seF (bif false then mAw (mAw N 19 k 2) 17 k 0 else N) k = bif mB N 5 k then cnF N k else rsF N k := by
          show (bif decide (0 < mA N 15 k) then (bif mB N 5 k then cnF N k else rsF N k) else N) = _
          rw [hd]; rfl
        rw [e2]
        cases mB N 5 k with
        | true =>
          refine Or.inr ⟨fun g => ?_, fun g => ?_⟩
          · have e4 : mA (cnF N k) 19 k = 3 := by rw [cn_19, if_pos rfl]
            rw [cond_true, e4] at g; exact absurd g (by decide)
          · have g' : lfN N k = 0 := g
            omega
        | false =>
          refine Or.inr ⟨fun g => ?_, fun g => ?_⟩
          · have e4 : mA (rsF N k) 19 k = 1 := by rw [rs_19, if_pos rfl]
            rw [cond_false, e4] at g; exact absurd g (by decide)
          · have g' : lfN N k = 0 := g
            omega
    · have o1 : mA (seF (finF N o) o) 19 k = mA N 19 k := by
        have f1 : mA (finF N o) 19 k = mA N 19 k := by
          unfold finF
          cases decide (mA N 15 o = 0)
          · rfl
          · exact (st_19).trans (if_neg e)
        have f2 : ∀ {Z : sM}, mA (seF Z o) 19 k = mA Z 19 k := fun {Z} => by
          unfold seF
          cases decide (0 < mA Z 15 o)
          · rfl
          · cases mB Z 5 o
            · exact rs_o e
            · exact cn_19.trans (if_neg e)
        exact f2.trans f1
      unfold Dk lfN at g ⊢
      rw [o1, se_15, fin_15y]; exact g
theorem com_Lz (hK : Kv M n) (ho : o < n) (hs : mA M 19 o = 0 ∨ mA M 19 o = 4) : Lz M (comF M n o) n := by
  obtain ⟨hJ, hR, hQ, hW, T, hT, hT4⟩ := hK
  obtain ⟨a1, a2, a3, a4, T', a5, a6, a7⟩ := mtR_all hJ hR ho hs hT hT4
  have e : comF M n o = poF (seF (finF (mtR M n o) o) o) n := rfl
  rw [e]
  exact ((mtR_Lz hJ hR ho hs ⟨T, hT, hT4⟩).trans (Lz_se a1 ho a2)).trans Lz_po
theorem fol_Lz : ∀ (f : Nat) (M : sM), Kv M n → Lz M (folF n f M) n
  | 0, M, _ => Lz.refl M
  | f + 1, M, hK => by
    cases e : lrF M n with
    | none => rw [fol_n e]; exact Lz.refl M
    | some o =>
      obtain ⟨ho, h0⟩ := lrF_s e
      rw [fol_s e]
      obtain ⟨k1, _, _, k4⟩ := com_all hK ho (Or.inl h0)
      exact (com_Lz hK ho (Or.inl h0)).trans (fol_Lz f (comF M n o) k1)
end Sya
