/-! a step keeps the rules, and there are not many steps -/
section S74
variable {M M' M0 N : sM} {n T b c m o k x y K w f v : Nat} {p a d sz : Int32} {s z : Bool} {L L' l : List Nat} {V : TV}
theorem sumN_mono {f g : Nat → Nat} : ∀ {n : Nat}, (∀ k, k < n → f k ≤ g k) → sumN f n ≤ sumN g n
  | 0, _ => Nat.le_refl _
  | n + 1, h => by
    have i := sumN_mono (f := f) (g := g) (n := n) (fun k hk => h k (by omega))
    have j := h n (by omega)
    show sumN f n + f n ≤ sumN g n + g n
    omega
theorem sumN_lt {f g : Nat → Nat} : ∀ {n : Nat}, (∀ k, k < n → f k ≤ g k) → x < n → f x < g x → sumN f n < sumN g n
  | 0, _, hx, _ => absurd hx (Nat.not_lt_zero _)
  | n + 1, h, hx, hl => by
    have i := sumN_mono (f := f) (g := g) (n := n) (fun k hk => h k (by omega))
    have j := h n (by omega)
    show sumN f n + f n < sumN g n + g n
    by_cases e : x = n
    · subst e; omega
    · have := sumN_lt (n := n) (fun k hk => h k (by omega)) (by omega) hl
      omega
theorem lf_eq (h : mA M' 15 = mA M 15) : lfN M' o = lfN M o := by unfold lfN; rw [h]
def rsN (s : Int32) : Nat := if s = 1 then 1 else 0
def phN (s : Int32) : Nat := if s = 2 then 1 else 0
def mu (M : sM) (n o : Nat) : Nat := lfN M o + sumN (fun k => rsN (mA M 19 k)) n + sumN (fun c => phN (mA M 0 c)) 5
theorem rsN_1 {s : Int32} : rsN s ≤ 1 := by unfold rsN; split <;> omega
theorem phN_1 {s : Int32} : phN s ≤ 1 := by unfold phN; split <;> omega
theorem mu_b (hl : lfN M o ≤ 100) (hn : n ≤ 200) : mu M n o ≤ 305 := by
  have h1 := sumN_le (f := fun k => rsN (mA M 19 k)) (B := 1) (n := n) (fun k _ => rsN_1)
  have h2 := sumN_le (f := fun c => phN (mA M 0 c)) (B := 1) (n := 5) (fun k _ => phN_1)
  unfold mu
  omega
theorem St_rs (h : St M M') : ∀ k, rsN (mA M' 19 k) ≤ rsN (mA M 19 k) := fun k => by
  rcases h k with e | e
  · rw [e]; exact Nat.le_refl _
  · rw [e]; exact rsN_1
theorem mu_lf (h : St M M') (h0 : mA M' 0 = mA M 0) (hl : lfN M' o < lfN M o) : mu M' n o < mu M n o := by
  have h1 := sumN_mono (n := n) (fun k _ => St_rs h k)
  unfold mu
  rw [h0]
  omega
theorem J_tk (h : Jv M n) (ho : o < n) (hg : Jv N n ∧ St M N ∧ mA N 0 = mA M 0) (h19 : mA N 19 o = 4) (h15 : lfN N o = lfN M o) (hv1 : 1 ≤ v) (hv : v ≤ lfN M o) (hl1 : 1 ≤ lfN M o) :
    Jv (reF (tkF N o (io v)) k b p) n ∧ mA (reF (tkF N o (io v)) k b p) 19 o = 4 ∧ St M (reF (tkF N o (io v)) k b p) ∧ mA (reF (tkF N o (io v)) k b p) 0 = mA M 0 ∧ lfN (reF (tkF N o (io v)) k b p) o < lfN M o := by
  obtain ⟨g1, g2, g3⟩ := hg
  refine ⟨Jv_re (Jv_tk g1 ho (by rw [h19]; decide) (by omega)), ?_, g2.trans (St_eq re_st), re_0.trans g3, ?_⟩
  · rw [re_st]; exact h19
  · have e : mA (reF (tkF N o (io v)) k b p) 15 = mA (tkF N o (io v)) 15 := by rw [reF_eq]; rfl
    unfold lfN
    rw [e, tk15, (Iv_lf g1.1 ho).1, io_sub (by omega), nn_io (by have := (Iv_lf g1.1 ho).2; omega)]
    unfold lfN at hl1 hv h15
    unfold lfN
    omega
theorem J_csh2 (h : Jv M n) (ho : o < n) (h19 : mA M 19 o = 4) (hl1 : 1 ≤ lfN M o) (hx : ∀ y, y ∈ L → y < n ∧ mA M 19 y = 1) (hN : L.Nodup) (hne : L = x :: l) :
    Jv (cshF M n T o p L (portN (L.map (shN M)) (lfN M o))) n ∧ mA (cshF M n T o p L (portN (L.map (shN M)) (lfN M o))) 19 o = 4 ∧ St M (cshF M n T o p L (portN (L.map (shN M)) (lfN M o))) ∧ mA (cshF M n T o p L (portN (L.map (shN M)) (lfN M o))) 0 = mA M 0 ∧ lfN (cshF M n T o p L (portN (L.map (shN M)) (lfN M o))) o < lfN M o := by
  have hS := Iv_Sh h.1 hx
  have hnl : ¬ o ∈ L := fun e => by have := (hx o e).2; rw [h19] at this; exact absurd this (by decide)
  have hs1 : 1 ≤ (L.map (shN M)).sum := by
    rw [hne]
    have := (hS x (by rw [hne]; exact List.mem_cons_self)).2.1
    rw [List.map_cons, List.sum_cons]
    omega
  unfold cshF
  rw [mkL_self, flL_pt, portN_sum (Sh_1 hS)]
  obtain ⟨i1, i2, i3⟩ := J_flL h hx hN (portN_le (a := lfN M o) (Sh_1 hS))
  refine J_tk h ho ⟨Jv_pt i1, i2.trans (St_eq (funext fun q => pt1_rA rfl)), (funext fun q => pt1_rA rfl : _ = _).trans i3⟩ ?_ ?_ (by omega) (Nat.min_le_right _ _) hl1
  · rw [pt1_rA rfl, flL_st hnl]; exact h19
  · unfold lfN
    rw [pt1_rA rfl, flL_o hnl (by decide)]
theorem J_way (h : Jv M n) (ho : o < n) (h19 : mA M 19 o = 4) (hl1 : 1 ≤ lfN M o) (hx : ∀ y, y ∈ L → y < n ∧ mA M 19 y = 1) (hN : L.Nodup) :
    Jv (wayF M n T o p L V) n ∧ mA (wayF M n T o p L V) 19 o = 4 ∧ St M (wayF M n T o p L V) ∧ mA (wayF M n T o p L V) 0 = mA M 0 ∧ lfN (wayF M n T o p L V) o < lfN M o := by
  have hS := Iv_Sh h.1 hx
  obtain ⟨hlf, hlf1⟩ := Iv_lf h.1 ho
  have hnl : ¬ o ∈ L := fun e => by have := (hx o e).2; rw [h19] at this; exact absurd this (by decide)
  obtain ⟨z1, z2, z3⟩ := szN_b hS hl1
  unfold wayF
  rw [mlG_self, flS_pt, hlf, szF_io hS hlf1]
  obtain ⟨i1, i2, i3⟩ := J_flS z1 h (fun y hy => ⟨(hx y hy).1, (hx y hy).2, z3 y hy⟩) hN
  obtain ⟨j1, j2, j3, j4, j5⟩ := J_tk (k := n) (b := oB M o) (p := p) (N := pt1 (flS (io (szN M L (lfN M o))) L M) (mlG M o (io (szN M L (lfN M o))) ((snd (oB M o)).isSome) V 0 (oM M o) L M T)) h ho ⟨Jv_pt i1, i2.trans (St_eq (funext fun q => pt1_rA rfl)), (funext fun q => pt1_rA rfl : _ = _).trans i3⟩ (by rw [pt1_rA rfl, flS_st hnl]; exact h19) (by unfold lfN; rw [pt1_rA rfl, flS_o hnl (by decide)]) z1 z2 hl1
  obtain ⟨k1, k2, k3, k4⟩ := J_rfL (M0 := M) (l := L) j1
  refine ⟨k1, by rw [k2]; exact j2, j3.trans (St_eq k2), k3.trans j4, ?_⟩
  rw [lf_eq k4]
  exact j5
theorem lgO_ph (h : lgO M n b s w = some L) : ∀ x, x ∈ L → mA M 0 (oB M x) = 2 := by
  unfold lgO at h
  cases hl : lgs b w with
  | none => rw [hl] at h; cases h
  | some Q9 =>
    rw [hl] at h
    exact fun x hx => ((Lw_of (Q9 := Q9) h).1 x hx).2.2
theorem cs_J (hJ : Jv M n) (hR : Ri M n) (ho : o < n) (h19 : mA M 19 o = 4) (hl1 : 1 ≤ lfN M o) (hCl : ∀ b s, b < 5 → ∃ l, Cl M n b s l) :
    Jv (csM M n o) n ∧ mA (csM M n o) 19 o = 4 ∧ lfN (csM M n o) o ≤ lfN M o ∧ (csZ M n o = true → mu (csM M n o) n o < mu M n o) := by
  have hI := hJ.1
  have hb := gb5 hR ho
  cases hw : bwF M n (oB M o) (mB M 3 o) with
  | none =>
    have e1 : csM M n o = M := by unfold csM; rw [hw]
    have e2 : csZ M n o = false := by unfold csZ; rw [hw]
    rw [e1, e2]
    exact ⟨hJ, h19, Nat.le_refl _, fun h => by cases h⟩
  | some w =>
    obtain ⟨LL, hlg, hw3, epr, hcase⟩ := step_some hI hR ho hw
    have e1 : csM M n o = stpM M n o (wprF M n (oB M o) (mB M 3 o) w) (legL M n o w) (LgF M (oB M o) w (wprF M n (oB M o) (mB M 3 o) w) (legL M n o w)) (trF M n o w (wprF M n (oB M o) (mB M 3 o) w) (legL M n o w)) := by unfold csM; rw [hw]
    have e2 : csZ M n o = stpZ M n o (wprF M n (oB M o) (mB M 3 o) w) (legL M n o w) (LgF M (oB M o) w (wprF M n (oB M o) (mB M 3 o) w) (legL M n o w)) := by unfold csZ; rw [hw]
    have fin : ∀ p L, Gd M n o w p L → (∀ x, x ∈ L → oB M x = oB M o ∨ mA M 0 (oB M x) = 2) → csM M n o = stpM M n o p L (LgF M (oB M o) w p L) (trF M n o w p L) → csZ M n o = stpZ M n o p L (LgF M (oB M o) w p L) → Jv (csM M n o) n ∧ mA (csM M n o) 19 o = 4 ∧ lfN (csM M n o) o ≤ lfN M o ∧ (csZ M n o = true → mu (csM M n o) n o < mu M n o) := fun p L hG hph h1 h2 => by
      obtain ⟨hx, hnd, ⟨x, l, hne⟩, hfar, hw9⟩ := hG
      have hnl : ¬ o ∈ L := fun e => by have := (hx o e).2; rw [h19] at this; exact absurd this (by decide)
      rw [h1, h2]
      cases hbad : badP M o p with
      | true =>
        obtain ⟨s1, s2⟩ := stp_bad (n := n) (L := L) (Lg := LgF M (oB M o) w p L) (tr := trF M n o w p L) hbad
        rw [s1, s2]
        exact ⟨hJ, h19, Nat.le_refl _, fun h => by cases h⟩
      | false =>
        cases hown : ownB M (oM M o) L with
        | true =>
          obtain ⟨s1, s2⟩ := stp_own (n := n) (Lg := LgF M (oB M o) w p L) (tr := trF M n o w p L) hbad hown
          rw [s1, s2]
          have h15 : lfN (ownF (oM M o) L M) o = lfN M o := by unfold lfN; rw [ownF_15]
          refine ⟨Jv_own hJ (fun y hy => (hx y hy).1), ?_, by omega, fun _ => ?_⟩
          · rcases own_19 (m := oM M o) (k := o) (l := L) (M := M) with g | g
            · rw [g]; exact h19
            · exact absurd g.1 hnl
          · obtain ⟨y, y1, y2⟩ := own_ex hown
            have hlt := sumN_lt (f := fun k => rsN (mA (ownF (oM M o) L M) 19 k)) (g := fun k => rsN (mA M 19 k)) (n := n) (x := y) (fun k _ => by
              rcases own_19 (m := oM M o) (k := k) (l := L) (M := M) with g | g
              · exact Nat.le_of_eq (congrArg rsN g)
              · show rsN (mA (ownF (oM M o) L M) 19 k) ≤ rsN (mA M 19 k)
                rw [g.2]
                exact Nat.zero_le _) (hx y y1).1 (by
              show rsN (mA (ownF (oM M o) L M) 19 y) < rsN (mA M 19 y)
              rw [y2, (hx y y1).2]
              decide)
            unfold mu
            rw [h15, own_0]
            omega
        | false =>
          cases hob : obF M n (LgF M (oB M o) w p L) (LgF M (oB M o) w p L).length with
          | none =>
            obtain ⟨s1, s2⟩ := stp_tr (tr := trF M n o w p L) hbad hown hob
            rw [s1, s2]
            unfold trF
            by_cases hw0 : w = 0
            · rw [if_pos hw0]
              obtain ⟨j1, j2, j3, j4, j5⟩ := J_csh2 (T := tN M) (p := p) hJ ho h19 hl1 hx hnd hne
              exact ⟨j1, j2, Nat.le_of_lt j5, fun _ => mu_lf j3 j4 j5⟩
            · rw [if_neg hw0]
              obtain ⟨j1, j2, j3, j4, j5⟩ := J_way (T := tN M) (p := p) (V := plV M (oB M o) false p L dV) hJ ho h19 hl1 hx hnd
              exact ⟨j1, j2, Nat.le_of_lt j5, fun _ => mu_lf j3 j4 j5⟩
          | some c =>
            obtain ⟨s1, s2⟩ := stp_h (tr := trF M n o w p L) hbad hown hob
            rw [s1, s2]
            refine ⟨Jv_ph hJ, h19, Nat.le_refl _, fun hz => ?_⟩
            have hc3 : c < 3 := by
              obtain ⟨f1, f2⟩ := hfar dV
              exact ltF_lt (M := M) (f := none) (fun x h d hd => f2 x d hd h) obd_n c (f1.trans hob)
            have heh : ehB M c o L = false := by
              cases hq : ehB M c o L with
              | false => rfl
              | true => rw [hq] at hz; cases hz
            unfold ehB at heh
            rw [Bool.or_eq_false_iff] at heh
            obtain ⟨q1, q2⟩ := heh
            have q3 : L.any (fun x => decide (oB M x = c)) = true := by
              cases hq : L.any (fun x => decide (oB M x = c)) with
              | true => rfl
              | false => rw [hq] at q2; cases q2
            obtain ⟨y, y1, y2⟩ := List.any_eq_true.mp q3
            have y3 : oB M y = c := of_decide_eq_true y2
            have q4 : mA M 0 c = 2 := by
              rcases hph y y1 with g | g
              · exact absurd (g.symm.trans y3) (of_decide_eq_false q1)
              · rw [← y3]; exact g
            have hlt := sumN_lt (f := fun k => phN (mA (mAw M 0 c 3) 0 k)) (g := fun k => phN (mA M 0 k)) (n := 5) (x := c) (fun k _ => by
              show phN (mA (mAw M 0 c 3) 0 k) ≤ phN (mA M 0 k)
              by_cases e : k = c
              · rw [e, show mA (mAw M 0 c 3) 0 c = 3 from if_pos ⟨rfl, rfl⟩]
                exact Nat.zero_le _
              · rw [aw_o e]
                exact Nat.le_refl _) (by omega) (by
              show phN (mA (mAw M 0 c 3) 0 c) < phN (mA M 0 c)
              rw [q4, show mA (mAw M 0 c 3) 0 c = 3 from if_pos ⟨rfl, rfl⟩]
              decide)
            unfold mu
            have h9 : sumN (fun k => rsN (mA (mAw M 0 c 3) 19 k)) n = sumN (fun k => rsN (mA M 19 k)) n := rfl
            have h8 : lfN (mAw M 0 c 3) o = lfN M o := rfl
            rw [h9, h8]
            omega
    by_cases hsh : w = 0 ∧ mB M 0 (oB M o) = true
    · obtain ⟨h0, hsh⟩ := hsh
      subst h0
      obtain ⟨l, hl⟩ := hCl (oB M o) (!(mB M 3 o)) hb
      have ehd := bsF_hd hl.1 hl.2
      rw [(lgO_0 hb hlg).2.1] at ehd
      cases l with
      | nil => cases ehd
      | cons x l =>
        obtain ⟨g1, g2, g3⟩ := step_lv hI hR ho hsh hlg hl
        rw [g1] at e1 e2
        rw [epr, g2] at e1 e2
        refine fin _ _ g3 (fun y hy => Or.inl ?_) e1 e2
        have hLv := Lv_of hl.1 hl.2
        exact ((hLv.1 y).mp hy).1.2.2.1
    · obtain ⟨g1, g2, g3⟩ := hcase hsh
      rw [g1] at e1 e2
      rw [epr] at e1 e2
      exact fin _ _ g3 (fun y hy => Or.inr (lgO_ph hlg y hy)) e1 e2
end S74
