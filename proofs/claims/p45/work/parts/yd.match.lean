/-! what matching keeps: trades near, of small sizes, of members that are not out -/
section Syd
variable {M M' M0 N Y Z R : sM} {n T b c m o k x w e K f : Nat} {p a v sz : Int32} {s z : Bool} {L l : List Nat} {V0 : TV} {B2 : Nat → Bool}
theorem db_B {q : Nat} (h : Nat.beq q 7 = false) : mB (dbF N T b m o p a) q = mB N q := by
  unfold dbF
  cases snd b with
  | none => exact mk_B h
  | some d => exact (mk_B h).trans (mk_B h)
theorem Gx_mkL (hR : Ri M0 n) (ho : o < n) (hp : vPb (oB M0 o) p) (oo : B2 (oM M0 o) = false) : ∀ (l V : List Nat) (N : sM) (T : Nat), (∀ x, x ∈ l → x < n ∧ B2 (oM M0 x) = false) → (∀ v, v ∈ V → v ≤ 12) → mB N 2 = B2 → mI N 801 = io T → T + 2 * l.length + 2 < 4096 → Gx N M → Gx (mkL M0 o p l V N T) M
  | [], V, N, T, _, _, _, _, _, g => g
  | x :: l, [], N, T, _, _, _, _, _, g => g
  | x :: l, v :: V, N, T, hx, hV, hB, hI, hT, g => by
    have hl : (x :: l).length = l.length + 1 := rfl
    rw [hl] at hT
    obtain ⟨x1, x2⟩ := hx x List.mem_cons_self
    have h1 := gm6 hR x1
    have h2 := gm6 hR ho
    have hB1 : dbM M0 o x < 6 ∧ B2 (dbM M0 o x) = false := by unfold dbM; cases mB M0 3 o; exact ⟨h1, x2⟩; exact ⟨h2, oo⟩
    have hS1 : dbS M0 o x < 6 ∧ B2 (dbS M0 o x) = false := by unfold dbS; cases mB M0 3 o; exact ⟨h2, oo⟩; exact ⟨h1, x2⟩
    have hd := dbT_lx (b := oB M0 o) (T := T)
    show Gx (if 0 < v then mkL M0 o p l V (dbF N T (oB M0 o) (dbM M0 o x) (dbS M0 o x) p (io v)) (dbT (oB M0 o) T) else mkL M0 o p l V N T) M
    split
    · rename_i hv
      exact Gx_mkL hR ho hp oo l V _ _ (fun y hy => hx y (List.mem_cons_of_mem x hy)) (fun y hy => hV y (List.mem_cons_of_mem v hy)) ((db_B rfl).trans hB) dbF_T (by omega) (Gx_db g hI (by omega) (gb5 hR ho) hB1.1 hS1.1 hv (hV v List.mem_cons_self) hp (by rw [hB]; exact hB1.2) (by rw [hB]; exact hS1.2))
    · exact Gx_mkL hR ho hp oo l V _ _ (fun y hy => hx y (List.mem_cons_of_mem x hy)) (fun y hy => hV y (List.mem_cons_of_mem v hy)) hB hI (by omega) g
theorem Gx_mlG {W : TV} (hR : Ri M0 n) (hK1 : 1 ≤ K) (hK : K ≤ 12) : ∀ (l : List Nat) (k m : Nat) (N : sM) (T : Nat), (∀ x, x ∈ l → (x < n ∧ B2 (oM M0 x) = false) ∧ (80 ≤ (W.2.1 x).toInt ∧ (W.2.1 x).toInt ≤ 124) ∧ ∀ d, W.2.2.1 x = some d → d < 3) → m < 6 → B2 m = false → mB N 2 = B2 → mI N 801 = io T → T + l.length + 1 < 4096 → Gx N M → Gx (mlG M0 o (io K) z W k m l N T) M
  | [], _, _, _, _, _, _, _, _, _, _, g => g
  | x :: l, k, m, N, T, hx, hm, om, hB, hI, hT, g => by
    have hl : (x :: l).length = l.length + 1 := rfl
    rw [hl] at hT
    obtain ⟨⟨h1, h4⟩, h5, h2⟩ := hx x List.mem_cons_self
    have h3 := gm6 hR h1
    have hm2 : (bif z then m else oM M0 x) < 6 ∧ B2 (bif z then m else oM M0 x) = false := by cases z; exact ⟨h3, h4⟩; exact ⟨hm, om⟩
    show Gx (mlG M0 o (io K) z W (k + 1) (bif z then m else oM M0 x) l (tlM M0 o (io K) z W k m x N T) (tlT W x T)) M
    have key : mI (tlM M0 o (io K) z W k m x N T) 801 = io (tlT W x T) ∧ tlT W x T ≤ T + 1 ∧ mB (tlM M0 o (io K) z W k m x N T) 2 = B2 ∧ Gx (tlM M0 o (io K) z W k m x N T) M := by
      unfold tlM tlT
      cases hd : W.2.2.1 x with
      | none => exact ⟨hI, Nat.le_succ T, hB, g⟩
      | some d =>
        refine ⟨mk_T, Nat.le_refl _, (mk_B rfl).trans hB, ?_⟩
        cases tlB M0 o z k with
        | false => exact Gx_mk g hI (by omega) (h2 d hd) h3 hm hK1 hK (by omega) (fun _ => h5) (by rw [hB]; exact h4) (by rw [hB]; exact om)
        | true => exact Gx_mk g hI (by omega) (h2 d hd) hm h3 hK1 hK (by omega) (fun _ => h5) (by rw [hB]; exact om) (by rw [hB]; exact h4)
    obtain ⟨k1, k2, k3, k4⟩ := key
    exact Gx_mlG hR hK1 hK l (k + 1) _ _ _ (fun y hy => hx y (List.mem_cons_of_mem x hy)) hm2.1 hm2.2 k3 k1 (by omega) k4
theorem leL_K : ∀ {V S : List Nat}, leL V S → (∀ s, s ∈ S → s ≤ K) → ∀ v, v ∈ V → v ≤ K
  | [], [], _, _, v, hv => by cases hv
  | x :: V, y :: S, h, hS, v, hv => by
    rcases List.mem_cons.mp hv with e | e
    · rw [e]; exact Nat.le_trans h.1 (hS y List.mem_cons_self)
    · exact leL_K (V := V) (S := S) h.2 (fun s hs => hS s (List.mem_cons_of_mem y hs)) v e
  | [], _ :: _, h, _, _, _ => by cases h
  | _ :: _, [], h, _, _, _ => by cases h
theorem prF_0y (hb : b < 5) : prF M b 0 [x] = mA M 14 x := by
  match b, hb with
  | 0, _ => exact Int32.zero_add _
  | 1, _ => exact Int32.zero_add _
  | 2, _ => exact Int32.zero_add _
  | 3, _ => exact Int32.zero_add _
  | 4, _ => exact Int32.zero_add _
/-- a step -/
theorem cs_X (hJ : Jv M n) (hR : Ri M n) (ho : o < n) (hl1 : 1 ≤ lfN M o) (hT : mI M 801 = io T) (hT4 : T < 1500) (hL : vLm M n) (oo : mB M 2 (oM M o) = false) : Gx (csM M n o) M := by
  have hn := hR.2.1
  have hTn : tN M = T := tN_T hT (by omega)
  unfold csM
  cases hw : bwF M n (oB M o) (mB M 3 o) with
  | none => exact Gx.refl M
  | some w =>
    obtain ⟨hw3, hx, hnd, hne, hfar, hlen⟩ := leg_Gd hJ hR ho hw
    have hb5 := gb5 hR ho
    have hok := wok_L (bwF_ok hw).2
    have hp0 : w = 0 → vPb (oB M o) (wprF M n (oB M o) (mB M 3 o) w) := fun e => by
      subst e
      rw [wpr_L hok]
      obtain ⟨g1, _, _, _, _, g6⟩ := lg_mem hb5 (by decide) hok
      obtain ⟨y, y1, y2⟩ := g6 rfl
      have y3 := (g1 y (by rw [y1]; exact List.mem_cons_self)).1
      rw [y1, prF_0y hb5, ← y2]
      exact (hL y y3).1
    have hp1 : 1 ≤ w → ∀ y, y ∈ legL M n o w → 80 ≤ ((plV M (oB M o) false (wprF M n (oB M o) (mB M 3 o) w) (legL M n o w) dV).2.1 y).toInt ∧ ((plV M (oB M o) false (wprF M n (oB M o) (mB M 3 o) w) (legL M n o w) dV).2.1 y).toInt ≤ 124 := fun e => by
      have e0 : Nat.beq w 0 = false := nb_f (by omega)
      have eL : legL M n o w = (lgO M n (oB M o) (mB M 3 o) w).getD [] := by
        unfold legL
        rw [e0]; rfl
      rw [eL, wpr_L hok]
      exact lp_L hL rfl hb5 hw3 e hok
    show Gx (stpM M n o (wprF M n (oB M o) (mB M 3 o) w) (legL M n o w) (LgF M (oB M o) w (wprF M n (oB M o) (mB M 3 o) w) (legL M n o w)) (trF M n o w (wprF M n (oB M o) (mB M 3 o) w) (legL M n o w))) M
    generalize wprF M n (oB M o) (mB M 3 o) w = p at *
    generalize legL M n o w = L at *
    have h200 := nd_len n L hnd (fun y hy => (hx y hy).1)
    have hS := Iv_Sh hJ.1 hx
    have hxB : ∀ y, y ∈ L → y < n ∧ mB M 2 (oM M y) = false := fun y hy => ⟨(hx y hy).1, (hL y (hx y hy).1).2.2 (Or.inr (Or.inl (hx y hy).2))⟩
    have h12 : ∀ y, y ∈ L → shN M y ≤ 12 := fun y hy => by
      obtain ⟨_, _, g3, _⟩ := Iv_sh hJ.1 (hx y hy).1 (hx y hy).2
      have := (hL y (hx y hy).1).2.1
      omega
    cases hbad : badP M o p with
    | true => rw [(stp_bad hbad).1]; exact Gx.refl M
    | false =>
      cases hown : ownB M (oM M o) L with
      | true => rw [(stp_own hbad hown).1]; exact Gx_own (Gx.refl M)
      | false =>
        cases hob : obF M n (LgF M (oB M o) w p L) (LgF M (oB M o) w p L).length with
        | some c => rw [(stp_h (tr := trF M n o w p L) hbad hown hob).1]; exact Gx_halt
        | none =>
          rw [(stp_tr (tr := trF M n o w p L) hbad hown hob).1]
          unfold trF
          rw [hTn]
          by_cases hw0 : w = 0
          · rw [if_pos hw0]
            unfold cshF
            refine Gx_re (Gx_tk (Gx_flL _ _ _ (Gx_mkL (B2 := mB M 2) hR ho (hp0 hw0) oo L _ M T hxB (fun v hv => ?_) rfl hT (by omega) (Gx.refl M))))
            refine leL_K (portN_le (a := lfN M o) (Sh_1 hS)) (fun s hs => ?_) v hv
            obtain ⟨x, hx2, ex⟩ := List.mem_map.mp hs
            rw [← ex]; exact h12 x hx2
          · rw [if_neg hw0]
            obtain ⟨hlf, hlf1⟩ := Iv_lf hJ.1 ho
            obtain ⟨z1, z2, z3⟩ := szN_b hS hl1
            have hz : decide (io w = 0) = false := decide_eq_false (fun z => hw0 ((io_inj (q := 0) (by omega) (by decide)).mp z))
            have hd := (hfar dV).2
            rw [hz] at hd
            have hp9 := hp1 (by omega)
            have h129 := (hL o ho).2.1
            unfold wayF
            rw [hlf, szF_io hS hlf1]
            refine Gx_rfL (Gx_re (Gx_tk (Gx_flS (Gx_mlG (B2 := mB M 2) hR z1 (by omega) L 0 (oM M o) M T (fun x h => ⟨hxB x h, hp9 x h, fun d e => hd x d e h⟩) (gm6 hR ho) oo rfl hT (by omega) (Gx.refl M)))))
theorem vLm_go (h : vLm M n) (hu : Un N M) (hl : ∀ k, k < n → lfN N k ≤ lfN M k) (hd : ∀ k, k < n → (mA N 19 k = 0 ∨ mA N 19 k = 1 ∨ mA N 19 k = 4) → (mA M 19 k = 0 ∨ mA M 19 k = 1 ∨ mA M 19 k = 4)) : vLm N n := fun k hk => by
  obtain ⟨h1, h2, h3⟩ := h k hk
  have e12 : mA N 12 = mA M 12 := hu.1 12 rfl
  have e13 : mA N 13 = mA M 13 := hu.1 13 rfl
  have e14 : mA N 14 = mA M 14 := hu.1 14 rfl
  have eM : oM N k = oM M k := by unfold oM; rw [e12]
  have eB : oB N k = oB M k := by unfold oB; rw [e13]
  refine ⟨by rw [eB, e14]; exact h1, Nat.le_trans (hl k hk) h2, fun g => ?_⟩
  rw [eM, hu.2.1 2 (by decide) (by decide)]
  exact h3 (hd k hk g)
theorem Dd_lv (hd : Dd N M n) : ∀ k, k < n → (mA N 19 k = 0 ∨ mA N 19 k = 1 ∨ mA N 19 k = 4) → (mA M 19 k = 0 ∨ mA M 19 k = 1 ∨ mA M 19 k = 4) := fun k hk g => by
  by_cases h0 : mA M 19 k = 0
  · exact Or.inl h0
  · by_cases h1 : mA M 19 k = 1
    · exact Or.inr (Or.inl h1)
    · by_cases h4 : mA M 19 k = 4
      · exact Or.inr (Or.inr h4)
      · rw [(hd k hk).1 h0 h1 h4] at g; exact g
theorem mt_X (ho : o < n) : ∀ (f : Nat) (M : sM) (T : Nat), Jv M n → Ri M n → mA M 19 o = 4 → mI M 801 = io T → T < 4096 → vLm M n → Gx (mtF n o f M) M := by
  intro f
  induction f with
  | zero => intro M T _ _ _ _ _ _; exact Gx.refl M
  | succ f ih =>
    intro M T hJ hR h19 hT hT4 hL
    by_cases hst : lfN M o = 0 ∨ 1500 ≤ tN M
    · rw [mtF_stop hst]; exact Gx.refl M
    · rw [mtF_go hst]
      have hTn : tN M = T := tN_T hT hT4
      have hl1 : 1 ≤ lfN M o := by omega
      have hG := cs_X hJ hR ho hl1 hT (by omega) hL ((hL o ho).2.2 (Or.inr (Or.inr h19)))
      cases hz : csZ M n o with
      | false => exact hG
      | true =>
        obtain ⟨j1, j2, _, _⟩ := cs_J hJ hR ho h19 hl1 (fun b s _ => Cl_ex hJ b s)
        obtain ⟨T', t1, t2, t3⟩ := cs_T hJ hR ho hT (by omega)
        have hOt := cs_Ot hJ hR ho
        have hL2 : vLm (csM M n o) n := vLm_go hL hG.1 (fun k hk => (cs_Lz hJ hR ho h19 hl1 k hk).1) (fun k hk g => by
          by_cases e : k = o
          · rw [e]; exact Or.inr (Or.inr h19)
          · by_cases h1 : mA M 19 k = 1
            · exact Or.inr (Or.inl h1)
            · rw [(hOt.1 k e h1).1] at g; exact g)
        exact (ih (csM M n o) T' j1 (cs_R hJ hR ho) j2 t1 (by omega) hL2).trans hG
theorem mtR_X (hJ : Jv M n) (hR : Ri M n) (ho : o < n) (hs : mA M 19 o = 0 ∨ mA M 19 o = 4) (hT : mI M 801 = io T) (hT4 : T < 4096) (hL : vLm M n) : Gx (mtR M n o) M := by
  have g1 : Gx (mAw M 19 o 4) M := Gx_A rfl (Gx.refl M)
  have hL1 : vLm (mAw M 19 o 4) n := vLm_go hL g1.1 (fun k _ => Nat.le_refl _) (fun k hk g => by
    by_cases e : k = o
    · rw [e]; rcases hs with h | h
      · exact Or.inl h
      · exact Or.inr (Or.inr h)
    · have a19 : mA (mAw M 19 o 4) 19 k = mA M 19 k := aw_o e
      rw [a19] at g; exact g)
  unfold mtR
  cases decide (mA M 0 (oB M o) = 2) with
  | false => exact g1
  | true => exact (mt_X ho 305 (mAw M 19 o 4) T (Jv_4 hJ ho hs) ((Fr_A rfl (Fr.refl M) : Fr (mAw M 19 o 4) M).ri hR) w4_19 hT hT4 hL1).trans g1
theorem com_X (hK : Kv M n) (ho : o < n) (hs : mA M 19 o = 0 ∨ mA M 19 o = 4) (hL : vLm M n) : Gx (comF M n o) M := by
  obtain ⟨hJ, hR, hQ, hW, T, hT, hT4⟩ := hK
  have e : comF M n o = poF (seF (finF (mtR M n o) o) o) n := rfl
  rw [e]
  exact Gx_po (Gx_se (Gx_fin (mtR_X hJ hR ho hs hT hT4 hL)))
theorem com_Lm (hK : Kv M n) (ho : o < n) (hs : mA M 19 o = 0 ∨ mA M 19 o = 4) (hL : vLm M n) : vLm (comF M n o) n := by
  obtain ⟨d1, _, d3⟩ := com_D hK ho hs
  exact vLm_go hL d3.1 (fun k hk => (com_Lz hK ho hs k hk).1) (Dd_lv d1)
theorem com_tl (hK : Kv M n) (ho : o < n) (hs : mA M 19 o = 0 ∨ mA M 19 o = 4) : tN M ≤ tN (comF M n o) := by
  obtain ⟨_, _, _, k4⟩ := com_all hK ho hs
  obtain ⟨T, hT, hT4⟩ := hK.2.2.2.2
  obtain ⟨T', t1, t2, t3⟩ := k4 T hT hT4
  have e1 := tN_T hT hT4
  have e2 : tN (comF M n o) = T' := tN_T t1 (by omega)
  omega
theorem fol_X : ∀ (f : Nat) (M : sM), Kv M n → vLm M n → Gx (folF n f M) M ∧ vLm (folF n f M) n ∧ tN M ≤ tN (folF n f M)
  | 0, M, _, hL => ⟨Gx.refl M, hL, Nat.le_refl _⟩
  | f + 1, M, hK, hL => by
    cases e : lrF M n with
    | none => rw [fol_n e]; exact ⟨Gx.refl M, hL, Nat.le_refl _⟩
    | some o =>
      obtain ⟨ho, h0⟩ := lrF_s e
      rw [fol_s e]
      obtain ⟨k1, _, _, _⟩ := com_all hK ho (Or.inl h0)
      obtain ⟨i1, i2, i3⟩ := fol_X f (comF M n o) k1 (com_Lm hK ho (Or.inl h0) hL)
      exact ⟨i1.trans (com_X hK ho (Or.inl h0) hL), i2, Nat.le_trans (com_tl hK ho (Or.inl h0)) i3⟩
end Syd
