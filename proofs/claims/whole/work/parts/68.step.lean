/-! a step as a function of the state (printed by step68.py) -/
section S68
variable {t t' : sT} {M M' M0 N : sM} {n T b c m o k x y K w f : Nat} {p a d sz : Int32} {s z : Bool} {L L' l : List Nat} {Q : sRs → sT → Prop}
theorem bif_e {c : Bool} {x y : Option Nat} (h : (bif c then x else y) = some w) : x = some w ∨ y = some w := by
  cases c
  · exact Or.inr h
  · exact Or.inl h
set_option maxHeartbeats 4000000 in
theorem bwF_ok (h : bwF M n b s = some w) : w < 3 ∧ wokF M n b s w = true := by
  unfold bwF at h
  cases h0 : wokF M n b s 0 <;> cases h1 : wokF M n b s 1 <;> cases h2 : wokF M n b s 2 <;> simp only [h0, h1, h2, cond_true, cond_false, Option.isNone_none, Option.isNone_some, Bool.true_or, Bool.false_or] at h
  all_goals first
    | (cases h; done)
    | (cases h; exact ⟨by decide, by assumption⟩)
    | (rcases bif_e h with h | h <;> first
        | (cases h; exact ⟨by decide, by assumption⟩)
        | (rcases bif_e h with h | h <;> (cases h; exact ⟨by decide, by assumption⟩)))
def LgF (M : sM) (b w : Nat) (p : Int32) (L : List Nat) : List (Nat × Int32) := match b, w, L with
  | 0, 1, [o0, o1] => [(0, p), (1, (p + (-(mA M 14 o0))))]
  | 0, 2, [o0, o1, o2] => [(0, p), (1, (p + (-(mA M 14 o0)))), (2, ((p + (-(mA M 14 o0))) + (-(mA M 14 o1))))]
  | 1, 1, [o0, o1] => [(1, p), (2, (p + (-(mA M 14 o0))))]
  | 1, 2, [o0, o1] => [(1, p), (0, (p + (mA M 14 o0)))]
  | 2, 1, [o0, o1] => [(2, p), (1, (p + (mA M 14 o0)))]
  | 2, 2, [o0, o1, o2] => [(2, p), (1, (p + (mA M 14 o0))), (0, ((p + (mA M 14 o0)) + (mA M 14 o1)))]
  | 3, 1, [o0, o1] => [(0, (mA M 14 o0)), (1, (mA M 14 o1))]
  | 4, 1, [o0, o1] => [(1, (mA M 14 o0)), (2, (mA M 14 o1))]
  | b, 0, _ => lg0 b p
  | _, _, _ => []
/-- how many trades there are -/
def tN (M : sM) : Nat := (mI M 801).toNatClampNeg
def dV : TV := (fun _ => 0, fun _ => 0, fun _ => none, fun _ => 0)
noncomputable def legL (M : sM) (n o w : Nat) : List Nat := bif (Nat.beq w 0 && mB M 0 (oB M o)) then Classical.epsilon (Lv M n (oB M o) (!(mB M 3 o)) (mA M 14 (ovD (bsF M n (oB M o) (!(mB M 3 o)))))) else (lgO M n (oB M o) (mB M 3 o) w).getD []
def trF (M : sM) (n o w : Nat) (p : Int32) (L : List Nat) : sM := if w = 0 then cshF M n (tN M) o p L (portN (L.map (shN M)) (lfN M o)) else wayF M n (tN M) o p L (plV M (oB M o) false p L dV)
noncomputable def csM (M : sM) (n o : Nat) : sM := match bwF M n (oB M o) (mB M 3 o) with
  | none => M
  | some w => stpM M n o (wprF M n (oB M o) (mB M 3 o) w) (legL M n o w) (LgF M (oB M o) w (wprF M n (oB M o) (mB M 3 o) w) (legL M n o w)) (trF M n o w (wprF M n (oB M o) (mB M 3 o) w) (legL M n o w))
noncomputable def csZ (M : sM) (n o : Nat) : Bool := match bwF M n (oB M o) (mB M 3 o) with
  | none => false
  | some w => stpZ M n o (wprF M n (oB M o) (mB M 3 o) w) (legL M n o w) (LgF M (oB M o) w (wprF M n (oB M o) (mB M 3 o) w) (legL M n o w))
/-- lists with the same members, by the same strict order, are the same -/
theorem pw_uniq {R : Nat → Nat → Prop} (irr : ∀ x, ¬ R x x) (asy : ∀ x y, R x y → ¬ R y x) : ∀ {l l' : List Nat}, l.Pairwise R → l'.Pairwise R → (∀ x, x ∈ l ↔ x ∈ l') → l = l'
  | [], [], _, _, _ => rfl
  | [], y :: l', _, _, h => by have := (h y).mpr List.mem_cons_self; cases this
  | x :: l, [], _, _, h => by have := (h x).mp List.mem_cons_self; cases this
  | x :: l, y :: l', h1, h2, h => by
    rw [List.pairwise_cons] at h1 h2
    have e : x = y := by
      rcases List.mem_cons.mp ((h x).mp List.mem_cons_self) with e | e
      · exact e
      · rcases List.mem_cons.mp ((h y).mpr List.mem_cons_self) with e2 | e2
        · exact e2.symm
        · exact absurd (h2.1 x e) (asy _ _ (h1.1 y e2))
    subst e
    refine congrArg (List.cons x) (pw_uniq irr asy h1.2 h2.2 (fun z => Iff.intro ?_ ?_))
    · intro hz
      rcases List.mem_cons.mp ((h z).mp (List.mem_cons_of_mem x hz)) with e | e
      · rw [e] at hz; exact absurd (h1.1 x hz) (irr x)
      · exact e
    · intro hz
      rcases List.mem_cons.mp ((h z).mpr (List.mem_cons_of_mem x hz)) with e | e
      · rw [e] at hz; exact absurd (h2.1 x hz) (irr x)
      · exact e
theorem i32_as {u v : Int32} (h : u < v) : ¬ v < u := fun h2 => by
  rw [Int32.lt_iff_toInt_lt] at h h2
  omega
theorem Lv_uniq (h1 : Lv M n b s p L) (h2 : Lv M n b s p L') : L = L' :=
  pw_uniq (fun _ h => absurd h Int32.lt_irrefl) (fun _ _ h => i32_as h) h1.2 h2.2 (fun x => (h1.1 x).trans (h2.1 x).symm)
theorem Lv_eps (h : Lv M n b s p L) : Classical.epsilon (Lv M n b s p) = L := Lv_uniq (Classical.epsilon_spec (p := Lv M n b s p) ⟨L, h⟩) h
/-- the level of the best resting order -/
theorem Lv_of (hp : (x :: l).Pairwise (btr M s)) (hm : ∀ o, o ∈ x :: l ↔ rst M n b s o) : Lv M n b s (mA M 14 x) (lvF M (x :: l)) := by
  have key : ∀ (l2 : List Nat), l2.Pairwise (btr M s) → (∀ y, y ∈ l2 → mA M 14 y = mA M 14 x ∨ btr M s x y) → (∀ y, y ∈ l2.takeWhile (fun y => decide (mA M 14 y = mA M 14 x)) ↔ y ∈ l2 ∧ mA M 14 y = mA M 14 x) ∧ (l2.takeWhile (fun y => decide (mA M 14 y = mA M 14 x))).Pairwise (fun u v => mA M 18 u < mA M 18 v) := by
    intro l2
    induction l2 with
    | nil => intro _ _; exact ⟨fun y => Iff.intro (fun h => absurd h (List.not_mem_nil)) (fun h => absurd h.1 (List.not_mem_nil)), List.Pairwise.nil⟩
    | cons a r ih =>
      intro h1 h2
      rw [List.pairwise_cons] at h1
      obtain ⟨i1, i2⟩ := ih h1.2 (fun y hy => h2 y (List.mem_cons_of_mem a hy))
      by_cases e : mA M 14 a = mA M 14 x
      · rw [List.takeWhile_cons, decide_eq_true e]
        refine ⟨fun y => ?_, ?_⟩
        · show y ∈ a :: r.takeWhile _ ↔ _
          rw [List.mem_cons, List.mem_cons, i1]
          constructor
          · rintro (h | ⟨h, h'⟩)
            · exact ⟨Or.inl h, by rw [h]; exact e⟩
            · exact ⟨Or.inr h, h'⟩
          · rintro ⟨h | h, h'⟩
            · exact Or.inl h
            · exact Or.inr ⟨h, h'⟩
        · show (a :: r.takeWhile _).Pairwise _
          rw [List.pairwise_cons]
          refine ⟨fun y hy => ?_, i2⟩
          have hy2 := (i1 y).mp hy
          have hb := h1.1 y hy2.1
          unfold btr at hb
          rw [if_pos (e.trans hy2.2.symm)] at hb
          exact hb
      · rw [List.takeWhile_cons, decide_eq_false e]
        refine ⟨fun y => Iff.intro (fun h => absurd h (List.not_mem_nil)) (fun h => ?_), List.Pairwise.nil⟩
        exfalso
        have hxa : btr M s x a := by
          rcases h2 a List.mem_cons_self with h3 | h3
          · exact absurd h3 e
          · exact h3
        rcases List.mem_cons.mp h.1 with h3 | h3
        · exact e (by rw [← h3]; exact h.2)
        · have hay := h1.1 y h3
          unfold btr at hxa hay
          rw [if_neg (fun q => e q.symm)] at hxa
          rw [if_neg (fun q => e (q.trans h.2)), h.2] at hay
          cases s
          · rw [if_neg (by decide)] at hxa hay
            exact i32_as hxa hay
          · rw [if_pos rfl] at hxa hay
            exact i32_as hxa hay
  rw [List.pairwise_cons] at hp
  obtain ⟨k1, k2⟩ := key (x :: l) (List.pairwise_cons.mpr hp) (fun y hy => by
    rcases List.mem_cons.mp hy with e | e
    · exact Or.inl (by rw [e])
    · exact Or.inr (hp.1 y e))
  refine ⟨fun y => ?_, k2⟩
  rw [← hm y]
  exact k1 y
theorem wpr_L (h : lgO M n b s w = some L) : wprF M n b s w = prF M b w L := by
  unfold wprF; rw [h]; rfl
theorem wok_L (h : wokF M n b s w = true) : lgO M n b s w = some ((lgO M n b s w).getD []) := gsome h

set_option maxHeartbeats 4000000 in
theorem v173 (hV : Vr t M n) (hI : Iv M n) (ho : o < n) (h19 : mA M 19 o = 4) (hl1 : 1 ≤ lfN M o) (hT : mI M 801 = io T) (hT4 : T + 402 ≤ 4096)
    (hCl : ∀ b s, b < 5 → ∃ l, Cl M n b s l)
    (q : ∀ t', Vr t' (finF (csM M n o) o) n → cp t' = cp t → Q (.inl (some (.inl (bz (csZ M n o))))) t') :
    X 173 0 [.inr (.inr (12, (some 0))), .inl (io o), sJk, sJk, sJk, sJk, sJk, sJk, sJk, sJk, sJk, sJk, sJk] [] t Q := by
  have hb := gb5 hV.2.2 ho
  obtain ⟨hlf, hlf1⟩ := Iv_lf hI ho
  have h15 : ¬ mA M 15 o = 0 := by rw [hlf]; exact pos_ne0 ((io_pos (by omega)).mpr hl1)
  have hTn : tN M = T := by unfold tN; rw [hT]; exact nn_io (by omega)
  cases hw : bwF M n (oB M o) (mB M 3 o) with
  | none =>
    have e1 : csM M n o = M := by unfold csM; rw [hw]
    have e2 : csZ M n o = false := by unfold csZ; rw [hw]
    rw [e1, e2, fin_no h15] at q
    refine r173s_0 hV.1 hV.2.1 hV.2.2 ho ?_
    refine r161 hV.1 hV.2.1 hV.2.2 hb (fun t1 h1 c1 _ => ?_)
    rw [hw]
    have hV1 := Vr_mk hV h1 c1 (Fr.refl M)
    refine sK_i (pc' := 20) rfl ?_
    exact r173s_20n hV1.1 hV1.2.1 hV1.2.2 ho hb (q t1 hV1 c1)
  | some w =>
    obtain ⟨hw3, hok⟩ := bwF_ok hw
    have hlg := wok_L hok
    have e1 : csM M n o = stpM M n o (wprF M n (oB M o) (mB M 3 o) w) (legL M n o w) (LgF M (oB M o) w (wprF M n (oB M o) (mB M 3 o) w) (legL M n o w)) (trF M n o w (wprF M n (oB M o) (mB M 3 o) w) (legL M n o w)) := by unfold csM; rw [hw]
    have e2 : csZ M n o = stpZ M n o (wprF M n (oB M o) (mB M 3 o) w) (legL M n o w) (LgF M (oB M o) w (wprF M n (oB M o) (mB M 3 o) w) (legL M n o w)) := by unfold csZ; rw [hw]
    rw [e1, e2] at q
    clear e1 e2
    generalize hLL : (lgO M n (oB M o) (mB M 3 o) w).getD [] = LL at hlg
    by_cases hsh : w = 0 ∧ mB M 0 (oB M o) = true
    · obtain ⟨hw0, hsh⟩ := hsh
      subst hw0
      have hQ : ∃ Q9, lgO M n (oB M o) (mB M 3 o) 0 = lgF M n (mB M 3 o) Q9 ∧ Q9 = [(oB M o, false)] := by
        match h9 : oB M o, hb with
        | 0, _ => exact ⟨_, rfl, rfl⟩
        | 1, _ => exact ⟨_, rfl, rfl⟩
        | 2, _ => exact ⟨_, rfl, rfl⟩
        | 3, _ => exact ⟨_, rfl, rfl⟩
        | 4, _ => exact ⟨_, rfl, rfl⟩
      obtain ⟨Q9, hQ1, hQ2⟩ := hQ
      subst hQ2
      rw [hQ1] at hlg
      obtain ⟨g1, g2⟩ := lgF_all hlg
      obtain ⟨g3, g4⟩ := g2 _ List.mem_cons_self
      have es : (!(xor false (mB M 3 o))) = (!(mB M 3 o)) := by cases mB M 3 o <;> rfl
      have g4' : bsF M n (oB M o) (!(mB M 3 o)) = some (ovD (bsF M n (oB M o) (!(mB M 3 o)))) := by rw [← es]; exact g4
      generalize hx : ovD (bsF M n (oB M o) (!(mB M 3 o))) = x at g4'
      obtain ⟨l, hl1', hl2'⟩ := hCl (oB M o) (!(mB M 3 o)) hb
      have ehd := bsF_hd hl1' hl2'
      rw [g4'] at ehd
      cases l with
      | nil => cases ehd
      | cons y l =>
        cases ehd
        have hLv := Lv_of hl1' hl2'
        have eleg : legL M n o 0 = lvF M (x :: l) := by
          unfold legL
          rw [hsh, hx]
          exact Lv_eps hLv
        have elv : lvF M (x :: l) = x :: l.takeWhile (fun y => decide (mA M 14 y = mA M 14 x)) := by
          show (x :: l).takeWhile (fun y => decide (mA M 14 y = mA M 14 x)) = _
          rw [List.takeWhile_cons, decide_eq_true rfl]
          rfl
        have hlgx : lgO M n (oB M o) (mB M 3 o) 0 = some [x] := by
          rw [hQ1, hlg, g1]
          show some [ovD (bsF M n (oB M o) (!(xor false (mB M 3 o))))] = some [x]
          rw [es, hx]
        have epr : wprF M n (oB M o) (mB M 3 o) 0 = mA M 14 x := by rw [wpr_L hlgx, prF_0 hb]
        rw [eleg, elv, epr] at q
        rw [elv] at hLv
        generalize l.takeWhile (fun y => decide (mA M 14 y = mA M 14 x)) = l2 at q hLv
        have hmem : ∀ y, y ∈ x :: l2 → y < n ∧ mA M 19 y = 1 := fun y hy => by
          have := ((hLv.1 y).mp hy).1
          exact ⟨this.1, this.2.1⟩
        have hnd : (x :: l2).Nodup := hLv.2.imp (fun {a b} h e => by rw [e] at h; exact absurd h Int32.lt_irrefl)
        have hlen := nd_len n _ hnd (fun y hy => (hmem y hy).1)
        have hn := hI.2.2.2.2.2
        have hS := Iv_Sh hI hmem
        have hnl : ¬ o ∈ x :: l2 := fun e => by have := (hmem o e).2; rw [h19] at this; exact absurd this (by decide)
        have eLg : LgF M (oB M o) 0 (mA M 14 x) (x :: l2) = lg0 (oB M o) (mA M 14 x) := by
          unfold LgF
          match h9 : oB M o, hb with
          | 0, _ => rfl
          | 1, _ => rfl
          | 2, _ => rfl
          | 3, _ => rfl
          | 4, _ => rfl
        have etr : trF M n o 0 (mA M 14 x) (x :: l2) = cshF M n T o (mA M 14 x) (x :: l2) (portN ((x :: l2).map (shN M)) (lfN M o)) := by
          unfold trF
          rw [if_pos rfl, hTn]
        rw [eLg, etr] at q
        have hfin := stp_fin (M := M) (n := n) (o := o) (p := mA M 14 x) (L := x :: l2) (Lg := lg0 (oB M o) (mA M 14 x)) (tr := cshF M n T o (mA M 14 x) (x :: l2) (portN ((x :: l2).map (shN M)) (lfN M o))) h15
        rw [csh_fin hS hnl h19] at hfin
        have hZ := stp_Z (M := M) (n := n) (o := o) (p := mA M 14 x) (L := x :: l2) (Lg := lg0 (oB M o) (mA M 14 x))
        rw [hfin, hZ] at q
        refine v173_sh (A := lfN M o) hV ho hT hw hsh hlgx hLv (fun y hy => (Iv_sh hI (hmem y hy).1 (hmem y hy).2).2.2.2) hS hlf1 hlf (by omega) (by omega) (fun hb1 t' g c' => ?_) (fun hb1 ho1 t' g c' => ?_) (fun hb1 ho1 c hc hc3 t' g c' => ?_) (fun hb1 ho1 hc t' g c' => ?_)
        · rw [hb1] at q; exact q t' g c'
        · rw [hb1, ho1] at q; exact q t' g c'
        · rw [hb1, ho1, hc] at q; exact q t' g c'
        · rw [hb1, ho1, hc] at q; exact q t' g c'
    · have eleg : legL M n o w = LL := by
        unfold legL
        have e9 : (Nat.beq w 0 && mB M 0 (oB M o)) = false := by
          cases h1 : Nat.beq w 0 with
          | false => rfl
          | true =>
            cases h2 : mB M 0 (oB M o) with
            | false => rfl
            | true => exact absurd ⟨Nat.eq_of_beq_eq_true h1, h2⟩ hsh
        rw [e9]
        exact hLL
      have epr := wpr_L hlg
      rw [eleg, epr] at q
      clear eleg epr hLL hok
      generalize hbq : oB M o = b at *
      match b, hb, w, hw3 with
      | 0, _, 0, _ =>
        obtain ⟨g1, g2⟩ := lgF_all (Q9 := [(0, false)]) hlg
        have hLw := Lw_of (Q9 := [(0, false)]) hlg
        obtain ⟨o0, ho0⟩ : ∃ u, u = ovD (bsF M n 0 (!(xor false (mB M 3 o)))) := ⟨_, rfl⟩
        have eL : LL = [o0] := by rw [g1, ho0]; rfl
        clear g1 g2 ho0
        subst eL
        have m0 := hLw.1 o0 List.mem_cons_self
        have b0 : oB M o0 = 0 := (List.cons.inj hLw.2).1
        have hno : ¬ o ∈ [o0] := fun e => by have := (hLw.1 o e).2.1; rw [h19] at this; exact absurd this (by decide)
        have hS := Iv_Sh hI (L := [o0]) (fun y hy => ⟨(hLw.1 y hy).1, (hLw.1 y hy).2.1⟩)
        obtain ⟨s1, s2⟩ := st_00_e (n := n) (T := T) hbq b0 h19 hno hS hlf hl1 hlf1
        have etr : trF M n o 0 (prF M 0 0 [o0]) [o0] = cshF M n T o (prF M 0 0 [o0]) [o0] (portN ([o0].map (shN M)) (lfN M o)) := by unfold trF; rw [if_pos rfl, hTn]
        rw [etr] at q
        refine r173_00 (T := T) hV.1 hV.2.1 hV.2.2 ho hbq hw hlg m0.1 b0 hT (by omega) (by cases hz : mB M 0 0 with
          | false => rfl
          | true => exact absurd ⟨rfl, hz⟩ hsh) (fun t' g1 g2 => ?_)
        rw [s2]
        exact q t' (Vr_mk hV (g1.trans s1) g2 (s1 ▸ Fr_st00F (Fr.refl M))) g2
      | 0, _, 1, _ =>
        obtain ⟨g1, g2⟩ := lgF_all (Q9 := [(3, false), (1, false)]) hlg
        have hLw := Lw_of (Q9 := [(3, false), (1, false)]) hlg
        obtain ⟨o0, ho0⟩ : ∃ u, u = ovD (bsF M n 3 (!(xor false (mB M 3 o)))) := ⟨_, rfl⟩
        obtain ⟨o1, ho1⟩ : ∃ u, u = ovD (bsF M n 1 (!(xor false (mB M 3 o)))) := ⟨_, rfl⟩
        have eL : LL = [o0, o1] := by rw [g1, ho0, ho1]; rfl
        clear g1 g2 ho0 ho1
        subst eL
        have m0 := hLw.1 o0 List.mem_cons_self
        have b0 : oB M o0 = 3 := (List.cons.inj hLw.2).1
        have m1 := hLw.1 o1 (List.mem_cons_of_mem _ List.mem_cons_self)
        have b1 : oB M o1 = 1 := (List.cons.inj (List.cons.inj hLw.2).2).1
        have h01 : ¬ o0 = o1 := fun e => by rw [e, b1] at b0; cases b0
        have hno : ¬ o ∈ [o0, o1] := fun e => by have := (hLw.1 o e).2.1; rw [h19] at this; exact absurd this (by decide)
        obtain ⟨s1, s2⟩ := st_01_e (n := n) (T := T) (V0 := dV) hbq b0 b1 h01 h19 hno h15
        have etr : trF M n o 1 (prF M 0 1 [o0, o1]) [o0, o1] = wayF M n T o (prF M 0 1 [o0, o1]) [o0, o1] (plV M (oB M o) false (prF M 0 1 [o0, o1]) [o0, o1] dV) := by unfold trF; rw [if_neg (by decide), hTn]
        rw [etr] at q
        refine r173_01 (T := T) hV.1 hV.2.1 hV.2.2 ho hbq hw hlg m0.1 m1.1 b0 b1 hT (by omega) (fun t' g1 g2 => ?_)
        rw [s2]
        exact q t' (Vr_mk hV (g1.trans s1) g2 (s1 ▸ Fr_st01F (Fr.refl M))) g2
      | 0, _, 2, _ =>
        obtain ⟨g1, g2⟩ := lgF_all (Q9 := [(3, false), (4, false), (2, false)]) hlg
        have hLw := Lw_of (Q9 := [(3, false), (4, false), (2, false)]) hlg
        obtain ⟨o0, ho0⟩ : ∃ u, u = ovD (bsF M n 3 (!(xor false (mB M 3 o)))) := ⟨_, rfl⟩
        obtain ⟨o1, ho1⟩ : ∃ u, u = ovD (bsF M n 4 (!(xor false (mB M 3 o)))) := ⟨_, rfl⟩
        obtain ⟨o2, ho2⟩ : ∃ u, u = ovD (bsF M n 2 (!(xor false (mB M 3 o)))) := ⟨_, rfl⟩
        have eL : LL = [o0, o1, o2] := by rw [g1, ho0, ho1, ho2]; rfl
        clear g1 g2 ho0 ho1 ho2
        subst eL
        have m0 := hLw.1 o0 List.mem_cons_self
        have b0 : oB M o0 = 3 := (List.cons.inj hLw.2).1
        have m1 := hLw.1 o1 (List.mem_cons_of_mem _ List.mem_cons_self)
        have b1 : oB M o1 = 4 := (List.cons.inj (List.cons.inj hLw.2).2).1
        have m2 := hLw.1 o2 (List.mem_cons_of_mem _ (List.mem_cons_of_mem _ List.mem_cons_self))
        have b2 : oB M o2 = 2 := (List.cons.inj (List.cons.inj (List.cons.inj hLw.2).2).2).1
        have h01 : ¬ o0 = o1 := fun e => by rw [e, b1] at b0; cases b0
        have h02 : ¬ o0 = o2 := fun e => by rw [e, b2] at b0; cases b0
        have h12 : ¬ o1 = o2 := fun e => by rw [e, b2] at b1; cases b1
        have hno : ¬ o ∈ [o0, o1, o2] := fun e => by have := (hLw.1 o e).2.1; rw [h19] at this; exact absurd this (by decide)
        obtain ⟨s1, s2⟩ := st_02_e (n := n) (T := T) (V0 := dV) hbq b0 b1 b2 h01 h02 h12 h19 hno h15
        have etr : trF M n o 2 (prF M 0 2 [o0, o1, o2]) [o0, o1, o2] = wayF M n T o (prF M 0 2 [o0, o1, o2]) [o0, o1, o2] (plV M (oB M o) false (prF M 0 2 [o0, o1, o2]) [o0, o1, o2] dV) := by unfold trF; rw [if_neg (by decide), hTn]
        rw [etr] at q
        refine r173_02 (T := T) hV.1 hV.2.1 hV.2.2 ho hbq hw hlg m0.1 m1.1 m2.1 b0 b1 b2 hT (by omega) (fun t' g1 g2 => ?_)
        rw [s2]
        exact q t' (Vr_mk hV (g1.trans s1) g2 (s1 ▸ Fr_st02F (Fr.refl M))) g2
      | 1, _, 0, _ =>
        obtain ⟨g1, g2⟩ := lgF_all (Q9 := [(1, false)]) hlg
        have hLw := Lw_of (Q9 := [(1, false)]) hlg
        obtain ⟨o0, ho0⟩ : ∃ u, u = ovD (bsF M n 1 (!(xor false (mB M 3 o)))) := ⟨_, rfl⟩
        have eL : LL = [o0] := by rw [g1, ho0]; rfl
        clear g1 g2 ho0
        subst eL
        have m0 := hLw.1 o0 List.mem_cons_self
        have b0 : oB M o0 = 1 := (List.cons.inj hLw.2).1
        have hno : ¬ o ∈ [o0] := fun e => by have := (hLw.1 o e).2.1; rw [h19] at this; exact absurd this (by decide)
        have hS := Iv_Sh hI (L := [o0]) (fun y hy => ⟨(hLw.1 y hy).1, (hLw.1 y hy).2.1⟩)
        obtain ⟨s1, s2⟩ := st_10_e (n := n) (T := T) hbq b0 h19 hno hS hlf hl1 hlf1
        have etr : trF M n o 0 (prF M 1 0 [o0]) [o0] = cshF M n T o (prF M 1 0 [o0]) [o0] (portN ([o0].map (shN M)) (lfN M o)) := by unfold trF; rw [if_pos rfl, hTn]
        rw [etr] at q
        refine r173_10 (T := T) hV.1 hV.2.1 hV.2.2 ho hbq hw hlg m0.1 b0 hT (by omega) (by cases hz : mB M 0 1 with
          | false => rfl
          | true => exact absurd ⟨rfl, hz⟩ hsh) (fun t' g1 g2 => ?_)
        rw [s2]
        exact q t' (Vr_mk hV (g1.trans s1) g2 (s1 ▸ Fr_st10F (Fr.refl M))) g2
      | 1, _, 1, _ =>
        obtain ⟨g1, g2⟩ := lgF_all (Q9 := [(4, false), (2, false)]) hlg
        have hLw := Lw_of (Q9 := [(4, false), (2, false)]) hlg
        obtain ⟨o0, ho0⟩ : ∃ u, u = ovD (bsF M n 4 (!(xor false (mB M 3 o)))) := ⟨_, rfl⟩
        obtain ⟨o1, ho1⟩ : ∃ u, u = ovD (bsF M n 2 (!(xor false (mB M 3 o)))) := ⟨_, rfl⟩
        have eL : LL = [o0, o1] := by rw [g1, ho0, ho1]; rfl
        clear g1 g2 ho0 ho1
        subst eL
        have m0 := hLw.1 o0 List.mem_cons_self
        have b0 : oB M o0 = 4 := (List.cons.inj hLw.2).1
        have m1 := hLw.1 o1 (List.mem_cons_of_mem _ List.mem_cons_self)
        have b1 : oB M o1 = 2 := (List.cons.inj (List.cons.inj hLw.2).2).1
        have h01 : ¬ o0 = o1 := fun e => by rw [e, b1] at b0; cases b0
        have hno : ¬ o ∈ [o0, o1] := fun e => by have := (hLw.1 o e).2.1; rw [h19] at this; exact absurd this (by decide)
        obtain ⟨s1, s2⟩ := st_11_e (n := n) (T := T) (V0 := dV) hbq b0 b1 h01 h19 hno h15
        have etr : trF M n o 1 (prF M 1 1 [o0, o1]) [o0, o1] = wayF M n T o (prF M 1 1 [o0, o1]) [o0, o1] (plV M (oB M o) false (prF M 1 1 [o0, o1]) [o0, o1] dV) := by unfold trF; rw [if_neg (by decide), hTn]
        rw [etr] at q
        refine r173_11 (T := T) hV.1 hV.2.1 hV.2.2 ho hbq hw hlg m0.1 m1.1 b0 b1 hT (by omega) (fun t' g1 g2 => ?_)
        rw [s2]
        exact q t' (Vr_mk hV (g1.trans s1) g2 (s1 ▸ Fr_st11F (Fr.refl M))) g2
      | 1, _, 2, _ =>
        obtain ⟨g1, g2⟩ := lgF_all (Q9 := [(3, true), (0, false)]) hlg
        have hLw := Lw_of (Q9 := [(3, true), (0, false)]) hlg
        obtain ⟨o0, ho0⟩ : ∃ u, u = ovD (bsF M n 3 (!(xor true (mB M 3 o)))) := ⟨_, rfl⟩
        obtain ⟨o1, ho1⟩ : ∃ u, u = ovD (bsF M n 0 (!(xor false (mB M 3 o)))) := ⟨_, rfl⟩
        have eL : LL = [o0, o1] := by rw [g1, ho0, ho1]; rfl
        clear g1 g2 ho0 ho1
        subst eL
        have m0 := hLw.1 o0 List.mem_cons_self
        have b0 : oB M o0 = 3 := (List.cons.inj hLw.2).1
        have m1 := hLw.1 o1 (List.mem_cons_of_mem _ List.mem_cons_self)
        have b1 : oB M o1 = 0 := (List.cons.inj (List.cons.inj hLw.2).2).1
        have h01 : ¬ o0 = o1 := fun e => by rw [e, b1] at b0; cases b0
        have hno : ¬ o ∈ [o0, o1] := fun e => by have := (hLw.1 o e).2.1; rw [h19] at this; exact absurd this (by decide)
        obtain ⟨s1, s2⟩ := st_12_e (n := n) (T := T) (V0 := dV) hbq b0 b1 h01 h19 hno h15
        have etr : trF M n o 2 (prF M 1 2 [o0, o1]) [o0, o1] = wayF M n T o (prF M 1 2 [o0, o1]) [o0, o1] (plV M (oB M o) false (prF M 1 2 [o0, o1]) [o0, o1] dV) := by unfold trF; rw [if_neg (by decide), hTn]
        rw [etr] at q
        refine r173_12 (T := T) hV.1 hV.2.1 hV.2.2 ho hbq hw hlg m0.1 m1.1 b0 b1 hT (by omega) (fun t' g1 g2 => ?_)
        rw [s2]
        exact q t' (Vr_mk hV (g1.trans s1) g2 (s1 ▸ Fr_st12F (Fr.refl M))) g2
      | 2, _, 0, _ =>
        obtain ⟨g1, g2⟩ := lgF_all (Q9 := [(2, false)]) hlg
        have hLw := Lw_of (Q9 := [(2, false)]) hlg
        obtain ⟨o0, ho0⟩ : ∃ u, u = ovD (bsF M n 2 (!(xor false (mB M 3 o)))) := ⟨_, rfl⟩
        have eL : LL = [o0] := by rw [g1, ho0]; rfl
        clear g1 g2 ho0
        subst eL
        have m0 := hLw.1 o0 List.mem_cons_self
        have b0 : oB M o0 = 2 := (List.cons.inj hLw.2).1
        have hno : ¬ o ∈ [o0] := fun e => by have := (hLw.1 o e).2.1; rw [h19] at this; exact absurd this (by decide)
        have hS := Iv_Sh hI (L := [o0]) (fun y hy => ⟨(hLw.1 y hy).1, (hLw.1 y hy).2.1⟩)
        obtain ⟨s1, s2⟩ := st_20_e (n := n) (T := T) hbq b0 h19 hno hS hlf hl1 hlf1
        have etr : trF M n o 0 (prF M 2 0 [o0]) [o0] = cshF M n T o (prF M 2 0 [o0]) [o0] (portN ([o0].map (shN M)) (lfN M o)) := by unfold trF; rw [if_pos rfl, hTn]
        rw [etr] at q
        refine r173_20 (T := T) hV.1 hV.2.1 hV.2.2 ho hbq hw hlg m0.1 b0 hT (by omega) (by cases hz : mB M 0 2 with
          | false => rfl
          | true => exact absurd ⟨rfl, hz⟩ hsh) (fun t' g1 g2 => ?_)
        rw [s2]
        exact q t' (Vr_mk hV (g1.trans s1) g2 (s1 ▸ Fr_st20F (Fr.refl M))) g2
      | 2, _, 1, _ =>
        obtain ⟨g1, g2⟩ := lgF_all (Q9 := [(4, true), (1, false)]) hlg
        have hLw := Lw_of (Q9 := [(4, true), (1, false)]) hlg
        obtain ⟨o0, ho0⟩ : ∃ u, u = ovD (bsF M n 4 (!(xor true (mB M 3 o)))) := ⟨_, rfl⟩
        obtain ⟨o1, ho1⟩ : ∃ u, u = ovD (bsF M n 1 (!(xor false (mB M 3 o)))) := ⟨_, rfl⟩
        have eL : LL = [o0, o1] := by rw [g1, ho0, ho1]; rfl
        clear g1 g2 ho0 ho1
        subst eL
        have m0 := hLw.1 o0 List.mem_cons_self
        have b0 : oB M o0 = 4 := (List.cons.inj hLw.2).1
        have m1 := hLw.1 o1 (List.mem_cons_of_mem _ List.mem_cons_self)
        have b1 : oB M o1 = 1 := (List.cons.inj (List.cons.inj hLw.2).2).1
        have h01 : ¬ o0 = o1 := fun e => by rw [e, b1] at b0; cases b0
        have hno : ¬ o ∈ [o0, o1] := fun e => by have := (hLw.1 o e).2.1; rw [h19] at this; exact absurd this (by decide)
        obtain ⟨s1, s2⟩ := st_21_e (n := n) (T := T) (V0 := dV) hbq b0 b1 h01 h19 hno h15
        have etr : trF M n o 1 (prF M 2 1 [o0, o1]) [o0, o1] = wayF M n T o (prF M 2 1 [o0, o1]) [o0, o1] (plV M (oB M o) false (prF M 2 1 [o0, o1]) [o0, o1] dV) := by unfold trF; rw [if_neg (by decide), hTn]
        rw [etr] at q
        refine r173_21 (T := T) hV.1 hV.2.1 hV.2.2 ho hbq hw hlg m0.1 m1.1 b0 b1 hT (by omega) (fun t' g1 g2 => ?_)
        rw [s2]
        exact q t' (Vr_mk hV (g1.trans s1) g2 (s1 ▸ Fr_st21F (Fr.refl M))) g2
      | 2, _, 2, _ =>
        obtain ⟨g1, g2⟩ := lgF_all (Q9 := [(4, true), (3, true), (0, false)]) hlg
        have hLw := Lw_of (Q9 := [(4, true), (3, true), (0, false)]) hlg
        obtain ⟨o0, ho0⟩ : ∃ u, u = ovD (bsF M n 4 (!(xor true (mB M 3 o)))) := ⟨_, rfl⟩
        obtain ⟨o1, ho1⟩ : ∃ u, u = ovD (bsF M n 3 (!(xor true (mB M 3 o)))) := ⟨_, rfl⟩
        obtain ⟨o2, ho2⟩ : ∃ u, u = ovD (bsF M n 0 (!(xor false (mB M 3 o)))) := ⟨_, rfl⟩
        have eL : LL = [o0, o1, o2] := by rw [g1, ho0, ho1, ho2]; rfl
        clear g1 g2 ho0 ho1 ho2
        subst eL
        have m0 := hLw.1 o0 List.mem_cons_self
        have b0 : oB M o0 = 4 := (List.cons.inj hLw.2).1
        have m1 := hLw.1 o1 (List.mem_cons_of_mem _ List.mem_cons_self)
        have b1 : oB M o1 = 3 := (List.cons.inj (List.cons.inj hLw.2).2).1
        have m2 := hLw.1 o2 (List.mem_cons_of_mem _ (List.mem_cons_of_mem _ List.mem_cons_self))
        have b2 : oB M o2 = 0 := (List.cons.inj (List.cons.inj (List.cons.inj hLw.2).2).2).1
        have h01 : ¬ o0 = o1 := fun e => by rw [e, b1] at b0; cases b0
        have h02 : ¬ o0 = o2 := fun e => by rw [e, b2] at b0; cases b0
        have h12 : ¬ o1 = o2 := fun e => by rw [e, b2] at b1; cases b1
        have hno : ¬ o ∈ [o0, o1, o2] := fun e => by have := (hLw.1 o e).2.1; rw [h19] at this; exact absurd this (by decide)
        obtain ⟨s1, s2⟩ := st_22_e (n := n) (T := T) (V0 := dV) hbq b0 b1 b2 h01 h02 h12 h19 hno h15
        have etr : trF M n o 2 (prF M 2 2 [o0, o1, o2]) [o0, o1, o2] = wayF M n T o (prF M 2 2 [o0, o1, o2]) [o0, o1, o2] (plV M (oB M o) false (prF M 2 2 [o0, o1, o2]) [o0, o1, o2] dV) := by unfold trF; rw [if_neg (by decide), hTn]
        rw [etr] at q
        refine r173_22 (T := T) hV.1 hV.2.1 hV.2.2 ho hbq hw hlg m0.1 m1.1 m2.1 b0 b1 b2 hT (by omega) (fun t' g1 g2 => ?_)
        rw [s2]
        exact q t' (Vr_mk hV (g1.trans s1) g2 (s1 ▸ Fr_st22F (Fr.refl M))) g2
      | 3, _, 0, _ =>
        obtain ⟨g1, g2⟩ := lgF_all (Q9 := [(3, false)]) hlg
        have hLw := Lw_of (Q9 := [(3, false)]) hlg
        obtain ⟨o0, ho0⟩ : ∃ u, u = ovD (bsF M n 3 (!(xor false (mB M 3 o)))) := ⟨_, rfl⟩
        have eL : LL = [o0] := by rw [g1, ho0]; rfl
        clear g1 g2 ho0
        subst eL
        have m0 := hLw.1 o0 List.mem_cons_self
        have b0 : oB M o0 = 3 := (List.cons.inj hLw.2).1
        have hno : ¬ o ∈ [o0] := fun e => by have := (hLw.1 o e).2.1; rw [h19] at this; exact absurd this (by decide)
        have hS := Iv_Sh hI (L := [o0]) (fun y hy => ⟨(hLw.1 y hy).1, (hLw.1 y hy).2.1⟩)
        obtain ⟨s1, s2⟩ := st_30_e (n := n) (T := T) hbq b0 h19 hno hS hlf hl1 hlf1
        have etr : trF M n o 0 (prF M 3 0 [o0]) [o0] = cshF M n T o (prF M 3 0 [o0]) [o0] (portN ([o0].map (shN M)) (lfN M o)) := by unfold trF; rw [if_pos rfl, hTn]
        rw [etr] at q
        refine r173_30 (T := T) hV.1 hV.2.1 hV.2.2 ho hbq hw hlg m0.1 b0 hT (by omega) (by cases hz : mB M 0 3 with
          | false => rfl
          | true => exact absurd ⟨rfl, hz⟩ hsh) (fun t' g1 g2 => ?_)
        rw [s2]
        exact q t' (Vr_mk hV (g1.trans s1) g2 (s1 ▸ Fr_st30F (Fr.refl M))) g2
      | 3, _, 1, _ =>
        obtain ⟨g1, g2⟩ := lgF_all (Q9 := [(0, false), (1, true)]) hlg
        have hLw := Lw_of (Q9 := [(0, false), (1, true)]) hlg
        obtain ⟨o0, ho0⟩ : ∃ u, u = ovD (bsF M n 0 (!(xor false (mB M 3 o)))) := ⟨_, rfl⟩
        obtain ⟨o1, ho1⟩ : ∃ u, u = ovD (bsF M n 1 (!(xor true (mB M 3 o)))) := ⟨_, rfl⟩
        have eL : LL = [o0, o1] := by rw [g1, ho0, ho1]; rfl
        clear g1 g2 ho0 ho1
        subst eL
        have m0 := hLw.1 o0 List.mem_cons_self
        have b0 : oB M o0 = 0 := (List.cons.inj hLw.2).1
        have m1 := hLw.1 o1 (List.mem_cons_of_mem _ List.mem_cons_self)
        have b1 : oB M o1 = 1 := (List.cons.inj (List.cons.inj hLw.2).2).1
        have h01 : ¬ o0 = o1 := fun e => by rw [e, b1] at b0; cases b0
        have hno : ¬ o ∈ [o0, o1] := fun e => by have := (hLw.1 o e).2.1; rw [h19] at this; exact absurd this (by decide)
        obtain ⟨s1, s2⟩ := st_31_e (n := n) (T := T) (V0 := dV) hbq b0 b1 h01 h19 hno h15
        have etr : trF M n o 1 (prF M 3 1 [o0, o1]) [o0, o1] = wayF M n T o (prF M 3 1 [o0, o1]) [o0, o1] (plV M (oB M o) false (prF M 3 1 [o0, o1]) [o0, o1] dV) := by unfold trF; rw [if_neg (by decide), hTn]
        rw [etr] at q
        refine r173_31 (T := T) hV.1 hV.2.1 hV.2.2 ho hbq hw hlg m0.1 m1.1 b0 b1 hT (by omega) (fun t' g1 g2 => ?_)
        rw [s2]
        exact q t' (Vr_mk hV (g1.trans s1) g2 (s1 ▸ Fr_st31F (Fr.refl M))) g2
      | 3, _, 2, _ => cases hlg
      | 4, _, 0, _ =>
        obtain ⟨g1, g2⟩ := lgF_all (Q9 := [(4, false)]) hlg
        have hLw := Lw_of (Q9 := [(4, false)]) hlg
        obtain ⟨o0, ho0⟩ : ∃ u, u = ovD (bsF M n 4 (!(xor false (mB M 3 o)))) := ⟨_, rfl⟩
        have eL : LL = [o0] := by rw [g1, ho0]; rfl
        clear g1 g2 ho0
        subst eL
        have m0 := hLw.1 o0 List.mem_cons_self
        have b0 : oB M o0 = 4 := (List.cons.inj hLw.2).1
        have hno : ¬ o ∈ [o0] := fun e => by have := (hLw.1 o e).2.1; rw [h19] at this; exact absurd this (by decide)
        have hS := Iv_Sh hI (L := [o0]) (fun y hy => ⟨(hLw.1 y hy).1, (hLw.1 y hy).2.1⟩)
        obtain ⟨s1, s2⟩ := st_40_e (n := n) (T := T) hbq b0 h19 hno hS hlf hl1 hlf1
        have etr : trF M n o 0 (prF M 4 0 [o0]) [o0] = cshF M n T o (prF M 4 0 [o0]) [o0] (portN ([o0].map (shN M)) (lfN M o)) := by unfold trF; rw [if_pos rfl, hTn]
        rw [etr] at q
        refine r173_40 (T := T) hV.1 hV.2.1 hV.2.2 ho hbq hw hlg m0.1 b0 hT (by omega) (by cases hz : mB M 0 4 with
          | false => rfl
          | true => exact absurd ⟨rfl, hz⟩ hsh) (fun t' g1 g2 => ?_)
        rw [s2]
        exact q t' (Vr_mk hV (g1.trans s1) g2 (s1 ▸ Fr_st40F (Fr.refl M))) g2
      | 4, _, 1, _ =>
        obtain ⟨g1, g2⟩ := lgF_all (Q9 := [(1, false), (2, true)]) hlg
        have hLw := Lw_of (Q9 := [(1, false), (2, true)]) hlg
        obtain ⟨o0, ho0⟩ : ∃ u, u = ovD (bsF M n 1 (!(xor false (mB M 3 o)))) := ⟨_, rfl⟩
        obtain ⟨o1, ho1⟩ : ∃ u, u = ovD (bsF M n 2 (!(xor true (mB M 3 o)))) := ⟨_, rfl⟩
        have eL : LL = [o0, o1] := by rw [g1, ho0, ho1]; rfl
        clear g1 g2 ho0 ho1
        subst eL
        have m0 := hLw.1 o0 List.mem_cons_self
        have b0 : oB M o0 = 1 := (List.cons.inj hLw.2).1
        have m1 := hLw.1 o1 (List.mem_cons_of_mem _ List.mem_cons_self)
        have b1 : oB M o1 = 2 := (List.cons.inj (List.cons.inj hLw.2).2).1
        have h01 : ¬ o0 = o1 := fun e => by rw [e, b1] at b0; cases b0
        have hno : ¬ o ∈ [o0, o1] := fun e => by have := (hLw.1 o e).2.1; rw [h19] at this; exact absurd this (by decide)
        obtain ⟨s1, s2⟩ := st_41_e (n := n) (T := T) (V0 := dV) hbq b0 b1 h01 h19 hno h15
        have etr : trF M n o 1 (prF M 4 1 [o0, o1]) [o0, o1] = wayF M n T o (prF M 4 1 [o0, o1]) [o0, o1] (plV M (oB M o) false (prF M 4 1 [o0, o1]) [o0, o1] dV) := by unfold trF; rw [if_neg (by decide), hTn]
        rw [etr] at q
        refine r173_41 (T := T) hV.1 hV.2.1 hV.2.2 ho hbq hw hlg m0.1 m1.1 b0 b1 hT (by omega) (fun t' g1 g2 => ?_)
        rw [s2]
        exact q t' (Vr_mk hV (g1.trans s1) g2 (s1 ▸ Fr_st41F (Fr.refl M))) g2
      | 4, _, 2, _ => cases hlg
end S68
