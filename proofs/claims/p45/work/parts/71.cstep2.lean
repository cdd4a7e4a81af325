/-! the class's step, all of it -/
section S71
variable {t t' t0 : sT} {M M' M0 N : sM} {n T A B b c m o k x y K w f : Nat} {p a d sz : Int32} {s z : Bool} {L L' l : List Nat} {V : TV} {Lg : List (Nat × Int32)} {tr : sM} {y0 y1 y2 : sV} {Q : sRs → sT → Prop}
theorem lgO_0 (hb : b < 5) (h : lgO M n b s 0 = some L) : mA M 0 b = 2 ∧ bsF M n b (!s) = some (ovD (bsF M n b (!s))) ∧ L = [ovD (bsF M n b (!s))] := by
  have hQ : ∃ Q9, lgO M n b s 0 = lgF M n s Q9 ∧ Q9 = [(b, false)] := by
    match b, hb with
    | 0, _ => exact ⟨_, rfl, rfl⟩
    | 1, _ => exact ⟨_, rfl, rfl⟩
    | 2, _ => exact ⟨_, rfl, rfl⟩
    | 3, _ => exact ⟨_, rfl, rfl⟩
    | 4, _ => exact ⟨_, rfl, rfl⟩
  obtain ⟨Q9, hQ1, hQ2⟩ := hQ
  subst hQ2
  rw [hQ1] at h
  obtain ⟨g1, g2⟩ := lgF_all h
  obtain ⟨g3, g4⟩ := g2 _ List.mem_cons_self
  have es : (!(xor false s)) = (!s) := by cases s <;> rfl
  refine ⟨g3, ?_, ?_⟩
  · rw [← es]; exact g4
  · rw [g1]
    show [ovD (bsF M n b (!(xor false s)))] = _
    rw [es]
theorem LgF_0 (hb : b < 5) : LgF M b 0 p L = lg0 b p := by
  unfold LgF
  match b, hb with
  | 0, _ => rfl
  | 1, _ => rfl
  | 2, _ => rfl
  | 3, _ => rfl
  | 4, _ => rfl
theorem lvF_c : lvF M (x :: l) = x :: l.takeWhile (fun y => decide (mA M 14 y = mA M 14 x)) := by
  show (x :: l).takeWhile (fun y => decide (mA M 14 y = mA M 14 x)) = _
  rw [List.takeWhile_cons, decide_eq_true rfl]
  rfl
/-- what a step takes: orders that rest, each once, and the plan is the reference's -/
def Gd (M : sM) (n o w : Nat) (p : Int32) (L : List Nat) : Prop := (∀ x, x ∈ L → x < n ∧ mA M 19 x = 1) ∧ L.Nodup ∧ (∃ x l, L = x :: l) ∧ (∀ V, ltF M (plV M (oB M o) (decide (io w = 0)) p L V) none L = obF M n (LgF M (oB M o) w p L) (LgF M (oB M o) w p L).length ∧ ∀ y d, (plV M (oB M o) (decide (io w = 0)) p L V).2.2.1 y = some d → y ∈ L → d < 3) ∧ (1 ≤ w → L.length ≤ 3 ∧ ∀ V T, T ≤ tlU (plV M (oB M o) false p L V) L T ∧ tlU (plV M (oB M o) false p L V) L T ≤ T + 3)
theorem Gd_0 (hbd : ∀ c, c < 3 → 0 ≤ mA M 3 c) (hb : oB M o < 5) (hx : ∀ y, y ∈ x :: l → y < n ∧ mA M 19 y = 1 ∧ oB M y = oB M o) (hnd : (x :: l).Nodup) : Gd M n o 0 p (x :: l) := by
  refine ⟨fun y hy => ⟨(hx y hy).1, (hx y hy).2.1⟩, hnd, ⟨x, l, rfl⟩, fun V => ?_, fun h => absurd h (by decide)⟩
  have e9 : io 0 = (0 : Int32) := rfl
  rw [LgF_0 hb, decide_eq_true e9]
  exact far_pl hbd hb (fun y hy => (hx y hy).2.2)
theorem Gd_w (hI : Iv M n) (hb : oB M o < 5) (hw1 : 1 ≤ w) (hw3 : w < 3) (h : lgO M n (oB M o) s w = some L) : Gd M n o w (prF M (oB M o) w L) L := by
  obtain ⟨g1, g2, g3, g4, g5, g6⟩ := lg_mem hb hw3 h
  have hw0 : ¬ io w = 0 := pos_ne0 ((io_pos (by omega)).mpr hw1)
  have hne : ∃ x l, L = x :: l := by
    cases L with
    | cons x l => exact ⟨x, l, rfl⟩
    | nil =>
      exfalso
      have := far_L (V := dV) hI rfl hb hw3 hw1 h
      have e := this.2.2 0
      revert h
      match hb9 : oB M o, hb, w, hw1, hw3 with
      | 0, _, 1, _, _ => intro h; obtain ⟨q1, _⟩ := lgF_all (Q9 := [(3, false), (1, false)]) h; cases q1
      | 0, _, 2, _, _ => intro h; obtain ⟨q1, _⟩ := lgF_all (Q9 := [(3, false), (4, false), (2, false)]) h; cases q1
      | 1, _, 1, _, _ => intro h; obtain ⟨q1, _⟩ := lgF_all (Q9 := [(4, false), (2, false)]) h; cases q1
      | 1, _, 2, _, _ => intro h; obtain ⟨q1, _⟩ := lgF_all (Q9 := [(3, true), (0, false)]) h; cases q1
      | 2, _, 1, _, _ => intro h; obtain ⟨q1, _⟩ := lgF_all (Q9 := [(4, true), (1, false)]) h; cases q1
      | 2, _, 2, _, _ => intro h; obtain ⟨q1, _⟩ := lgF_all (Q9 := [(4, true), (3, true), (0, false)]) h; cases q1
      | 3, _, 1, _, _ => intro h; obtain ⟨q1, _⟩ := lgF_all (Q9 := [(0, false), (1, true)]) h; cases q1
      | 3, _, 2, _, _ => intro h; cases h
      | 4, _, 1, _, _ => intro h; obtain ⟨q1, _⟩ := lgF_all (Q9 := [(1, false), (2, true)]) h; cases q1
      | 4, _, 2, _, _ => intro h; cases h
  refine ⟨g1, g2, hne, fun V => ?_, fun _ => ⟨g3, fun V => (far_L (V := V) hI rfl hb hw3 hw1 h).2.2⟩⟩
  rw [decide_eq_false hw0]
  obtain ⟨f1, f2, _⟩ := far_L (V := V) hI rfl hb hw3 hw1 h
  exact ⟨f1, f2⟩
/-- a step that there is: its way, its price and its orders -/
theorem step_some (hI : Iv M n) (hR : Ri M n) (ho : o < n) (hw : bwF M n (oB M o) (mB M 3 o) = some w) :
    ∃ LL, lgO M n (oB M o) (mB M 3 o) w = some LL ∧ w < 3 ∧ wprF M n (oB M o) (mB M 3 o) w = prF M (oB M o) w LL ∧ (¬ (w = 0 ∧ mB M 0 (oB M o) = true) → legL M n o w = LL ∧ gaL M n (oB M o) w (mB M 3 o) 3 = LL ∧ Gd M n o w (prF M (oB M o) w LL) LL) := by
  have hb := gb5 hR ho
  obtain ⟨hw3, hok⟩ := bwF_ok hw
  have hlg := wok_L hok
  generalize hLL : (lgO M n (oB M o) (mB M 3 o) w).getD [] = LL at hlg
  refine ⟨LL, hlg, hw3, wpr_L hlg, fun hsh => ⟨?_, (lg_mem hb hw3 hlg).2.2.2.2.1, ?_⟩⟩
  · unfold legL
    have e9 : (Nat.beq w 0 && mB M 0 (oB M o)) = false := by
      cases h1 : Nat.beq w 0 with
      | false => rfl
      | true =>
        cases h2 : mB M 0 (oB M o) with
        | false => rfl
        | true => exact absurd ⟨Nat.eq_of_beq_eq_true h1, h2⟩ hsh
    rw [e9]
    exact hLL
  · by_cases hw0 : w = 0
    · subst hw0
      obtain ⟨x, e1, e2⟩ := (lg_mem hb hw3 hlg).2.2.2.2.2 rfl
      subst e1
      refine Gd_0 hI.2.2.2.1 hb (fun y hy => ?_) (lg_mem hb hw3 hlg).2.1
      have := (lg_mem hb hw3 hlg).1 y hy
      rw [List.mem_singleton] at hy
      exact ⟨this.1, this.2, by rw [hy]; exact e2⟩
    · exact Gd_w hI hb (by omega) hw3 hlg
theorem step_lv (hI : Iv M n) (hR : Ri M n) (ho : o < n) (hsh : mB M 0 (oB M o) = true) (hlg : lgO M n (oB M o) (mB M 3 o) 0 = some L') (hCl : Cl M n (oB M o) (!(mB M 3 o)) (x :: l)) :
    legL M n o 0 = lvF M (x :: l) ∧ prF M (oB M o) 0 L' = mA M 14 x ∧ Gd M n o 0 (mA M 14 x) (lvF M (x :: l)) := by
  have hb := gb5 hR ho
  obtain ⟨_, e1, e2⟩ := lgO_0 hb hlg
  have ehd := bsF_hd hCl.1 hCl.2
  rw [ehd] at e1 e2
  have hLv := Lv_of hCl.1 hCl.2
  refine ⟨?_, ?_, ?_⟩
  · unfold legL
    rw [hsh, ehd]
    exact Lv_eps hLv
  · rw [e2]
    exact prF_0 hb
  · rw [lvF_c] at hLv ⊢
    refine Gd_0 hI.2.2.2.1 hb (fun y hy => ?_) (hLv.2.imp (fun {a b} h e => by rw [e] at h; exact absurd h Int32.lt_irrefl))
    have := ((hLv.1 y).mp hy).1
    exact ⟨this.1, this.2.1, this.2.2.1⟩
end S71
