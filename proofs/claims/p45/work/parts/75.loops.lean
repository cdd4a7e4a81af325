/-! the loop of steps, in the class and in the reference -/
section S75
variable {t t' t0 : sT} {M M' M0 N : sM} {n T A B b c m o k x y K w f v : Nat} {p a d sz : Int32} {s z : Bool} {L L' l : List Nat} {V : TV} {y0 y1 y2 : sV} {Q : sRs → sT → Prop}
theorem btr_trans {u w : Nat} (h1 : btr M s u x) (h2 : btr M s x w) : btr M s u w := by
  unfold btr at *
  generalize mA M 14 u = p1 at *
  generalize mA M 14 x = p2 at *
  generalize mA M 14 w = p3 at *
  generalize mA M 18 u = q1 at *
  generalize mA M 18 x = q2 at *
  generalize mA M 18 w = q3 at *
  by_cases e1 : p1 = p2
  · subst e1
    rw [if_pos rfl] at h1
    by_cases e2 : p1 = p3
    · rw [if_pos e2] at h2 ⊢
      rw [Int32.lt_iff_toInt_lt] at *
      omega
    · rw [if_neg e2] at h2 ⊢
      exact h2
  · rw [if_neg e1] at h1
    by_cases e2 : p2 = p3
    · subst e2
      rw [if_neg e1]
      exact h1
    · rw [if_neg e2] at h2
      have e3 : ¬ p1 = p3 := fun e => by
        subst e
        cases s
        · rw [if_neg (by decide)] at h1 h2
          exact i32_as h1 h2
        · rw [if_pos rfl] at h1 h2
          exact i32_as h1 h2
      rw [if_neg e3]
      cases s
      · rw [if_neg (by decide)] at h1 h2 ⊢
        rw [Int32.lt_iff_toInt_lt] at *
        omega
      · rw [if_pos rfl] at h1 h2 ⊢
        rw [Int32.lt_iff_toInt_lt] at *
        omega
theorem i32_tri (u v : Int32) : u < v ∨ u = v ∨ v < u := by
  rw [Int32.lt_iff_toInt_lt, Int32.lt_iff_toInt_lt, ← Int32.toInt_inj]
  omega
theorem btr_tot {u w : Nat} (h : ¬ mA M 18 u = mA M 18 w) : btr M s u w ∨ btr M s w u := by
  unfold btr
  by_cases e : mA M 14 u = mA M 14 w
  · rw [if_pos e, if_pos e.symm]
    rcases i32_tri (mA M 18 u) (mA M 18 w) with g | g | g
    · exact Or.inl g
    · exact absurd g h
    · exact Or.inr g
  · have e' : ¬ mA M 14 w = mA M 14 u := fun q => e q.symm
    rw [if_neg e, if_neg e']
    cases s
    · rw [if_neg (show ¬ false = true by decide), if_neg (show ¬ false = true by decide)]
      rcases i32_tri (mA M 14 u) (mA M 14 w) with g | g | g
      · exact Or.inl g
      · exact absurd g e
      · exact Or.inr g
    · rw [if_pos rfl, if_pos rfl]
      rcases i32_tri (mA M 14 u) (mA M 14 w) with g | g | g
      · exact Or.inr g
      · exact absurd g e
      · exact Or.inl g
theorem ins_ex : ∀ {l : List Nat}, l.Pairwise (btr M s) → (∀ y, y ∈ l → btr M s x y ∨ btr M s y x) → ∃ l' : List Nat, l'.Pairwise (btr M s) ∧ ∀ o, o ∈ l' ↔ o = x ∨ o ∈ l
  | [], _, _ => ⟨[x], List.pairwise_singleton _ _, fun o => by rw [List.mem_singleton]; exact ⟨Or.inl, fun h => h.elim id (fun h => absurd h List.not_mem_nil)⟩⟩
  | y :: r, hp, hx => by
    have hp2 := List.pairwise_cons.mp hp
    rcases hx y List.mem_cons_self with g | g
    · refine ⟨x :: y :: r, List.pairwise_cons.mpr ⟨fun o ho => ?_, hp⟩, fun o => List.mem_cons⟩
      rcases List.mem_cons.mp ho with e | e
      · rw [e]; exact g
      · exact btr_trans g (hp2.1 o e)
    · obtain ⟨l', h1, h2⟩ := ins_ex hp2.2 (fun o ho => hx o (List.mem_cons_of_mem y ho))
      refine ⟨y :: l', List.pairwise_cons.mpr ⟨fun o ho => ?_, h1⟩, fun o => ?_⟩
      · rcases (h2 o).mp ho with e | e
        · rw [e]; exact g
        · exact hp2.1 o e
      · rw [List.mem_cons, h2, List.mem_cons]
        constructor
        · rintro (e | e | e)
          · exact Or.inr (Or.inl e)
          · exact Or.inl e
          · exact Or.inr (Or.inr e)
        · rintro (e | e | e)
          · exact Or.inr (Or.inl e)
          · exact Or.inl e
          · exact Or.inr (Or.inr e)
theorem Cl_pre (hS : Sd M n) : ∀ (k : Nat), k ≤ n → ∃ l : List Nat, l.Pairwise (btr M s) ∧ ∀ o, o ∈ l ↔ o < k ∧ rst M n b s o
  | 0, _ => ⟨[], List.Pairwise.nil, fun o => ⟨fun h => absurd h List.not_mem_nil, fun h => absurd h.1 (Nat.not_lt_zero _)⟩⟩
  | k + 1, hk => by
    obtain ⟨l, h1, h2⟩ := Cl_pre hS k (by omega)
    by_cases hr : rst M n b s k
    · obtain ⟨l', g1, g2⟩ := ins_ex (x := k) h1 (fun y hy => by
        obtain ⟨y1, y2⟩ := (h2 y).mp hy
        refine btr_tot (fun e => ?_)
        have := hS k y (by omega) y2.1 hr.2.1 y2.2.1 e
        omega)
      refine ⟨l', g1, fun o => ?_⟩
      rw [g2, h2]
      constructor
      · rintro (e | e)
        · rw [e]; exact ⟨Nat.lt_succ_self k, hr⟩
        · exact ⟨by omega, e.2⟩
      · rintro ⟨e1, e2⟩
        by_cases e : o = k
        · exact Or.inl e
        · exact Or.inr ⟨by omega, e2⟩
    · refine ⟨l, h1, fun o => ?_⟩
      rw [h2]
      constructor
      · rintro ⟨e1, e2⟩; exact ⟨by omega, e2⟩
      · rintro ⟨e1, e2⟩
        refine ⟨?_, e2⟩
        by_cases e : o = k
        · rw [e] at e2; exact absurd e2 hr
        · omega
theorem Cl_ex (hJ : Jv M n) (b : Nat) (s : Bool) : ∃ l, Cl M n b s l := by
  obtain ⟨l, h1, h2⟩ := Cl_pre (b := b) (s := s) hJ.2 n (Nat.le_refl n)
  exact ⟨l, h1, fun o => (h2 o).trans ⟨fun h => h.2, fun h => ⟨h.1, h⟩⟩⟩
/-- all steps of an order that comes -/
noncomputable def mtF (n o : Nat) : Nat → sM → sM
  | 0, M => M
  | f + 1, M => if lfN M o = 0 ∨ 1500 ≤ tN M then M else bif csZ M n o then mtF n o f (csM M n o) else csM M n o
theorem mtF_stop (h : lfN M o = 0 ∨ 1500 ≤ tN M) : ∀ f, mtF n o f M = M
  | 0 => rfl
  | f + 1 => if_pos h
theorem mtF_go (h : ¬ (lfN M o = 0 ∨ 1500 ≤ tN M)) : mtF n o (f + 1) M = bif csZ M n o then mtF n o f (csM M n o) else csM M n o := if_neg h
theorem mu_lfN : lfN M o ≤ mu M n o := by unfold mu; omega
theorem W_tN (hW : Wc t M n T L A B) : tN M = T := by
  have := W_T hW
  unfold tN; rw [W_801 hW]; exact nn_io (by omega)
theorem w56_loop (ho : o < n) : ∀ (f k : Nat) (M : sM) (t : sT) (T : Nat) (L : List Nat) (y0 y1 y2 : sV), Wc t M n T L A B → Jv M n → mA M 19 o = 4 → mu M n o ≤ f → k + f < 1000 →
    (∀ t' T' L', Wc t' (mtF n o f M) n T' L' A B → Jv (mtF n o f M) n → mA (mtF n o f M) 19 o = 4 → T ≤ T' → (T' ≤ T ∨ T' ≤ 1899) → ep t' = ep t → Q (.inl none) t') →
    X 56 2 [.inr (.inr (6, (some 0))), .inr (.inr (8, (some o))), .inl (io k), y0, y1, y2] [] t Q := by
  intro f
  induction f with
  | zero =>
    intro k M t T L y0 y1 y2 hW hJ h19 hmu hkf q
    have h0 : lfN M o = 0 := by have := mu_lfN (M := M) (n := n) (o := o); omega
    have hz : mA M 15 o = 0 := by rw [(Iv_lf hJ.1 ho).1, h0]; rfl
    have hnz : ¬ 0 < mA M 15 o := by rw [hz]; decide
    exact n56_2 hW ho (by omega) (fun _ => q t T L hW hJ h19 (Nat.le_refl T) (Or.inl (Nat.le_refl T)) rfl) (fun h => absurd h hnz) (fun h => absurd h hnz)
  | succ f ih =>
    intro k M t T L y0 y1 y2 hW hJ h19 hmu hkf q
    by_cases hst : lfN M o = 0 ∨ 1500 ≤ tN M
    · rw [mtF_stop hst] at q
      have fin := q t T L hW hJ h19 (Nat.le_refl T) (Or.inl (Nat.le_refl T)) rfl
      refine n56_2 hW ho (by omega) (fun _ => fin) (fun h1 h2 => ?_) (fun _ _ => fin)
      exfalso
      rw [W_tN hW] at hst
      rcases hst with h0 | h0
      · have hz : mA M 15 o = 0 := by rw [(Iv_lf hJ.1 ho).1, h0]; rfl
        rw [hz] at h1
        exact absurd h1 (by decide)
      · omega
    · rw [mtF_go hst] at q
      have hT : T < 1500 := by rw [W_tN hW] at hst; omega
      have hl1 : 1 ≤ lfN M o := by omega
      obtain ⟨j1, j2, _, j4⟩ := cs_J hJ (W_R hW) ho h19 hl1 (fun b s _ => Cl_ex hJ b s)
      refine w56 hW hJ.1 ho (by omega) h19 hl1 hT (fun hz t' T' L' h1 h2 h3 h4 => ?_) (fun hz t' T' L' z0 z1 z2 h1 h2 h3 h4 => ?_)
      · rw [hz] at q
        exact q t' T' L' h1 j1 j2 h2 (Or.inr (by omega)) h4
      · rw [hz] at q
        have hm := j4 hz
        refine ih (k + 1) _ t' T' L' z0 z1 z2 h1 j1 j2 (by omega) (by omega) (fun t2 T2 L2 g1 g2 g3 g4 g5 g6 => ?_)
        exact q t2 T2 L2 g1 g2 g3 (by omega) (Or.inr (by omega)) (g6.trans h4)
end S75
