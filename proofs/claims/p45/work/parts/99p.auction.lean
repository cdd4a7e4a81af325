/-! auction: the class and the reference answer alike (printed by gen99p.py) -/
section S99p
variable {t t' t0 : sT} {M M' M0 N Y Z R : sM} {n T A B b c m o k K w v e q j : Nat} {p a h d u g p0 p1 f i x y : Int32} {s z : Bool} {L L' l : List Nat} {r r0 : Option Nat} {y0 y1 y2 y3 y4 y5 y6 : sV} {Q : sRs → sT → Prop}
theorem n1_k3q (hW : Wc t M n T L A B) (hb : b < 5) (ho : o < n) (hk : k < 2)
    (k1 : (a < (mnc h g) ∨ ((mnc h g) = a ∧ 0 < (mnc h g) ∧ ((ab (g - h)) < x ∨ ((ab (g - h)) = x ∧ ((ab ((mA M 14 o) - p)) < (ab (f - p)) ∨ ((ab ((mA M 14 o) - p)) = (ab (f - p)) ∧ (mA M 14 o) < f)))))) → ∀ e2 e3 e4 e5, X 1 54 [.inr (.inr (0, (some 0))), .inr (.inr (1, (some b))), .inl p, .inl (mA M 14 o), .inl (mnc h g), .inl (ab (g - h)), .inl (io k), .inr (.inr (8, (sR t 529 o))), .inl g, .inl h, e2, e3, e4, e5] [] t Q)
    (k2 : ¬ (a < (mnc h g) ∨ ((mnc h g) = a ∧ 0 < (mnc h g) ∧ ((ab (g - h)) < x ∨ ((ab (g - h)) = x ∧ ((ab ((mA M 14 o) - p)) < (ab (f - p)) ∨ ((ab ((mA M 14 o) - p)) = (ab (f - p)) ∧ (mA M 14 o) < f)))))) → ∀ e2 e3 e4 e5, X 1 54 [.inr (.inr (0, (some 0))), .inr (.inr (1, (some b))), .inl p, .inl f, .inl a, .inl x, .inl (io k), .inr (.inr (8, (sR t 529 o))), .inl g, .inl h, e2, e3, e4, e5] [] t Q) :
    X 1 81 [.inr (.inr (0, (some 0))), .inr (.inr (1, (some b))), .inl p, .inl f, .inl a, .inl x, .inl (io k), .inr (.inr (8, (some o))), .inl g, y2, y3, y4, y5, y6] [.inl h] t Q := by
  refine n1_k3 hW hb ho hk ?_ ?_ ?_ ?_ ?_ ?_ ?_ ?_ ?_ ?_ ?_ ?_ ?_ ?_ ?_ ?_ ?_ ?_ ?_ ?_ ?_ ?_ ?_ ?_ ?_ ?_ ?_ ?_ ?_ ?_ ?_ ?_ ?_ ?_ ?_
  · intro c0 c1 c2; exact k1 (Or.inl c2) _ _ _ _
  · intro c0 c1 c2; exact k2 (by rintro (z0 | ⟨z1, z2, z0 | ⟨z3, z0 | ⟨z4, z5⟩⟩⟩) <;> first | exact c0 z1 | exact c1 z3 | exact c2 z0) _ _ _ _
  · intro c0 c1 c2 c3; exact k1 (Or.inl c3) _ _ _ _
  · intro c0 c1 c2 c3; exact k2 (by rintro (z0 | ⟨z1, z2, z0 | ⟨z3, z0 | ⟨z4, z5⟩⟩⟩) <;> first | exact c0 z1 | exact c3 z0) _ _ _ _
  · intro c0 c1 c2 c3 c4; exact k1 (Or.inl c4) _ _ _ _
  · intro c0 c1 c2 c3 c4; exact k2 (by rintro (z0 | ⟨z1, z2, z0 | ⟨z3, z0 | ⟨z4, z5⟩⟩⟩) <;> first | exact c0 z1 | exact c2 z0 | exact c3 z4 | exact c4 z0) _ _ _ _
  · intro c0 c1 c2 c3 c4 c5; exact k1 (Or.inl c5) _ _ _ _
  · intro c0 c1 c2 c3 c4 c5; exact k2 (by rintro (z0 | ⟨z1, z2, z0 | ⟨z3, z0 | ⟨z4, z5⟩⟩⟩) <;> first | exact c0 z1 | exact c2 z0 | exact c4 z5 | exact c5 z0) _ _ _ _
  · intro c0 c1 c2 c3 c4 c5; exact k1 (Or.inl c5) _ _ _ _
  · intro c0 c1 c2 c3 c4 c5; exact k2 (by rintro (z0 | ⟨z1, z2, z0 | ⟨z3, z0 | ⟨z4, z5⟩⟩⟩) <;> first | exact c0 z1 | exact c2 z0 | exact c5 z0) _ _ _ _
  · intro c0 c1 c2 c3; exact k1 (Or.inl c3) _ _ _ _
  · intro c0 c1 c2 c3; exact k2 (by rintro (z0 | ⟨z1, z2, z0 | ⟨z3, z0 | ⟨z4, z5⟩⟩⟩) <;> first | exact c1 z2 | exact c2 z3 | exact c3 z0) _ _ _ _
  · intro c0 c1 c2 c3 c4; exact k1 (Or.inl c4) _ _ _ _
  · intro c0 c1 c2 c3 c4; exact k2 (by rintro (z0 | ⟨z1, z2, z0 | ⟨z3, z0 | ⟨z4, z5⟩⟩⟩) <;> first | exact c1 z2 | exact c4 z0) _ _ _ _
  · intro c0 c1 c2 c3 c4 c5; exact k1 (Or.inl c5) _ _ _ _
  · intro c0 c1 c2 c3 c4 c5; exact k2 (by rintro (z0 | ⟨z1, z2, z0 | ⟨z3, z0 | ⟨z4, z5⟩⟩⟩) <;> first | exact c1 z2 | exact c3 z0 | exact c4 z4 | exact c5 z0) _ _ _ _
  · intro c0 c1 c2 c3 c4 c5 c6; exact k1 (Or.inl c6) _ _ _ _
  · intro c0 c1 c2 c3 c4 c5 c6; exact k2 (by rintro (z0 | ⟨z1, z2, z0 | ⟨z3, z0 | ⟨z4, z5⟩⟩⟩) <;> first | exact c1 z2 | exact c3 z0 | exact c5 z5 | exact c6 z0) _ _ _ _
  · intro c0 c1 c2 c3 c4 c5 c6; exact k1 (Or.inl c6) _ _ _ _
  · intro c0 c1 c2 c3 c4 c5 c6; exact k2 (by rintro (z0 | ⟨z1, z2, z0 | ⟨z3, z0 | ⟨z4, z5⟩⟩⟩) <;> first | exact c1 z2 | exact c3 z0 | exact c6 z0) _ _ _ _
  · intro c0 c1 c2 c3; exact k1 (Or.inl c3) _ _ _ _
  · intro c0 c1 c2 c3 c4; exact k1 (Or.inr ⟨c0, c1, Or.inl c4⟩) _ _ _ _
  · intro c0 c1 c2 c3 c4; exact k2 (by rintro (z0 | ⟨z1, z2, z0 | ⟨z3, z0 | ⟨z4, z5⟩⟩⟩) <;> first | exact c2 z3 | exact c3 z0 | exact c4 z0) _ _ _ _
  · intro c0 c1 c2 c3 c4; exact k1 (Or.inl c4) _ _ _ _
  · intro c0 c1 c2 c3 c4 c5; exact k1 (Or.inr ⟨c0, c1, Or.inl c5⟩) _ _ _ _
  · intro c0 c1 c2 c3 c4 c5; exact k1 (Or.inr ⟨c0, c1, Or.inr ⟨c2, Or.inl c3⟩⟩) _ _ _ _
  · intro c0 c1 c2 c3 c4 c5; exact k1 (Or.inl c5) _ _ _ _
  · intro c0 c1 c2 c3 c4 c5 c6; exact k1 (Or.inr ⟨c0, c1, Or.inl c6⟩) _ _ _ _
  · intro c0 c1 c2 c3 c4 c5 c6; exact k2 (by rintro (z0 | ⟨z1, z2, z0 | ⟨z3, z0 | ⟨z4, z5⟩⟩⟩) <;> first | exact c3 z0 | exact c4 z4 | exact c5 z0 | exact c6 z0) _ _ _ _
  · intro c0 c1 c2 c3 c4 c5 c6; exact k1 (Or.inl c6) _ _ _ _
  · intro c0 c1 c2 c3 c4 c5 c6 c7; exact k1 (Or.inr ⟨c0, c1, Or.inl c7⟩) _ _ _ _
  · intro c0 c1 c2 c3 c4 c5 c6 c7; exact k2 (by rintro (z0 | ⟨z1, z2, z0 | ⟨z3, z0 | ⟨z4, z5⟩⟩⟩) <;> first | exact c3 z0 | exact c5 z5 | exact c6 z0 | exact c7 z0) _ _ _ _
  · intro c0 c1 c2 c3 c4 c5 c6; exact k1 (Or.inl c6) _ _ _ _
  · intro c0 c1 c2 c3 c4 c5 c6 c7; exact k1 (Or.inr ⟨c0, c1, Or.inl c7⟩) _ _ _ _
  · intro c0 c1 c2 c3 c4 c5 c6 c7; exact k1 (Or.inr ⟨c0, c1, Or.inr ⟨c2, Or.inr ⟨c4, c5⟩⟩⟩) _ _ _ _
theorem ab_abc : abc a = ab a := by
  unfold abc ab
  have e0 : (0 : Int32).toInt = 0 := rfl
  by_cases h : a < 0
  · rw [decide_eq_true h, if_neg (fun g => by rw [Int32.lt_iff_toInt_lt] at h; rw [Int32.le_iff_toInt_le] at g; omega), Int32.zero_sub]; rfl
  · rw [decide_eq_false h, if_pos (by rw [Int32.lt_iff_toInt_lt] at h; rw [Int32.le_iff_toInt_le]; omega)]; rfl
theorem szP_le (hI : Iv M n) (v : Int32) : szP M n b v ≤ 20000 := by
  have := waN_le (b := b) (s := true) (p := v) hI
  unfold szP
  omega
def dsP (p v : Int32) : Int32 := ab (v - p)
theorem sz_c (hI : Iv M n) (v : Int32) : mnc (io (waN M n b false v)) (io (waN M n b true v)) = io (szP M n b v) := by
  have h1 := waN_le (b := b) (s := true) (p := v) hI
  have h2 := waN_le (b := b) (s := false) (p := v) hI
  rw [mnc_io (by omega) (by omega), Nat.min_comm]; rfl
theorem n14 (hI : Iv M n) (hk : k < n) : ¬ mA M 14 k = -10000 := fun e => by
  have h := hI.2.2.2.2.1 k hk
  rw [e] at h
  exact absurd h.1 (by decide)
/-- the class: one side of the book -/
theorem w1_run (hW : Wc t M n T L A B) (hI : Iv M n) (hb : b < 5) (hk : k < 2) : ∀ (l : List Nat) (r : Option Nat) (f a x : Int32) (P : Int32 → Prop) (y1 y2 y3 y4 y5 y6 : sV), Lk t r l → (∀ y, y ∈ l → y < n) →
    Inb (szP M n b) (gpP M n b) (dsP p) P f a x →
    (∀ f' a' x' (e1 e2 e3 e4 e5 e6 : sV), Inb (szP M n b) (gpP M n b) (dsP p) (fun w => P w ∨ ∃ y, y ∈ l ∧ mA M 14 y = w) f' a' x' → X 1 54 [.inr (.inr (0, (some 0))), .inr (.inr (1, (some b))), .inl p, .inl f', .inl a', .inl x', .inl (io k), .inr (.inr (8, none)), e1, e2, e3, e4, e5, e6] [] t Q) →
    X 1 54 [.inr (.inr (0, (some 0))), .inr (.inr (1, (some b))), .inl p, .inl f, .inl a, .inl x, .inl (io k), .inr (.inr (8, r)), y1, y2, y3, y4, y5, y6] [] t Q
  | [], r, f, a, x, P, y1, y2, y3, y4, y5, y6, hl, _, hi, q => by
    cases hl
    refine q f a x _ _ _ _ _ _ ?_
    have e : (fun w => P w ∨ ∃ y, y ∈ ([] : List Nat) ∧ mA M 14 y = w) = P := by
      funext w
      apply propext
      constructor
      · rintro (h | ⟨y, h, _⟩)
        · exact h
        · cases h
      · exact Or.inl
    rw [e]; exact hi
  | o :: l, r, f, a, x, P, y1, y2, y3, y4, y5, y6, hl, hn, hi, q => by
    obtain ⟨rfl, hl⟩ := hl
    have ho := hn o List.mem_cons_self
    have eP : ∀ w, (((P w ∨ w = mA M 14 o) ∨ ∃ y, y ∈ l ∧ mA M 14 y = w) ↔ (P w ∨ ∃ y, y ∈ o :: l ∧ mA M 14 y = w)) := fun w => by
      constructor
      · rintro ((h | h) | ⟨y, h1, h2⟩)
        · exact Or.inl h
        · exact Or.inr ⟨o, List.mem_cons_self, h.symm⟩
        · exact Or.inr ⟨y, List.mem_cons_of_mem o h1, h2⟩
      · rintro (h | ⟨y, h1, h2⟩)
        · exact Or.inl (Or.inl h)
        · rcases List.mem_cons.mp h1 with h1 | h1
          · rw [h1] at h2; exact Or.inl (Or.inr h2.symm)
          · exact Or.inr ⟨y, h1, h2⟩
    have eP2 : (fun w => ((P w ∨ w = mA M 14 o) ∨ ∃ y, y ∈ l ∧ mA M 14 y = w)) = (fun w => P w ∨ ∃ y, y ∈ o :: l ∧ mA M 14 y = w) := funext fun w => propext (eP w)
    refine n1_k hW hb ho hk ?_
    refine w3 (s := true) hW hI hb ?_
    refine sK_i (pc' := 69) rfl ?_
    refine n1_k2 hW hb ho hk ?_
    refine w3 (s := false) hW hI hb ?_
    refine sK_i (pc' := 81) rfl ?_
    have hS := szP_le (b := b) hI
    have e0 : ∀ z : Nat, z ≤ 20000 → ((0 : Int32) < io z ↔ 0 < z) := fun z hz => io_lt (p := 0) (by decide) (by omega)
    have hc : cnd (szP M n b) (gpP M n b) (dsP p) (mA M 14 o) f a x ↔ (a < io (szP M n b (mA M 14 o)) ∨ (io (szP M n b (mA M 14 o)) = a ∧ (0 : Int32) < io (szP M n b (mA M 14 o)) ∧ (gpP M n b (mA M 14 o) < x ∨ (gpP M n b (mA M 14 o) = x ∧ (dsP p (mA M 14 o) < dsP p f ∨ (dsP p (mA M 14 o) = dsP p f ∧ mA M 14 o < f)))))) := by
      rw [e0 _ (hS _)]; exact Iff.rfl
    refine n1_k3q hW hb ho hk (fun g e2 e3 e4 e5 => ?_) (fun g e2 e3 e4 e5 => ?_)
    · rw [sz_c hI] at g ⊢
      exact w1_run hW hI hb hk l _ _ _ _ _ _ _ _ _ _ _ hl (fun y hy => hn y (List.mem_cons_of_mem o hy)) (Inb_t hS (n14 hI ho) hi (hc.mpr g)) (fun f' a' x' u1 u2 u3 u4 u5 u6 hh => q f' a' x' u1 u2 u3 u4 u5 u6 (eP2 ▸ hh))
    · rw [sz_c hI] at g
      exact w1_run hW hI hb hk l _ _ _ _ _ _ _ _ _ _ _ hl (fun y hy => hn y (List.mem_cons_of_mem o hy)) (Inb_f hS hi (fun z => g (hc.mp z))) (fun f' a' x' u1 u2 u3 u4 u5 u6 hh => q f' a' x' u1 u2 u3 u4 u5 u6 (eP2 ▸ hh))
def mdP (M : sM) (b : Nat) : Int32 := bif decide (b < 3) then mA M 1 b else 0
/-- the class's price of an auction -/
theorem w1_0 (hW : Wc t M n T L A B) (hI : Iv M n) (hb : b < 5) (q : ∀ f a x, Inb (szP M n b) (gpP M n b) (dsP (mdP M b)) (fun w => ∃ k s, rst M n b s k ∧ mA M 14 k = w) f a x → Q (.inl (some (.inl f))) t) :
    X 1 0 [.inr (.inr (0, (some 0))), .inr (.inr (1, (some b))), sJk, sJk, sJk, sJk, sJk, sJk, sJk, sJk, sJk, sJk, sJk, sJk] [] t Q := by
  have go : X 1 32 [.inr (.inr (0, (some 0))), .inr (.inr (1, (some b))), .inl (mdP M b), .inl (-10000), .inl 0, .inl 0, .inl 0, sJk, sJk, sJk, sJk, sJk, sJk, sJk] [] t Q := by
    obtain ⟨l, h1, h2, h3⟩ := hW.2.2.2.1 b true hb
    obtain ⟨l', h1', h2', h3'⟩ := hW.2.2.2.1 b false hb
    rw [(Lk_hd h1).trans (bsF_hd h2 h3).symm] at h1
    rw [(Lk_hd h1').trans (bsF_hd h2' h3').symm] at h1'
    refine n1_h0 hW hb ?_
    refine w1_run (k := 0) (p := mdP M b) hW hI hb (by decide) l _ _ _ _ (fun _ => False) _ _ _ _ _ _ h1 (fun y hy => ((h3 y).mp hy).1) (Or.inl ⟨rfl, rfl, rfl, fun v hv => hv.elim⟩) (fun f a x e1 e2 e3 e4 e5 e6 hi => ?_)
    refine n1_n hW hb (by decide) ?_
    refine n1_h1 hW hb ?_
    refine w1_run (k := 1) (p := mdP M b) hW hI hb (by decide) l' _ _ _ _ _ _ _ _ _ _ _ h1' (fun y hy => ((h3' y).mp hy).1) hi (fun f' a' x' e1' e2' e3' e4' e5' e6' hi' => ?_)
    refine n1_n hW hb (by decide) ?_
    refine n1_h2 hW hb ?_
    refine q f' a' x' ?_
    have e : (fun w => (False ∨ ∃ y, y ∈ l ∧ mA M 14 y = w) ∨ ∃ y, y ∈ l' ∧ mA M 14 y = w) = (fun w => ∃ k s, rst M n b s k ∧ mA M 14 k = w) := by
      funext w
      apply propext
      constructor
      · rintro ((hh | ⟨y, g1, g2⟩) | ⟨y, g1, g2⟩)
        · exact hh.elim
        · exact ⟨y, true, (h3 y).mp g1, g2⟩
        · exact ⟨y, false, (h3' y).mp g1, g2⟩
      · rintro ⟨k, s, g1, g2⟩
        cases s
        · exact Or.inr ⟨k, (h3' k).mpr g1, g2⟩
        · exact Or.inl (Or.inr ⟨k, (h3 k).mpr g1, g2⟩)
    rw [← e]; exact hi'
  refine n1_0 hW hb (fun g => ?_) (fun j g => ?_)
  · have hb3 := snd_n hb g
    have e : mA M 1 (fst b) = mdP M b := by
      unfold mdP
      rw [decide_eq_true hb3]
      have : fst b = b := (by decide : ∀ b, b < 3 → fst b = b) b hb3
      rw [this]; rfl
    rw [e]; exact go
  · have hb3 := snd_s hb g
    have e : mdP M b = 0 := by unfold mdP; rw [decide_eq_false hb3]; rfl
    rw [e] at go; exact go
/-! the reference -/
def auC (M : sM) (n b : Nat) (v f a x y : Int32) : Bool := ((decide (a < (mnc (waF M n b true v) (waF M n b false v)))) || (((decide ((mnc (waF M n b true v) (waF M n b false v)) = a)) && (!(decide (f = (-10000))))) && ((decide ((abc ((waF M n b true v) - (waF M n b false v))) < x)) || ((decide ((abc ((waF M n b true v) - (waF M n b false v))) = x)) && ((decide ((abc (v - (bif (decide (b < 3)) then (mA M 1 b) else 0))) < y)) || ((decide ((abc (v - (bif (decide (b < 3)) then (mA M 1 b) else 0))) = y)) && (decide (v < f))))))))
theorem cond4 (c : Bool) {v s g d f a x y : Int32} : ((bif c then v else f, bif c then s else a, bif c then g else x, bif c then d else y) : Int32 × Int32 × Int32 × Int32) = bif c then (v, s, g, d) else (f, a, x, y) := by cases c <;> rfl
theorem auS_e : auS M n b k f a x y = bif decide (mA M 19 k = 1) then (bif decide (oB M k = b) then (bif auC M n b (mA M 14 k) f a x y then (mA M 14 k, mnc (waF M n b true (mA M 14 k)) (waF M n b false (mA M 14 k)), abc ((waF M n b true (mA M 14 k)) - (waF M n b false (mA M 14 k))), abc ((mA M 14 k) - (bif (decide (b < 3)) then (mA M 1 b) else 0))) else (f, a, x, y)) else (f, a, x, y)) else (f, a, x, y) := by
  unfold auS
  cases decide (mA M 19 k = 1)
  · rfl
  · cases decide (oB M k = b)
    · rfl
    · exact cond4 (auC M n b (mA M 14 k) f a x y)
theorem auC_c (hI : Iv M n) {P : Int32 → Prop} {v : Int32} (hi : Inb (szP M n b) (gpP M n b) (dsP (mdP M b)) P f a x) (hy : ¬ f = -10000 → y = dsP (mdP M b) f) : auC M n b v f a x y = true ↔ cnd (szP M n b) (gpP M n b) (dsP (mdP M b)) v f a x := by
  have hS := szP_le (b := b) hI
  have h1 := waN_le (b := b) (s := true) (p := v) hI
  have h2 := waN_le (b := b) (s := false) (p := v) hI
  have e1 : mnc (waF M n b true v) (waF M n b false v) = io (szP M n b v) := by rw [waF_e hI, waF_e hI, mnc_io (by omega) (by omega)]; rfl
  have e2 : abc ((waF M n b true v) - (waF M n b false v)) = gpP M n b v := by rw [ab_abc, waF_e hI, waF_e hI]; rfl
  have e3 : abc (v - (bif (decide (b < 3)) then (mA M 1 b) else 0)) = dsP (mdP M b) v := by rw [ab_abc]; rfl
  unfold auC
  rw [e1, e2, e3]
  simp only [Bool.or_eq_true, Bool.and_eq_true, decide_eq_true_eq, Bool.not_eq_true', decide_eq_false_iff_not]
  rcases hi with ⟨i1, i2, i3, i4⟩ | ⟨i0, i1, i2, i3, i4, i5⟩
  · rw [i2, cnd_0 hS]
    have e : (0 : Int32) < io (szP M n b v) ↔ 0 < szP M n b v := io_lt (p := 0) (by decide) (by have := hS v; omega)
    rw [e]
    constructor
    · rintro (g | ⟨⟨_, g⟩, _⟩)
      · exact g
      · exact absurd i1 g
    · exact Or.inl
  · rw [hy i1, i2, i4]
    unfold cnd
    have hv := hS v
    have hf := hS f
    constructor
    · rintro (g | ⟨⟨g1, _⟩, g3⟩)
      · exact Or.inl g
      · refine Or.inr ⟨g1, ?_, g3⟩
        have : szP M n b v = szP M n b f := by rw [← nn_io (p := szP M n b v) (by omega), g1, nn_io (by omega)]
        omega
    · rintro (g | ⟨g1, _, g3⟩)
      · exact Or.inl g
      · exact Or.inr ⟨⟨g1, i1⟩, g3⟩
theorem auL_i (hI : Iv M n) : ∀ k, k ≤ n → Inb (szP M n b) (gpP M n b) (dsP (mdP M b)) (fun w => ∃ j, j < k ∧ (mA M 19 j = 1 ∧ oB M j = b) ∧ mA M 14 j = w) (auL M n b (-10000) 0 0 0 k).1 (auL M n b (-10000) 0 0 0 k).2.1 (auL M n b (-10000) 0 0 0 k).2.2.1 ∧ (¬ (auL M n b (-10000) 0 0 0 k).1 = -10000 → (auL M n b (-10000) 0 0 0 k).2.2.2 = dsP (mdP M b) (auL M n b (-10000) 0 0 0 k).1)
  | 0, _ => ⟨Or.inl ⟨rfl, rfl, rfl, fun v ⟨j, hj, _⟩ => absurd hj (Nat.not_lt_zero j)⟩, fun g => absurd rfl g⟩
  | k + 1, hk => by
    have ih := auL_i hI k (by omega)
    have e : auL M n b (-10000) 0 0 0 (k + 1) = auS M n b k (auL M n b (-10000) 0 0 0 k).1 (auL M n b (-10000) 0 0 0 k).2.1 (auL M n b (-10000) 0 0 0 k).2.2.1 (auL M n b (-10000) 0 0 0 k).2.2.2 := rfl
    rw [e, auS_e]
    generalize auL M n b (-10000) 0 0 0 k = W at ih ⊢
    obtain ⟨f, a, x, y⟩ := W
    obtain ⟨hi, hy⟩ := ih
    have hS := szP_le (b := b) hI
    have hi2 : Inb (szP M n b) (gpP M n b) (dsP (mdP M b)) (fun w => ∃ j, j < k ∧ (mA M 19 j = 1 ∧ oB M j = b) ∧ mA M 14 j = w) f a x := hi
    have hy2 : ¬ f = -10000 → y = dsP (mdP M b) f := hy
    by_cases g : mA M 19 k = 1 ∧ oB M k = b
    · have eP : (fun w => (∃ j, j < k ∧ (mA M 19 j = 1 ∧ oB M j = b) ∧ mA M 14 j = w) ∨ w = mA M 14 k) = (fun w => ∃ j, j < k + 1 ∧ (mA M 19 j = 1 ∧ oB M j = b) ∧ mA M 14 j = w) := by
        funext w
        apply propext
        constructor
        · rintro (⟨j, h1, h2, h3⟩ | h)
          · exact ⟨j, by omega, h2, h3⟩
          · exact ⟨k, Nat.lt_succ_self k, g, h.symm⟩
        · rintro ⟨j, h1, h2, h3⟩
          by_cases ej : j = k
          · rw [ej] at h3; exact Or.inr h3.symm
          · exact Or.inl ⟨j, by omega, h2, h3⟩
      rw [decide_eq_true g.1, decide_eq_true g.2, cond_true, cond_true]
      have hc := auC_c (b := b) (v := mA M 14 k) hI hi2 hy2
      have h1 := waN_le (b := b) (s := true) (p := mA M 14 k) hI
      have h2 := waN_le (b := b) (s := false) (p := mA M 14 k) hI
      have e1 : mnc (waF M n b true (mA M 14 k)) (waF M n b false (mA M 14 k)) = io (szP M n b (mA M 14 k)) := by rw [waF_e hI, waF_e hI, mnc_io (by omega) (by omega)]; rfl
      have e2 : abc ((waF M n b true (mA M 14 k)) - (waF M n b false (mA M 14 k))) = gpP M n b (mA M 14 k) := by rw [ab_abc, waF_e hI, waF_e hI]; rfl
      have e3 : abc ((mA M 14 k) - (bif (decide (b < 3)) then (mA M 1 b) else 0)) = dsP (mdP M b) (mA M 14 k) := by rw [ab_abc]; rfl
      rw [e1, e2, e3, ← eP]
      cases hb : auC M n b (mA M 14 k) f a x y with
      | true => exact ⟨Inb_t hS (n14 hI (by omega)) hi2 (hc.mp hb), fun _ => rfl⟩
      | false => exact ⟨Inb_f hS hi2 (fun z => by rw [hc.mpr z] at hb; cases hb), hy2⟩
    · have eP : (fun w => ∃ j, j < k ∧ (mA M 19 j = 1 ∧ oB M j = b) ∧ mA M 14 j = w) = (fun w => ∃ j, j < k + 1 ∧ (mA M 19 j = 1 ∧ oB M j = b) ∧ mA M 14 j = w) := by
        funext w
        apply propext
        constructor
        · rintro ⟨j, h1, h2, h3⟩
          exact ⟨j, by omega, h2, h3⟩
        · rintro ⟨j, h1, h2, h3⟩
          have : ¬ j = k := fun ej => g (ej ▸ h2)
          exact ⟨j, by omega, h2, h3⟩
      have eq : (bif decide (mA M 19 k = 1) then (bif decide (oB M k = b) then (bif auC M n b (mA M 14 k) f a x y then (mA M 14 k, mnc (waF M n b true (mA M 14 k)) (waF M n b false (mA M 14 k)), abc ((waF M n b true (mA M 14 k)) - (waF M n b false (mA M 14 k))), abc ((mA M 14 k) - (bif (decide (b < 3)) then (mA M 1 b) else 0))) else (f, a, x, y)) else (f, a, x, y)) else (f, a, x, y)) = (f, a, x, y) := by
        by_cases g1 : mA M 19 k = 1
        · rw [decide_eq_true g1, decide_eq_false (fun z => g ⟨g1, z⟩)]; rfl
        · rw [decide_eq_false g1]; rfl
      rw [eq, ← eP]
      exact ⟨hi2, hy2⟩
/-- the class's price of an auction is the reference's -/
theorem w1 (hW : Wc t M n T L A B) (hI : Iv M n) (hb : b < 5) (q : Q (.inl (some (.inl (auF M n b)))) t) :
    X 1 0 [.inr (.inr (0, (some 0))), .inr (.inr (1, (some b))), sJk, sJk, sJk, sJk, sJk, sJk, sJk, sJk, sJk, sJk, sJk, sJk] [] t Q := by
  refine w1_0 hW hI hb (fun f a x hi => ?_)
  have h := (auL_i (b := b) hI n (Nat.le_refl n)).1
  have e : f = auF M n b := Inb_u (szP_le (b := b) hI) (fun w => ⟨fun ⟨k, s, g1, g2⟩ => ⟨k, g1.1, ⟨g1.2.1, g1.2.2.1⟩, g2⟩, fun ⟨k, g1, g2, g3⟩ => ⟨k, mB M 3 k, ⟨g1, g2.1, g2.2, rfl⟩, g3⟩⟩) hi h
  rw [e]; exact q
def sp111 (M : sM) (n : Nat) (p0 : Int32) : Rs4 := match ixo p0 5 with
  | none => er M n 1
  | some b => ok (auF (m0 M) n b) (m0 M) n
theorem C111 (hW : Wc t M n T L A B) (hK : Kv M n) (q : Kc t T A B 0 [0] (sp111 M n p0) Q) : X 111 0 [.inr (.inr (11, (some 0))), .inl p0] [] t Q := by
  unfold sp111 at q
  cases e0 : ixo p0 5 with
  | none =>
    simp only [e0] at q
    exact n111_x0 hW e0 (q _ T L (W_er hW) ep_thr Tm)
  | some b =>
    obtain ⟨hb, rfl⟩ := ixo_s e0
    simp only [e0] at q
    refine n111 hW hb ?_
    refine w1 (W_ok hW) (Kv_m0 hK).1.1 hb ?_
    refine sK_i (pc' := 12) rfl ?_
    exact n111_n (W_ok hW) hb (q t T L (W_ok hW) rfl Tm)
end S99p
