/-! the auction: the price of most size, least gap, least distance, least price -/
section S99o
variable {t t' t0 : sT} {M M' M0 N Y Z R : sM} {n T A B b c m o k x y K w v e q : Nat} {p a h d u g p0 p1 f i : Int32} {s z : Bool} {L L' l : List Nat} {r r0 : Option Nat} {y0 y1 y2 y3 y4 y5 y6 : sV} {Q : sRs → sT → Prop}
def suL (F : Nat → Nat) : List Nat → Nat
  | [] => 0
  | x :: l => F x + suL F l
theorem sumN_0 : ∀ n, sumN (fun _ => 0) n = 0
  | 0 => rfl
  | n + 1 => by
    show sumN (fun _ => 0) n + 0 = 0
    rw [sumN_0 n]
theorem suL_N {F : Nat → Nat} : ∀ (l : List Nat), l.Nodup → (∀ x, x ∈ l → x < n) → suL F l = sumN (fun k => if k ∈ l then F k else 0) n
  | [], _, _ => by
    have e : (fun k => if k ∈ ([] : List Nat) then F k else 0) = fun _ => 0 := funext fun k => if_neg List.not_mem_nil
    rw [e, sumN_0]; rfl
  | x :: l, hn, hl => by
    have h1 := (List.nodup_cons.mp hn).1
    have ih := suL_N (F := F) l (List.nodup_cons.mp hn).2 (fun y hy => hl y (List.mem_cons_of_mem x hy))
    have e := sumN_up (f := fun k => if k ∈ x :: l then F k else 0) (g := fun k => if k ∈ l then F k else 0) (n := n) (hl x List.mem_cons_self) (fun k _ hk => by
      show (if k ∈ x :: l then F k else 0) = if k ∈ l then F k else 0
      by_cases g : k ∈ l
      · rw [if_pos g, if_pos (List.mem_cons_of_mem x g)]
      · rw [if_neg g, if_neg (fun z => by rcases List.mem_cons.mp z with z | z; exact hk z; exact g z)])
    have e2 : sumN (fun k => if k ∈ x :: l then F k else 0) n + (if x ∈ l then F x else 0) = sumN (fun k => if k ∈ l then F k else 0) n + (if x ∈ x :: l then F x else 0) := e
    rw [if_neg h1, if_pos List.mem_cons_self] at e2
    show F x + suL F l = _
    omega
/-- does an order accept a price -/
def acc (M : sM) (s : Bool) (p : Int32) (k : Nat) : Bool := bif s then !(decide (mA M 14 k < p)) else !(decide (p < mA M 14 k))
def waP (M : sM) (b : Nat) (s : Bool) (p : Int32) (k : Nat) : Nat := if (mA M 19 k = 1 ∧ oB M k = b ∧ mB M 3 k = s) ∧ acc M s p k = true then lfN M k else 0
def waN (M : sM) (n b : Nat) (s : Bool) (p : Int32) : Nat := sumN (waP M b s p) n
theorem waP_le (hI : Iv M n) (hk : k < n) : waP M b s p k ≤ 100 := by
  unfold waP
  split
  · exact (Iv_lf hI hk).2
  · omega
theorem waN_le (hI : Iv M n) : waN M n b s p ≤ 20000 := by
  have h1 : waN M n b s p ≤ 100 * n := sumN_le (fun k hk => waP_le hI hk)
  have h2 := hI.2.2.2.2.2
  omega
theorem waL_e (hI : Iv M n) : ∀ k, k ≤ n → waL M n b s p 0 k = io (sumN (waP M b s p) k)
  | 0, _ => rfl
  | k + 1, hk => by
    have ih := waL_e hI k (by omega)
    show waS M n b s p k (waL M n b s p 0 k) = io (sumN (waP M b s p) k + waP M b s p k)
    rw [ih, ← io_add]
    unfold waS waP
    have h3 := (Iv_lf hI (show k < n by omega)).1
    have e1 : ((decide ((mA M 19 k) = 1)) && ((decide ((oB M k) = b)) && (!(xor (mB M 3 k) s) && (bif s then (!(decide ((mA M 14 k) < p))) else (!(decide (p < (mA M 14 k)))))))) = decide ((mA M 19 k = 1 ∧ oB M k = b ∧ mB M 3 k = s) ∧ acc M s p k = true) := by
      unfold acc
      generalize decide (mA M 14 k < p) = z1
      generalize decide (p < mA M 14 k) = z2
      by_cases h1 : mA M 19 k = 1
      · by_cases h2 : oB M k = b
        · cases mB M 3 k <;> cases s <;> cases z1 <;> cases z2 <;> simp [h1, h2]
        · simp [h2]
      · simp [h1]
    rw [e1]
    by_cases g : (mA M 19 k = 1 ∧ oB M k = b ∧ mB M 3 k = s) ∧ acc M s p k = true
    · rw [decide_eq_true g, if_pos g, h3]; rfl
    · rw [decide_eq_false g, if_neg g]; rfl
theorem waF_e (hI : Iv M n) : waF M n b s p = io (waN M n b s p) := waL_e hI n (Nat.le_refl n)
theorem waN_l (hl : l.Pairwise (btr M s)) (hm : ∀ o, o ∈ l ↔ rst M n b s o) : suL (fun k => if acc M s p k = true then lfN M k else 0) l = waN M n b s p := by
  rw [suL_N (n := n) l (btr_nd hl) (fun x hx => ((hm x).mp hx).1)]
  refine sumN_cong (fun k hk => ?_)
  show (if k ∈ l then (if acc M s p k = true then lfN M k else 0) else 0) = waP M b s p k
  unfold waP
  by_cases g : k ∈ l
  · have h := ((hm k).mp g).2
    rw [if_pos g]
    by_cases g2 : acc M s p k = true
    · rw [if_pos g2, if_pos ⟨h, g2⟩]
    · rw [if_neg g2, if_neg (fun z => g2 z.2)]
  · rw [if_neg g, if_neg (fun z => g ((hm k).mpr ⟨hk, z.1⟩))]
theorem acc_mono {x y : Nat} (h : btr M s x y) (hn : ¬ acc M s p x = true) : ¬ acc M s p y = true := by
  rw [btr_iff] at h
  unfold acc at hn ⊢
  cases s
  · simp only [cond_false, Bool.not_eq_true', decide_eq_false_iff_not] at hn ⊢
    rw [Int32.lt_iff_toInt_lt] at hn ⊢
    split at h
    · omega
    · rw [if_neg Bool.false_ne_true] at h; omega
  · simp only [cond_true, Bool.not_eq_true', decide_eq_false_iff_not] at hn ⊢
    rw [Int32.lt_iff_toInt_lt] at hn ⊢
    split at h
    · omega
    · rw [if_pos rfl] at h; omega
theorem suL_0 {F : Nat → Nat} : ∀ {l : List Nat}, (∀ x, x ∈ l → F x = 0) → suL F l = 0
  | [], _ => rfl
  | x :: l, h => by
    show F x + suL F l = 0
    rw [h x List.mem_cons_self, suL_0 (fun y hy => h y (List.mem_cons_of_mem x hy))]
/-- the class: the amount that accepts a price -/
theorem w3_run (hW : Wc t M n T L A B) (hb : b < 5) : ∀ (l : List Nat) (N : Nat) (r : Option Nat), Lk t r l → l.Pairwise (btr M s) → (∀ x, x ∈ l → x < n ∧ mB M 3 x = s ∧ mA M 15 x = io (lfN M x)) →
    Q (.inl (some (.inl (io (N + suL (fun k => if acc M s p k = true then lfN M k else 0) l))))) t →
    X 3 9 [.inr (.inr (1, (some b))), .inl (bz s), .inl p, .inl (io N), .inr (.inr (8, r))] [] t Q
  | [], N, r, hl, _, _, q => by
    cases hl
    exact n3_n hW hb q
  | x :: l, N, r, hl, hp, hx, q => by
    obtain ⟨rfl, hl⟩ := hl
    obtain ⟨h1, h2, h3⟩ := hx x List.mem_cons_self
    have hp2 := List.pairwise_cons.mp hp
    have yes : acc M s p x = true → X 3 9 [.inr (.inr (1, (some b))), .inl (bz s), .inl p, .inl (io N + mA M 15 x), .inr (.inr (8, sR t 529 x))] [] t Q := fun g => by
      rw [h3, io_add]
      refine w3_run hW hb l (N + lfN M x) _ hl hp2.2 (fun y hy => hx y (List.mem_cons_of_mem x hy)) ?_
      have e : suL (fun k => if acc M s p k = true then lfN M k else 0) (x :: l) = (if acc M s p x = true then lfN M x else 0) + suL (fun k => if acc M s p k = true then lfN M k else 0) l := rfl
      rw [e, if_pos g, ← Nat.add_assoc] at q
      exact q
    have no : ¬ acc M s p x = true → Q (.inl (some (.inl (io N)))) t := fun g => by
      have e : suL (fun k => if acc M s p k = true then lfN M k else 0) (x :: l) = 0 := suL_0 (fun y hy => by
        rcases List.mem_cons.mp hy with e | e
        · rw [e]; exact if_neg g
        · exact if_neg (acc_mono (hp2.1 y e) g))
      rw [e] at q; exact q
    refine n3_k hW hb h1 (fun g g2 => ?_) (fun g g2 => ?_) (fun g g2 => ?_) (fun g g2 => ?_)
    · rw [g] at h2; subst h2
      exact no (by unfold acc; simp [g2])
    · rw [g] at h2; subst h2
      exact yes (by unfold acc; simp [g2])
    · rw [g] at h2; subst h2
      exact no (by unfold acc; simp [g2])
    · rw [g] at h2; subst h2
      exact yes (by unfold acc; simp [g2])
theorem w3 (hW : Wc t M n T L A B) (hI : Iv M n) (hb : b < 5) (q : Q (.inl (some (.inl (io (waN M n b s p))))) t) :
    X 3 0 [.inr (.inr (1, (some b))), .inl (bz s), .inl p, sJk, sJk] [] t Q := by
  obtain ⟨l, h1, h2, h3⟩ := hW.2.2.2.1 b s hb
  have e := bsF_hd h2 h3
  have hr : hd t b s = bsF M n b s := (Lk_hd h1).trans e.symm
  rw [hr] at h1
  have go : X 3 9 [.inr (.inr (1, (some b))), .inl (bz s), .inl p, .inl (io 0), .inr (.inr (8, bsF M n b s))] [] t Q := by
    refine w3_run hW hb l 0 _ h1 h2 (fun x hx => ⟨((h3 x).mp hx).1, ((h3 x).mp hx).2.2.2, (Iv_lf hI ((h3 x).mp hx).1).1⟩) ?_
    rw [waN_l h2 h3, Nat.zero_add]; exact q
  refine n3_0 hW hb (fun g => ?_) (fun g => ?_)
  · subst g; exact go
  · subst g; exact go
/-! the best -/
def szP (M : sM) (n b : Nat) (v : Int32) : Nat := min (waN M n b true v) (waN M n b false v)
def gpP (M : sM) (n b : Nat) (v : Int32) : Int32 := ab (io (waN M n b true v) - io (waN M n b false v))
def ky (S : Int32 → Nat) (G D : Int32 → Int32) (v : Int32) : Int := ((-(S v : Int) * 8589934592 + (G v).toInt) * 8589934592 + (D v).toInt) * 8589934592 + v.toInt
/-- the best of some prices -/
def Inb (S : Int32 → Nat) (G D : Int32 → Int32) (P : Int32 → Prop) (f a g : Int32) : Prop := (f = -10000 ∧ a = 0 ∧ g = 0 ∧ ∀ v, P v → S v = 0) ∨ (P f ∧ ¬ f = -10000 ∧ a = io (S f) ∧ 0 < S f ∧ g = G f ∧ ∀ v, P v → 0 < S v → ky S G D f ≤ ky S G D v)
def better (S : Int32 → Nat) (G D : Int32 → Int32) (v f : Int32) : Prop := S f < S v ∨ (S v = S f ∧ (G v < G f ∨ (G v = G f ∧ (D v < D f ∨ (D v = D f ∧ v < f)))))
theorem ky_lt {S : Int32 → Nat} {G D : Int32 → Int32} {v f : Int32} (h1 : S v ≤ 20000) (h2 : S f ≤ 20000) : better S G D v f ↔ ky S G D v < ky S G D f := by
  unfold better ky
  rw [Int32.lt_iff_toInt_lt, Int32.lt_iff_toInt_lt, Int32.lt_iff_toInt_lt, ← Int32.toInt_inj, ← Int32.toInt_inj]
  have a1 := (G v).toInt_lt
  have a2 := (G v).le_toInt
  have a3 := (G f).toInt_lt
  have a4 := (G f).le_toInt
  have b1 := (D v).toInt_lt
  have b2 := (D v).le_toInt
  have b3 := (D f).toInt_lt
  have b4 := (D f).le_toInt
  have c1 := v.toInt_lt
  have c2 := v.le_toInt
  have c3 := f.toInt_lt
  have c4 := f.le_toInt
  generalize (G v).toInt = gv at *
  generalize (G f).toInt = gf at *
  generalize (D v).toInt = dv at *
  generalize (D f).toInt = df at *
  generalize v.toInt = vv at *
  generalize f.toInt = ff at *
  generalize S v = sv at *
  generalize S f = sf at *
  omega
theorem ky_inj {S : Int32 → Nat} {G D : Int32 → Int32} {v f : Int32} (h1 : S v ≤ 20000) (h2 : S f ≤ 20000) (h : ky S G D v = ky S G D f) : v = f := by
  apply Int32.toInt_inj.mp
  unfold ky at h
  have a1 := (G v).toInt_lt
  have a2 := (G v).le_toInt
  have a3 := (G f).toInt_lt
  have a4 := (G f).le_toInt
  have b1 := (D v).toInt_lt
  have b2 := (D v).le_toInt
  have b3 := (D f).toInt_lt
  have b4 := (D f).le_toInt
  have c1 := v.toInt_lt
  have c2 := v.le_toInt
  have c3 := f.toInt_lt
  have c4 := f.le_toInt
  generalize (G v).toInt = gv at *
  generalize (G f).toInt = gf at *
  generalize (D v).toInt = dv at *
  generalize (D f).toInt = df at *
  generalize v.toInt = vv at *
  generalize f.toInt = ff at *
  generalize S v = sv at *
  generalize S f = sf at *
  omega
theorem Inb_u {S : Int32 → Nat} {G D : Int32 → Int32} {P P' : Int32 → Prop} {f a g f' a' g' : Int32} (hS : ∀ v, S v ≤ 20000) (hP : ∀ v, P v ↔ P' v) (h : Inb S G D P f a g) (h' : Inb S G D P' f' a' g') : f = f' := by
  rcases h with ⟨e1, e2, e3, e4⟩ | ⟨e0, e1, e2, e3, e4, e5⟩
  · rcases h' with ⟨u1, u2, u3, u4⟩ | ⟨u0, u1, u2, u3, u4, u5⟩
    · rw [e1, u1]
    · have := e4 f' ((hP f').mpr u0); omega
  · rcases h' with ⟨u1, u2, u3, u4⟩ | ⟨u0, u1, u2, u3, u4, u5⟩
    · have := u4 f ((hP f).mp e0); omega
    · exact ky_inj (G := G) (D := D) (hS f) (hS f') (Int.le_antisymm (e5 f' ((hP f').mpr u0) u3) (u5 f ((hP f).mp e0) e3))
/-- one more price is looked at -/
def cnd (S : Int32 → Nat) (G D : Int32 → Int32) (v f a g : Int32) : Prop := a < io (S v) ∨ (io (S v) = a ∧ 0 < S v ∧ (G v < g ∨ (G v = g ∧ (D v < D f ∨ (D v = D f ∧ v < f)))))
theorem cnd_b {S : Int32 → Nat} {G D : Int32 → Int32} {v f : Int32} (hS : ∀ v, S v ≤ 20000) (h0 : 0 < S f) : cnd S G D v f (io (S f)) (G f) ↔ better S G D v f := by
  have h1 := hS v
  have h2 := hS f
  unfold cnd better
  rw [io_lt (by omega) (by omega)]
  have e : io (S v) = io (S f) ↔ S v = S f := ⟨fun g => by rw [← nn_io (p := S v) (by omega), g, nn_io (by omega)], fun g => by rw [g]⟩
  rw [e]
  constructor
  · rintro (g | ⟨g1, g2, g3⟩)
    · exact Or.inl g
    · exact Or.inr ⟨g1, g3⟩
  · rintro (g | ⟨g1, g3⟩)
    · exact Or.inl g
    · exact Or.inr ⟨g1, by omega, g3⟩
theorem cnd_0 {S : Int32 → Nat} {G D : Int32 → Int32} {v f g : Int32} (hS : ∀ v, S v ≤ 20000) : cnd S G D v f 0 g ↔ 0 < S v := by
  have h1 := hS v
  unfold cnd
  have e : (0 : Int32) < io (S v) ↔ 0 < S v := io_lt (p := 0) (by decide) (by omega)
  rw [e]
  constructor
  · rintro (g | ⟨g1, g2, g3⟩)
    · exact g
    · exact g2
  · exact fun g => Or.inl g
theorem Inb_t {S : Int32 → Nat} {G D : Int32 → Int32} {P : Int32 → Prop} {f a g v : Int32} (hS : ∀ v, S v ≤ 20000) (hv : ¬ v = -10000) (h : Inb S G D P f a g) (hc : cnd S G D v f a g) : Inb S G D (fun w => P w ∨ w = v) v (io (S v)) (G v) := by
  rcases h with ⟨e1, e2, e3, e4⟩ | ⟨e0, e1, e2, e3, e4, e5⟩
  · rw [e2, cnd_0 hS] at hc
    refine Or.inr ⟨Or.inr rfl, hv, rfl, hc, rfl, fun w hw h0 => ?_⟩
    rcases hw with hw | hw
    · have := e4 w hw; omega
    · rw [hw]; exact Int.le_refl _
  · rw [e2, e4, cnd_b hS e3, ky_lt (hS v) (hS f)] at hc
    refine Or.inr ⟨Or.inr rfl, hv, rfl, ?_, rfl, fun w hw h0 => ?_⟩
    · have h2 := (ky_lt (hS v) (hS f)).mpr hc
      unfold better at h2
      omega
    · rcases hw with hw | hw
      · have := e5 w hw h0; omega
      · rw [hw]; exact Int.le_refl _
theorem Inb_f {S : Int32 → Nat} {G D : Int32 → Int32} {P : Int32 → Prop} {f a g v : Int32} (hS : ∀ v, S v ≤ 20000) (h : Inb S G D P f a g) (hc : ¬ cnd S G D v f a g) : Inb S G D (fun w => P w ∨ w = v) f a g := by
  rcases h with ⟨e1, e2, e3, e4⟩ | ⟨e0, e1, e2, e3, e4, e5⟩
  · rw [e2, cnd_0 hS] at hc
    refine Or.inl ⟨e1, e2, e3, fun w hw => ?_⟩
    rcases hw with hw | hw
    · exact e4 w hw
    · rw [hw]; omega
  · rw [e2, e4, cnd_b hS e3, ky_lt (hS v) (hS f)] at hc
    refine Or.inr ⟨Or.inl e0, e1, e2, e3, e4, fun w hw h0 => ?_⟩
    rcases hw with hw | hw
    · exact e5 w hw h0
    · rw [hw]; omega
end S99o
