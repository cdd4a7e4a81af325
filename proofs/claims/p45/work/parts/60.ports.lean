/-! portions, in natural numbers -/
section S60
def dN : List Nat → Nat → List Nat → List Nat
  | s :: S, r, v :: V => if 0 < r ∧ v < s then (v + 1) :: dN S (r - 1) V else v :: dN S r V
  | _, _, V => V
def cntN : List Nat → List Nat → Nat
  | s :: S, v :: V => (if v < s then 1 else 0) + cntN S V
  | _, _ => 0
def leL : List Nat → List Nat → Prop
  | [], [] => True
  | a :: A, b :: B => a ≤ b ∧ leL A B
  | _, _ => False
def ini (s0 : Nat) (S : List Nat) (a : Nat) : List Nat := min s0 (min (s0 + S.sum) a) :: S.map (fun s => (min (s0 + S.sum) a - min s0 (min (s0 + S.sum) a)) * s / S.sum)
def portN : List Nat → Nat → List Nat
  | [], _ => []
  | s0 :: S, a => dN (s0 :: S) (min (s0 + S.sum) a - (ini s0 S a).sum) (ini s0 S a)
theorem leL_len : ∀ {V S : List Nat}, leL V S → V.length = S.length
  | [], [], _ => rfl
  | _ :: V, _ :: S, h => congrArg (· + 1) (leL_len h.2)
  | [], _ :: _, h => by cases h
  | _ :: _, [], h => by cases h
theorem dN_len : ∀ (S : List Nat) (r : Nat) (V : List Nat), (dN S r V).length = V.length
  | [], r, V => by cases V <;> rfl
  | s :: S, r, [] => rfl
  | s :: S, r, v :: V => by
    show (if 0 < r ∧ v < s then (v + 1) :: dN S (r - 1) V else v :: dN S r V).length = _
    split
    · exact congrArg (· + 1) (dN_len S (r - 1) V)
    · exact congrArg (· + 1) (dN_len S r V)
theorem dN_0 : ∀ (S V : List Nat), dN S 0 V = V
  | [], V => by cases V <;> rfl
  | s :: S, [] => rfl
  | s :: S, v :: V => by
    show (if 0 < 0 ∧ v < s then (v + 1) :: dN S (0 - 1) V else v :: dN S 0 V) = _
    rw [if_neg (fun z => absurd z.1 (Nat.lt_irrefl 0)), dN_0 S V]
theorem dN_sum : ∀ (S : List Nat) (r : Nat) (V : List Nat), (dN S r V).sum = V.sum + min r (cntN S V)
  | [], r, V => by cases V <;> simp [dN, cntN]
  | s :: S, r, [] => by simp [dN, cntN]
  | s :: S, r, v :: V => by
    have e1 : cntN (s :: S) (v :: V) = (if v < s then 1 else 0) + cntN S V := rfl
    have e2 : dN (s :: S) r (v :: V) = if 0 < r ∧ v < s then (v + 1) :: dN S (r - 1) V else v :: dN S r V := rfl
    rw [e1, e2]
    by_cases hv : v < s
    · rw [if_pos hv]
      by_cases hr : 0 < r
      · rw [if_pos ⟨hr, hv⟩, List.sum_cons, List.sum_cons, dN_sum S (r - 1) V]
        omega
      · rw [if_neg (fun z => hr z.1), List.sum_cons, List.sum_cons, dN_sum S r V]
        omega
    · rw [if_neg hv, if_neg (fun z => hv z.2), List.sum_cons, List.sum_cons, dN_sum S r V]
      omega
theorem dN_le : ∀ {S : List Nat} {r : Nat} {V : List Nat}, leL V S → leL (dN S r V) S
  | [], r, [], _ => trivial
  | s :: S, r, v :: V, h => by
    have h1 : v ≤ s := h.1
    have h2 : leL V S := h.2
    show leL (if 0 < r ∧ v < s then (v + 1) :: dN S (r - 1) V else v :: dN S r V) (s :: S)
    split
    · rename_i hc
      exact ⟨show v + 1 ≤ s by omega, dN_le h2⟩
    · exact ⟨h1, dN_le h2⟩
  | [], _, _ :: _, h => by cases h
  | _ :: _, _, [], h => by cases h
theorem share_le {R H : Nat} (hR : R ≤ H) : ∀ (S : List Nat), leL (S.map (fun s => R * s / H)) S
  | [] => trivial
  | s :: S => ⟨by
      show R * s / H ≤ s
      rcases Nat.eq_zero_or_pos H with h0 | h0
      · subst h0; rw [Nat.div_zero]; exact Nat.zero_le _
      · exact Nat.div_le_of_le_mul (Nat.mul_le_mul_right s hR), share_le hR S⟩
theorem share_up {R H : Nat} (hR : R ≤ H) (hH : 0 < H) : ∀ (S : List Nat), R * S.sum ≤ H * ((S.map (fun s => R * s / H)).sum + cntN S (S.map (fun s => R * s / H)))
  | [] => Nat.le_refl _
  | s :: S => by
    have ih := share_up hR hH S
    have e1 : cntN (s :: S) ((s :: S).map (fun s => R * s / H)) = (if R * s / H < s then 1 else 0) + cntN S (S.map (fun s => R * s / H)) := rfl
    rw [e1, List.map_cons, List.sum_cons, List.sum_cons]
    have hdm := Nat.div_add_mod (R * s) H
    have hlt := Nat.mod_lt (R * s) hH
    have hone : R * s ≤ H * (R * s / H + (if R * s / H < s then 1 else 0)) := by
      by_cases hv : R * s / H < s
      · rw [if_pos hv, Nat.mul_add, Nat.mul_one]; omega
      · rw [if_neg hv, Nat.add_zero]
        have h1 : s ≤ R * s / H := Nat.le_of_not_lt hv
        exact Nat.le_trans (Nat.mul_le_mul_right s hR) (Nat.mul_le_mul_left H h1)
    have e2 : H * (R * s / H + (S.map (fun s => R * s / H)).sum + ((if R * s / H < s then 1 else 0) + cntN S (S.map (fun s => R * s / H)))) = H * (R * s / H + (if R * s / H < s then 1 else 0)) + H * ((S.map (fun s => R * s / H)).sum + cntN S (S.map (fun s => R * s / H))) := by
      rw [← Nat.mul_add]
      congr 1
      omega
    rw [e2, Nat.mul_add]
    omega
theorem share_dn {R H : Nat} : ∀ (S : List Nat), H * (S.map (fun s => R * s / H)).sum ≤ R * S.sum
  | [] => Nat.le_refl _
  | s :: S => by
    have ih := share_dn (R := R) (H := H) S
    rw [List.map_cons, List.sum_cons, List.sum_cons, Nat.mul_add, Nat.mul_add]
    have := Nat.mul_div_le (R * s) H
    omega
theorem sum_pos_nil : ∀ {S : List Nat}, (∀ s, s ∈ S → 1 ≤ s) → S.sum = 0 → S = []
  | [], _, _ => rfl
  | s :: S, h, e => by
    have h1 := h s List.mem_cons_self
    rw [List.sum_cons] at e
    omega
/-- what holds of the first portions: their sum is at most the size, and one turn mends the rest -/
theorem ini_ok {s0 a : Nat} {S : List Nat} (h : ∀ s, s ∈ S → 1 ≤ s) : (ini s0 S a).sum ≤ min (s0 + S.sum) a ∧ min (s0 + S.sum) a ≤ (ini s0 S a).sum + cntN S (S.map (fun s => (min (s0 + S.sum) a - min s0 (min (s0 + S.sum) a)) * s / S.sum)) ∧ leL (ini s0 S a) (s0 :: S) := by
  have hR : min (s0 + S.sum) a - min s0 (min (s0 + S.sum) a) ≤ S.sum := by omega
  have e1 : (ini s0 S a).sum = min s0 (min (s0 + S.sum) a) + (S.map (fun s => (min (s0 + S.sum) a - min s0 (min (s0 + S.sum) a)) * s / S.sum)).sum := List.sum_cons
  rcases Nat.eq_zero_or_pos S.sum with h0 | h0
  · have hnil := sum_pos_nil h h0
    subst hnil
    refine ⟨?_, ?_, ?_, trivial⟩
    · rw [e1]; simp
    · rw [e1]; simp
    · exact Nat.min_le_left _ _
  · have h1 := share_dn (R := min (s0 + S.sum) a - min s0 (min (s0 + S.sum) a)) (H := S.sum) S
    rw [Nat.mul_comm] at h1
    have h2 := Nat.le_of_mul_le_mul_right h1 h0
    have h3 := share_up hR h0 S
    rw [Nat.mul_comm] at h3
    have h4 := Nat.le_of_mul_le_mul_left h3 h0
    exact ⟨by rw [e1]; omega, by rw [e1]; omega, Nat.min_le_left _ _, share_le hR S⟩
theorem portN_sum {S : List Nat} {a : Nat} (h : ∀ s, s ∈ S → 1 ≤ s) : (portN S a).sum = min S.sum a := by
  cases S with
  | nil => simp [portN]
  | cons s0 S =>
    obtain ⟨h1, h2, h3⟩ := ini_ok (s0 := s0) (a := a) (fun s hs => h s (List.mem_cons_of_mem s0 hs))
    show (dN (s0 :: S) (min (s0 + S.sum) a - (ini s0 S a).sum) (ini s0 S a)).sum = _
    rw [dN_sum, List.sum_cons]
    have e : cntN (s0 :: S) (ini s0 S a) = (if min s0 (min (s0 + S.sum) a) < s0 then 1 else 0) + cntN S (S.map (fun s => (min (s0 + S.sum) a - min s0 (min (s0 + S.sum) a)) * s / S.sum)) := rfl
    rw [e]
    omega
theorem portN_le {S : List Nat} {a : Nat} (h : ∀ s, s ∈ S → 1 ≤ s) : leL (portN S a) S := by
  cases S with
  | nil => exact trivial
  | cons s0 S => exact dN_le (ini_ok (s0 := s0) (a := a) (fun s hs => h s (List.mem_cons_of_mem s0 hs))).2.2
/-! and the machine's numbers -/
theorem io_div {p q : Nat} (hp : p < 2 ^ 31) (hq : q < 2 ^ 31) : io p / io q = io (p / q) := by
  have hdl : (p / q) < 2 ^ 31 := Nat.lt_of_le_of_lt (Nat.div_le_self p q) hp
  apply Int32.toInt_inj.mp
  rw [Int32.toInt_div, io_int hp, io_int hq, io_int hdl]
  have e : ((p : Int).tdiv (q : Int)) = ((p / q : Nat) : Int) := by
    rw [Int.tdiv_eq_ediv_of_nonneg (Int.natCast_nonneg p)]; rfl
  rw [e]
  clear e
  generalize p / q = d at hdl ⊢
  exact Int.bmod_eq_of_le (by omega) (by omega)
theorem io_sub {p q : Nat} (h : q ≤ p) : io p - io q = io (p - q) := by
  have e : io p = io (p - q) + io q := by rw [io_add]; congr 1; omega
  rw [e, Int32.add_sub_cancel]
theorem mnc_io {p q : Nat} (hp : p < 2 ^ 31) (hq : q < 2 ^ 31) : mnc (io p) (io q) = io (min p q) := by
  unfold mnc
  by_cases h : p < q
  · rw [decide_eq_true ((io_lt hp hq).mpr h)]
    show io p = _
    rw [Nat.min_eq_left (Nat.le_of_lt h)]
  · rw [decide_eq_false (fun z => h ((io_lt hp hq).mp z))]
    show io q = _
    rw [Nat.min_eq_right (Nat.le_of_not_lt h)]
/-- what is shown, as a natural number -/
def shN (M : sM) (x : Nat) : Nat := (mA M 17 x).toNatClampNeg
def Sh (M : sM) (L : List Nat) : Prop := ∀ x, x ∈ L → mA M 17 x = io (shN M x) ∧ 1 ≤ shN M x ∧ shN M x ≤ 100
theorem Sh_tl {M : sM} {x : Nat} {l : List Nat} (h : Sh M (x :: l)) : Sh M l := fun y hy => h y (List.mem_cons_of_mem x hy)
theorem Sh_sum {M : sM} : ∀ {l : List Nat}, Sh M l → (l.map (shN M)).sum ≤ 100 * l.length
  | [], _ => Nat.le_refl _
  | x :: l, h => by
    have ih := Sh_sum (Sh_tl h)
    have h1 := (h x List.mem_cons_self).2.2
    rw [List.map_cons, List.sum_cons, List.length_cons]
    omega
theorem Sh_1 {M : sM} {l : List Nat} (h : Sh M l) : ∀ s, s ∈ l.map (shN M) → 1 ≤ s := fun s hs => by
  obtain ⟨x, hx, e⟩ := List.mem_map.mp hs
  rw [← e]; exact (h x hx).2.1
theorem smS_io {M : sM} : ∀ {l : List Nat} {a : Nat}, Sh M l → smS M l (io a) = io (a + (l.map (shN M)).sum)
  | [], a, _ => rfl
  | x :: l, a, h => by
    show smS M l (io a + mA M 17 x) = _
    rw [(h x List.mem_cons_self).1, io_add, smS_io (Sh_tl h), List.map_cons, List.sum_cons, Nat.add_assoc]
theorem sU1_e1 {α : Type} {f : Nat → α} {x : Nat} {v : α} : sU1 f x v x = v := if_pos rfl
theorem sU1_n {α : Type} {f : Nat → α} {x y : Nat} {v : α} (h : ¬ y = x) : sU1 f x v y = f y := if_neg h
theorem dvG_n {M : sM} : ∀ {l : List Nat} {r : Int32} {g : Nat → Int32} {y : Nat}, ¬ y ∈ l → dvG M l r g y = g y
  | [], _, _, _, _ => rfl
  | x :: l, r, g, y, h => by
    have hy : ¬ y = x := fun e => h (by rw [e]; exact List.mem_cons_self)
    have hl : ¬ y ∈ l := fun e => h (List.mem_cons_of_mem x e)
    show (bif decide (0 < r) && decide (g x < mA M 17 x) then dvG M l (r + (-1)) (sU1 g x (g x + 1)) else dvG M l r g) y = g y
    cases decide (0 < r) && decide (g x < mA M 17 x)
    · exact dvG_n hl
    · exact (dvG_n hl).trans (sU1_n hy)
theorem io_pos {p : Nat} (hp : p < 2 ^ 31) : ((0 : Int32) < io p) ↔ 0 < p := io_lt (p := 0) (by decide) hp
theorem io_pred {p : Nat} (h : 0 < p) : io p + (-1) = io (p - 1) := by
  have e : io p = io (p - 1) + io 1 := by rw [io_add]; congr 1; omega
  rw [e, Int32.add_assoc]
  show io (p - 1) + 0 = _
  exact Int32.add_zero _
theorem dvG_io {M : sM} : ∀ {l : List Nat} {r : Nat} {V : List Nat} {g : Nat → Int32}, Sh M l → l.Nodup → r < 2 ^ 31 → l.map g = V.map io → leL V (l.map (shN M)) → l.map (dvG M l (io r) g) = (dN (l.map (shN M)) r V).map io
  | [], r, V, g, _, _, _, hg, hV => by
    cases V with
    | nil => rfl
    | cons v V => cases hV
  | x :: l, r, [], g, _, _, _, hg, hV => by cases hV
  | x :: l, r, v :: V, g, hS, hN, hr, hg, hV => by
    have hN2 := List.nodup_cons.mp hN
    have hx := hS x List.mem_cons_self
    have hg1 : g x = io v := (List.cons.inj hg).1
    have hg2 : l.map g = V.map io := (List.cons.inj hg).2
    have hv : v ≤ shN M x := hV.1
    have hV2 : leL V (l.map (shN M)) := hV.2
    have e1 : dvG M (x :: l) (io r) g = bif decide (0 < io r) && decide (g x < mA M 17 x) then dvG M l (io r + (-1)) (sU1 g x (g x + 1)) else dvG M l (io r) g := rfl
    have e2 : dN ((x :: l).map (shN M)) r (v :: V) = if 0 < r ∧ v < shN M x then (v + 1) :: dN (l.map (shN M)) (r - 1) V else v :: dN (l.map (shN M)) r V := rfl
    have d1 : decide ((0 : Int32) < io r) = decide (0 < r) := decide_eq_decide.mpr (io_pos hr)
    have d2 : decide (g x < mA M 17 x) = decide (v < shN M x) := by rw [hg1, hx.1]; exact decide_eq_decide.mpr (io_lt (by omega) (by omega))
    rw [e1, e2, d1, d2]
    by_cases h : 0 < r ∧ v < shN M x
    · rw [if_pos h, decide_eq_true h.1, decide_eq_true h.2]
      show (x :: l).map (dvG M l (io r + (-1)) (sU1 g x (g x + 1))) = _
      rw [io_pred h.1, hg1]
      rw [show io v + 1 = io (v + 1) from io_add v 1]
      have hg3 : l.map (sU1 g x (io (v + 1))) = V.map io := by
        rw [← hg2]
        exact List.map_congr_left (fun y hy => sU1_n (fun e => hN2.1 (by rw [← e]; exact hy)))
      rw [List.map_cons, List.map_cons, dvG_n hN2.1, sU1_e1, dvG_io (Sh_tl hS) hN2.2 (by omega) hg3 hV2]
    · rw [if_neg h]
      have e3 : (decide (0 < r) && decide (v < shN M x)) = false := by
        cases hz : (decide (0 < r) && decide (v < shN M x)) with
        | false => rfl
        | true =>
          rw [Bool.and_eq_true] at hz
          exact absurd ⟨of_decide_eq_true hz.1, of_decide_eq_true hz.2⟩ h
      rw [e3]
      show (x :: l).map (dvG M l (io r) g) = _
      rw [List.map_cons, List.map_cons, dvG_n hN2.1, hg1, dvG_io (Sh_tl hS) hN2.2 hr hg2 hV2]
theorem poG_n {M : sM} {h u : Int32} : ∀ {l : List Nat} {r : Int32} {g : Nat → Int32} {y : Nat}, ¬ y ∈ l → (poG M h u l r g).2 y = g y
  | [], _, _, _, _ => rfl
  | x :: l, r, g, y, hn => by
    have hy : ¬ y = x := fun e => hn (by rw [e]; exact List.mem_cons_self)
    have hl : ¬ y ∈ l := fun e => hn (List.mem_cons_of_mem x e)
    exact (poG_n (l := l) hl).trans (sU1_n hy)
theorem poG_io {M : sM} {H R : Nat} (hH : 0 < H) (hH2 : H < 2 ^ 31) (hR : R ≤ 100) : ∀ {l : List Nat} {r : Nat} {g : Nat → Int32}, Sh M l → l.Nodup → (l.map (fun x => R * shN M x / H)).sum ≤ r →
    (poG M (io H) (io R) l (io r) g).1 = io (r - (l.map (fun x => R * shN M x / H)).sum) ∧ l.map (poG M (io H) (io R) l (io r) g).2 = l.map (fun x => io (R * shN M x / H))
  | [], r, g, _, _, _ => ⟨rfl, rfl⟩
  | x :: l, r, g, hS, hN, hr => by
    have hN2 := List.nodup_cons.mp hN
    have hx := hS x List.mem_cons_self
    rw [List.map_cons, List.sum_cons] at hr
    have hm : R * shN M x ≤ 10000 := Nat.mul_le_mul hR hx.2.2
    have ev : (bif decide ((0 : Int32) < io H) then ((io R * (mA M 17 x)) / io H) else 0) = io (R * shN M x / H) := by
      rw [decide_eq_true ((io_pos hH2).mpr hH)]
      show io R * mA M 17 x / io H = _
      rw [hx.1, io_mul, io_div (by omega) hH2]
    have e1 : poG M (io H) (io R) (x :: l) (io r) g = poG M (io H) (io R) l (io r - (bif decide ((0 : Int32) < io H) then ((io R * (mA M 17 x)) / io H) else 0)) (sU1 g x (bif decide ((0 : Int32) < io H) then ((io R * (mA M 17 x)) / io H) else 0)) := rfl
    rw [e1, ev, io_sub (by omega)]
    obtain ⟨i1, i2⟩ := poG_io hH hH2 hR (l := l) (r := r - R * shN M x / H) (g := sU1 g x (io (R * shN M x / H))) (Sh_tl hS) hN2.2 (by omega)
    refine ⟨?_, ?_⟩
    · rw [i1, List.map_cons, List.sum_cons, Nat.sub_sub]
    · rw [List.map_cons, List.map_cons, i2, poG_n hN2.1, sU1_e1]
/-- the class's portions -/
theorem ptF_io {M : sM} {L : List Nat} {a : Nat} {g : Nat → Int32} (hS : Sh M L) (hN : L.Nodup) (hL : L.length ≤ 200) (ha : a ≤ 100) : L.map (ptF M (io a) L g) = (portN (L.map (shN M)) a).map io := by
  cases L with
  | nil => rfl
  | cons x l =>
    have hN2 := List.nodup_cons.mp hN
    have hx := hS x List.mem_cons_self
    have hl := Sh_tl hS
    have hs := Sh_sum hl
    have hll : l.length ≤ 199 := by have : l.length + 1 ≤ 200 := hL; omega
    have e0 : smS M (x :: l) 0 = io (shN M x + (l.map (shN M)).sum) := by
      have := smS_io (a := 0) hS
      rw [List.map_cons, List.sum_cons, Nat.zero_add] at this
      exact this
    obtain ⟨k1, k2, k3⟩ := ini_ok (s0 := shN M x) (a := a) (Sh_1 hl)
    have key : ptF M (io a) (x :: l) g = dvG M (x :: l) (poG M (io (l.map (shN M)).sum) (io (min (shN M x + (l.map (shN M)).sum) a - min (shN M x) (min (shN M x + (l.map (shN M)).sum) a))) l (io (min (shN M x + (l.map (shN M)).sum) a - min (shN M x) (min (shN M x + (l.map (shN M)).sum) a))) (sU1 g x (io (min (shN M x) (min (shN M x + (l.map (shN M)).sum) a))))).1 (poG M (io (l.map (shN M)).sum) (io (min (shN M x + (l.map (shN M)).sum) a - min (shN M x) (min (shN M x + (l.map (shN M)).sum) a))) l (io (min (shN M x + (l.map (shN M)).sum) a - min (shN M x) (min (shN M x + (l.map (shN M)).sum) a))) (sU1 g x (io (min (shN M x) (min (shN M x + (l.map (shN M)).sum) a))))).2 := by
      have f1 : mnc (smS M (x :: l) 0) (io a) = io (min (shN M x + (l.map (shN M)).sum) a) := by rw [e0, mnc_io (by omega) (by omega)]
      have f2 : mnc (mnc (smS M (x :: l) 0) (io a)) (mA M 17 x) = io (min (shN M x) (min (shN M x + (l.map (shN M)).sum) a)) := by
        rw [f1, hx.1, mnc_io (by omega) (by omega), Nat.min_comm]
      have f3 : smS M (x :: l) 0 - mA M 17 x = io (l.map (shN M)).sum := by
        rw [e0, hx.1, io_sub (by omega)]
        congr 1
        omega
      have f4 : mnc (smS M (x :: l) 0) (io a) - mnc (mnc (smS M (x :: l) 0) (io a)) (mA M 17 x) = io (min (shN M x + (l.map (shN M)).sum) a - min (shN M x) (min (shN M x + (l.map (shN M)).sum) a)) := by
        rw [f1, hx.1, mnc_io (by omega) (by omega), io_sub (by omega), Nat.min_comm (shN M x)]
      show dvG M (x :: l) (poG M (smS M (x :: l) 0 - mA M 17 x) (mnc (smS M (x :: l) 0) (io a) - mnc (mnc (smS M (x :: l) 0) (io a)) (mA M 17 x)) l (mnc (smS M (x :: l) 0) (io a) - mnc (mnc (smS M (x :: l) 0) (io a)) (mA M 17 x)) (sU1 g x (mnc (mnc (smS M (x :: l) 0) (io a)) (mA M 17 x)))).1 _ = _
      rw [f4, f2, f3]
    rw [key]
    generalize hP0 : min (shN M x) (min (shN M x + (l.map (shN M)).sum) a) = P0
    generalize hZ : min (shN M x + (l.map (shN M)).sum) a = Z at *
    have ei : ini (shN M x) (l.map (shN M)) a = P0 :: (l.map (shN M)).map (fun s => (Z - P0) * s / (l.map (shN M)).sum) := by
      unfold ini
      rw [hZ, hP0]
    have em : (l.map (shN M)).map (fun s => (Z - P0) * s / (l.map (shN M)).sum) = l.map (fun x => (Z - P0) * shN M x / (l.map (shN M)).sum) := by
      rw [List.map_map]; rfl
    rw [ei, List.sum_cons, em] at k1
    have eport : portN ((x :: l).map (shN M)) a = dN ((x :: l).map (shN M)) (Z - (P0 + (l.map (fun x => (Z - P0) * shN M x / (l.map (shN M)).sum)).sum)) (P0 :: l.map (fun x => (Z - P0) * shN M x / (l.map (shN M)).sum)) := by
      show dN (shN M x :: l.map (shN M)) (min (shN M x + (l.map (shN M)).sum) a - (ini (shN M x) (l.map (shN M)) a).sum) (ini (shN M x) (l.map (shN M)) a) = _
      rw [ei, hZ, List.sum_cons, em]; rfl
    rw [eport]
    rw [ei, em] at k3
    rcases Nat.eq_zero_or_pos (l.map (shN M)).sum with h0 | h0
    · have hnil : l.map (shN M) = [] := sum_pos_nil (Sh_1 hl) h0
      have hnil2 : l = [] := List.map_eq_nil_iff.mp hnil
      subst hnil2
      refine (dvG_io (r := Z - P0) (V := [P0]) hS hN (by omega) ?_ k3).trans ?_
      · show [sU1 g x (io P0) x] = [io P0]
        rw [sU1_e1]
      · rfl
    · obtain ⟨i1, i2⟩ := poG_io (M := M) (H := (l.map (shN M)).sum) (R := Z - P0) h0 (by omega) (by omega) (l := l) (r := Z - P0) (g := sU1 g x (io P0)) hl hN2.2 (by omega)
      rw [i1]
      refine (dvG_io (V := P0 :: l.map (fun x => (Z - P0) * shN M x / (l.map (shN M)).sum)) hS hN (by omega) ?_ k3).trans ?_
      · rw [List.map_cons, List.map_cons, i2, poG_n hN2.1, sU1_e1, List.map_map]; rfl
      · rw [Nat.sub_sub]
end S60
