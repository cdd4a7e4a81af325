/-! the reference's amounts and trades by shares -/
section S61
variable {t t' : sT} {M M' M0 : sM} {n T b c m o k x y K w : Nat} {p a d h : Int32} {s z : Bool} {L L' l : List Nat} {Q : sRs → sT → Prop}
theorem Vr_28 {v : Int32} (hV : Vr t M n) : Vr (sAw t 21 28 k v) M n := Vr_mk hV ((rp_As rfl).trans hV.1) cp_A (Fr.refl M)
theorem TkL_28 {v : Int32} (h : TkL t L) : TkL (sAw t 21 28 k v) L := ⟨h.1, fun i hi => h.2 i hi⟩
/-- amounts from a place on -/
def Am (t : sT) (k : Nat) (V : List Nat) : Prop := ∀ i, i < V.length → sA t 21 28 (k + i) = io (V.getD i 0)
theorem Am_c {v : Nat} {V : List Nat} (h : Am t k (v :: V)) : sA t 21 28 k = io v ∧ Am t (k + 1) V := by
  refine ⟨h 0 (Nat.succ_pos _), fun i hi => ?_⟩
  have h1 := h (i + 1) (Nat.succ_lt_succ hi)
  rw [show k + 1 + i = k + (i + 1) by omega]
  exact h1
theorem Am_cons {v : Nat} {V : List Nat} (h0 : sA t 21 28 k = io v) (h : Am t (k + 1) V) : Am t k (v :: V) := by
  intro i hi
  cases i with
  | zero => exact h0
  | succ i =>
    rw [show k + (i + 1) = k + 1 + i by omega]
    exact h i (Nat.lt_of_succ_lt_succ hi)
theorem Am_sp {V : List Nat} (hs : sp t' = sp t) (h : Am t k V) : Am t' k V := fun i hi => (am_sp hs).trans (h i hi)
theorem am_w {v : Int32} : sA (sAw t 21 28 x v) 21 28 y = if y = x then v else sA t 21 28 y := by
  show (if 21 = 21 ∧ 28 = 28 ∧ y = x then v else sA t 21 28 y) = _
  by_cases e : y = x
  · rw [if_pos ⟨rfl, rfl, e⟩, if_pos e]
  · rw [if_neg (fun q => e q.2.2), if_neg e]
theorem v172_4 : ∀ (l : List Nat) (k : Nat) (acc : Nat), Vr t M n → TkL t L → L.length ≤ 200 → Dr L k l → (∀ x, x ∈ l → x < n) → Sh M l →
    X 172 4 [.inr (.inr (12, (some 0))), .inl a, .inl (io (acc + (l.map (shN M)).sum)), .inl (io L.length), sJk, sJk, sJk] [] t Q →
    X 172 4 [.inr (.inr (12, (some 0))), .inl a, .inl (io acc), .inl (io k), sJk, sJk, sJk] [] t Q
  | [], k, acc, hV, hT, h9, hD, _, _, q => by
    have e := Dr_n hD
    subst e
    exact q
  | x :: l, k, acc, hV, hT, h9, hD, hx, hS, q => by
    obtain ⟨hk, hg, hD2⟩ := Dr_c hD
    refine r172_4k hV.1 hV.2.1 hV.2.2 hT h9 hk hg (hx x List.mem_cons_self) ?_
    rw [(hS x List.mem_cons_self).1, io_add]
    refine v172_4 l (k + 1) _ hV hT h9 hD2 (fun y hy => hx y (List.mem_cons_of_mem x hy)) (Sh_tl hS) ?_
    rw [Nat.add_assoc]
    rw [List.map_cons, List.sum_cons] at q
    exact q
theorem v172_88 {H R : Nat} (hH : (L.tail = [] ∨ 0 < H)) (hH2 : H < 2 ^ 31) (hR : R ≤ 100) : ∀ (l : List Nat) (k D : Nat) (t : sT), Vr t M n → TkL t L → L.length ≤ 200 → Dr L k l → 0 < k → (∀ x, x ∈ l → x < n) → Sh M l →
    (∀ t', Vr t' M n → cp t' = cp t → TkL t' L → (∀ j, j < k → sA t' 21 28 j = sA t 21 28 j) → Am t' k (l.map (fun x => R * shN M x / H)) →
      X 172 141 [.inr (.inr (12, (some 0))), .inl a, .inl (io H), .inl (io R), .inl (io (D + (l.map (fun x => R * shN M x / H)).sum)), .inl 0, sJk] [] t' Q) →
    X 172 88 [.inr (.inr (12, (some 0))), .inl a, .inl (io H), .inl (io R), .inl (io D), .inl (io k), sJk] [] t Q
  | [], k, D, t, hV, hT, h9, hD, _, _, _, q => by
    have e := Dr_n hD
    subst e
    exact r172_88e hV.1 hV.2.1 hV.2.2 hT h9 (q t hV rfl hT (fun _ _ => rfl) (fun i hi => absurd hi (Nat.not_lt_zero i)))
  | x :: l, k, D, t, hV, hT, h9, hD, hk0, hx, hS, q => by
    obtain ⟨hk, hg, hD2⟩ := Dr_c hD
    have hH0 : 0 < H := by
      rcases hH with e | e
      · cases L with
        | nil => exact absurd hk (Nat.not_lt_zero k)
        | cons y l2 =>
          have e2 : l2 = [] := e
          subst e2
          have : k < 1 := hk
          omega
      · exact e
    have hsx := hS x List.mem_cons_self
    have hm : R * shN M x ≤ 10000 := Nat.mul_le_mul hR hsx.2.2
    refine r172_88k hV.1 hV.2.1 hV.2.2 hT h9 hk hg (hx x List.mem_cons_self) (pos_ne0 ((io_pos hH2).mpr hH0)) ?_
    rw [hsx.1, io_mul, io_div (by omega) hH2, io_add]
    refine v172_88 hH hH2 hR l (k + 1) _ _ (Vr_28 hV) (TkL_28 hT) h9 hD2 (Nat.succ_pos k) (fun y hy => hx y (List.mem_cons_of_mem x hy)) (Sh_tl hS) (fun t' g1 g2 g3 g4 g5 => ?_)
    rw [List.map_cons, List.sum_cons] at q
    rw [Nat.add_assoc]
    refine q t' g1 (g2.trans cp_A) g3 (fun j hj => ?_) (Am_cons ?_ g5)
    · rw [g4 j (by omega), am_w, if_neg (by omega)]
    · rw [g4 k (by omega), am_w, if_pos rfl]
theorem v172_141 {Z : Nat} (hZ : Z < 2 ^ 31) {y1 : Int32} : ∀ (l : List Nat) (k D : Nat) (V : List Nat) (y0 : sV) (t : sT), Vr t M n → TkL t L → L.length ≤ 200 → Dr L k l → (∀ x, x ∈ l → x < n) → Sh M l → leL V (l.map (shN M)) → Am t k V → D ≤ Z → Z ≤ D + cntN (l.map (shN M)) V →
    (∀ t', Vr t' M n → cp t' = cp t → TkL t' L → (∀ j, j < k → sA t' 21 28 j = sA t 21 28 j) → Am t' k (dN (l.map (shN M)) (Z - D) V) → Q (.inl none) t') →
    ∀ (kk : Int32), (l = [] ∨ kk = io k) → X 172 141 [.inr (.inr (12, (some 0))), .inl (io Z), .inl h, .inl y1, .inl (io D), .inl kk, y0] [] t Q
  | [], k, D, V, y0, t, hV, hT, h9, hD, _, _, hle, hA, hD1, hcl, q, kk, _ => by
    have e : V = [] := by
      cases V with
      | nil => rfl
      | cons v V => cases hle
    subst e
    have hz : Z ≤ D + 0 := hcl
    refine r172_141e hV.1 hV.2.1 hV.2.2 hT h9 (fun hlt => ?_) (q t hV rfl hT (fun _ _ => rfl) hA)
    rw [io_lt (by omega) hZ] at hlt
    omega
  | x :: l, k, D, [], y0, t, hV, hT, h9, hD, hx, hS, hle, hA, hD1, hcl, q, kk, hkk => by cases hle
  | x :: l, k, D, v :: V, y0, t, hV, hT, h9, hD, hx, hS, hle, hA, hD1, hcl, q, kk, hkk => by
    obtain ⟨hk, hg, hD2⟩ := Dr_c hD
    have ekk : kk = io k := by
      rcases hkk with e | e
      · cases e
      · exact e
    subst ekk
    have hsx := hS x List.mem_cons_self
    obtain ⟨ha0, hA2⟩ := Am_c hA
    have hv : v ≤ shN M x := hle.1
    have hle2 : leL V (l.map (shN M)) := hle.2
    by_cases hDZ : D < Z
    · have hc0 : cntN ((x :: l).map (shN M)) (v :: V) = (if v < shN M x then 1 else 0) + cntN (l.map (shN M)) V := rfl
      rw [hc0] at hcl
      have hne : ¬ (io L.length) = 0 := pos_ne0 ((io_pos (by omega)).mpr (by omega))
      refine r172_141 hV.1 hV.2.1 hV.2.2 hT h9 hk hg (hx x List.mem_cons_self) hne (fun hn => absurd ((io_lt (by omega) hZ).mpr hDZ) hn) (fun _ => ?_)
      have eb : (bz (decide ((sA t 21 28 k) < (mA M 17 x)))) = io (if v < shN M x then 1 else 0) := by
        rw [ha0, hsx.1]
        by_cases e : v < shN M x
        · rw [decide_eq_true ((io_lt (by omega) (by omega)).mpr e), if_pos e]; rfl
        · rw [decide_eq_false (fun q2 => e ((io_lt (by omega) (by omega)).mp q2)), if_neg e]; rfl
      rw [eb, ha0, io_add, io_add, irem_io (by omega) (by omega) (by omega)]
      have hD3 : D + (if v < shN M x then 1 else 0) ≤ Z := by split <;> omega
      refine v172_141 hZ l (k + 1) (D + (if v < shN M x then 1 else 0)) V _ _ (Vr_28 hV) (TkL_28 hT) h9 hD2 (fun y hy => hx y (List.mem_cons_of_mem x hy)) (Sh_tl hS) hle2 (fun i hi => ?_) hD3 (by omega) (fun t' g1 g2 g3 g4 g5 => ?_) _ ?_
      · rw [am_w, if_neg (by omega)]; exact hA2 i hi
      · refine q t' g1 (g2.trans cp_A) g3 (fun j hj => ?_) ?_
        · rw [g4 j (by omega), am_w, if_neg (by omega)]
        · have ek : sA t' 21 28 k = io (v + (if v < shN M x then 1 else 0)) := by rw [g4 k (by omega), am_w, if_pos rfl]
          show Am t' k (if 0 < Z - D ∧ v < shN M x then (v + 1) :: dN (l.map (shN M)) (Z - D - 1) V else v :: dN (l.map (shN M)) (Z - D) V)
          by_cases e : v < shN M x
          · rw [if_pos ⟨by omega, e⟩]
            rw [if_pos e] at ek g5
            refine Am_cons ek ?_
            rw [show Z - D - 1 = Z - (D + 1) by omega]
            exact g5
          · rw [if_neg (fun q2 => e q2.2)]
            rw [if_neg e] at ek g5
            exact Am_cons ek g5
      · cases l with
        | nil => exact Or.inl rfl
        | cons y l2 =>
          right
          have := (Dr_c hD2).1
          rw [Nat.mod_eq_of_lt this]
    · have hZD : Z - D = 0 := by omega
      refine r172_141e hV.1 hV.2.1 hV.2.2 hT h9 (fun hlt => hDZ ((io_lt (by omega) hZ).mp hlt)) (q t hV rfl hT (fun _ _ => rfl) ?_)
      rw [hZD, dN_0]
      exact hA
/-- the amounts -/
theorem v172 {A : Nat} (hV : Vr t M n) (hT : TkL t (x :: l)) (h9 : (x :: l).length ≤ 200) (hx : ∀ y, y ∈ x :: l → y < n) (hS : Sh M (x :: l)) (hA : A ≤ 100)
    (q : ∀ t', Vr t' M n → cp t' = cp t → TkL t' (x :: l) → Am t' 0 (portN ((x :: l).map (shN M)) A) → Q (.inl none) t') :
    X 172 0 [.inr (.inr (12, (some 0))), .inl (io (min ((x :: l).map (shN M)).sum A)), sJk, sJk, sJk, sJk, sJk] [] t Q := by
  have hsx := hS x List.mem_cons_self
  have hl := Sh_tl hS
  have hs := Sh_sum hl
  have hll : l.length ≤ 199 := by have : l.length + 1 ≤ 200 := h9; omega
  obtain ⟨k1, k2, k3⟩ := ini_ok (s0 := shN M x) (a := A) (Sh_1 hl)
  have eZ : ((x :: l).map (shN M)).sum = shN M x + (l.map (shN M)).sum := by rw [List.map_cons, List.sum_cons]
  rw [eZ]
  have hport : portN ((x :: l).map (shN M)) A = dN ((x :: l).map (shN M)) (min (shN M x + (l.map (shN M)).sum) A - (ini (shN M x) (l.map (shN M)) A).sum) (ini (shN M x) (l.map (shN M)) A) := rfl
  rw [hport] at q
  refine r172_0 hV.1 hV.2.1 hV.2.2 hT h9 ?_
  have hD1 : Dr (x :: l) 1 l := (Dr_c (Dr_0 (x :: l))).2.2
  refine v172_4 l 1 0 hV hT h9 hD1 (fun y hy => hx y (List.mem_cons_of_mem x hy)) hl ?_
  rw [Nat.zero_add]
  refine r172_4e hV.1 hV.2.1 hV.2.2 hT h9 (Nat.succ_pos _) rfl (hx x List.mem_cons_self) ?_
  show X 172 88 [.inr (.inr (12, (some 0))), .inl (io (min (shN M x + (l.map (shN M)).sum) A)), .inl (io (l.map (shN M)).sum), .inl (io (min (shN M x + (l.map (shN M)).sum) A) - (mnc (mA M 17 x) (io (min (shN M x + (l.map (shN M)).sum) A)))), .inl (mnc (mA M 17 x) (io (min (shN M x + (l.map (shN M)).sum) A))), .inl 1, sJk] [] (sAw t 21 28 0 (mnc (mA M 17 x) (io (min (shN M x + (l.map (shN M)).sum) A)))) Q
  rw [hsx.1, mnc_io (by omega) (by omega), io_sub (by omega)]
  have ei : ini (shN M x) (l.map (shN M)) A = min (shN M x) (min (shN M x + (l.map (shN M)).sum) A) :: l.map (fun y => (min (shN M x + (l.map (shN M)).sum) A - min (shN M x) (min (shN M x + (l.map (shN M)).sum) A)) * shN M y / (l.map (shN M)).sum) := by
    unfold ini; rw [List.map_map]; rfl
  refine v172_88 (a := io (min (shN M x + (l.map (shN M)).sum) A)) ?_ (by omega) (by omega) l 1 _ _ (Vr_28 hV) (TkL_28 hT) h9 hD1 Nat.one_pos (fun y hy => hx y (List.mem_cons_of_mem x hy)) hl (fun t1 g1 g2 g3 g4 g5 => ?_)
  · rcases Nat.eq_zero_or_pos (l.map (shN M)).sum with h0 | h0
    · left
      exact List.map_eq_nil_iff.mp (sum_pos_nil (Sh_1 hl) h0)
    · exact Or.inr h0
  · have eS : min (shN M x) (min (shN M x + (l.map (shN M)).sum) A) + (l.map (fun y => (min (shN M x + (l.map (shN M)).sum) A - min (shN M x) (min (shN M x + (l.map (shN M)).sum) A)) * shN M y / (l.map (shN M)).sum)).sum = (ini (shN M x) (l.map (shN M)) A).sum := by rw [ei, List.sum_cons]
    rw [eS]
    refine v172_141 (by omega) (x :: l) 0 _ (ini (shN M x) (l.map (shN M)) A) _ t1 g1 g3 h9 (Dr_0 _) hx hS k3 ?_ k1 ?_ (fun t' f1 f2 f3 f4 f5 => q t' f1 (f2.trans (g2.trans cp_A)) f3 f5) 0 (Or.inr rfl)
    · rw [ei]
      refine Am_cons ?_ g5
      rw [g4 0 (by omega), am_w, if_pos rfl]
    · rw [ei]
      have e7 : cntN ((x :: l).map (shN M)) (min (shN M x) (min (shN M x + (l.map (shN M)).sum) A) :: l.map (fun y => (min (shN M x + (l.map (shN M)).sum) A - min (shN M x) (min (shN M x + (l.map (shN M)).sum) A)) * shN M y / (l.map (shN M)).sum)) = (if min (shN M x) (min (shN M x + (l.map (shN M)).sum) A) < shN M x then 1 else 0) + cntN (l.map (shN M)) (l.map (fun y => (min (shN M x + (l.map (shN M)).sum) A - min (shN M x) (min (shN M x + (l.map (shN M)).sum) A)) * shN M y / (l.map (shN M)).sum)) := rfl
      rw [List.map_map, ei] at k2
      have k2' : min (shN M x + (l.map (shN M)).sum) A ≤ (min (shN M x) (min (shN M x + (l.map (shN M)).sum) A) :: l.map (fun y => (min (shN M x + (l.map (shN M)).sum) A - min (shN M x) (min (shN M x + (l.map (shN M)).sum) A)) * shN M y / (l.map (shN M)).sum)).sum + cntN (l.map (shN M)) (l.map (fun y => (min (shN M x + (l.map (shN M)).sum) A - min (shN M x) (min (shN M x + (l.map (shN M)).sum) A)) * shN M y / (l.map (shN M)).sum)) := k2
      rw [e7]
      omega
end S61
