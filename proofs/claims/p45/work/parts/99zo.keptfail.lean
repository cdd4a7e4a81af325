/-! what holds between the calls: kept by fail -/
section S99zo
variable {t t' t0 : sT} {M M' M0 N Y Z R : sM} {n T A B b c m o k x K w e i j d H C D : Nat} {p a h u p0 p1 : Int32} {s z : Bool} {L L' l : List Nat} {V : List Nat} {r : Option Nat} {P : Nat → Bool}
theorem sumN_sh {f : Nat → Nat} : ∀ d, sumN f (d + 1) = f 0 + sumN (fun i => f (i + 1)) d
  | 0 => by show 0 + f 0 = f 0 + 0; omega
  | d + 1 => by
    have e1 : sumN f (d + 1 + 1) = sumN f (d + 1) + f (d + 1) := rfl
    have e2 : sumN (fun i => f (i + 1)) (d + 1) = sumN (fun i => f (i + 1)) d + f (d + 1) := rfl
    rw [e1, sumN_sh d, e2]
    omega
theorem sum_sumN : ∀ (V : List Nat), V.sum = sumN (fun i => V.getD i 0) V.length
  | [] => rfl
  | v :: V => by
    have e1 : (v :: V).length = V.length + 1 := rfl
    rw [e1, sumN_sh, List.sum_cons, sum_sumN V]
    rfl
theorem sumN_lx {f : Nat → Nat} : ∀ {j d : Nat}, sumN f j ≤ sumN f (j + d)
  | j, 0 => Nat.le_refl _
  | j, d + 1 => by
    have e1 : sumN f (j + (d + 1)) = sumN f (j + d) + f (j + d) := rfl
    have := sumN_lx (f := f) (j := j) (d := d)
    omega
theorem n6_le {f g : Nat → Int} (h : ∀ k, k < 6 → (g k).natAbs ≤ (f k).natAbs) : n6 g ≤ n6 f := by
  have h0 := h 0 (by decide)
  have h1 := h 1 (by decide)
  have h2 := h 2 (by decide)
  have h3 := h 3 (by decide)
  have h4 := h 4 (by decide)
  have h5 := h 5 (by decide)
  unfold n6
  omega
theorem pon_6t (h : 0 < mA Y 6 ((3 * m) + c)) : Mv6 Y (pon Y T c m k a) c k m a := by
  have e : pon Y T c m k a = mkF Y T c k m (mA Y 1 c) a false := by unfold pon mbF; rw [decide_eq_true h]; rfl
  rw [e]; exact mk_6
theorem pon_6f (h : ¬ 0 < mA Y 6 ((3 * m) + c)) : Mv6 Y (pon Y T c m k a) c m k a := by
  have e : pon Y T c m k a = mkF Y T c m k (mA Y 1 c) a false := by unfold pon mbF; rw [decide_eq_false h]; rfl
  rw [e]; exact mk_6
theorem px_pos : 0 < px M c k ↔ 0 < mA M 6 ((3 * k) + c) := by
  rw [Int32.lt_iff_toInt_lt]; exact Iff.rfl
theorem gF_px : (gF M c m k : Int) = if (0 < px M c k ∧ px M c m < 0) ∨ (px M c k < 0 ∧ 0 < px M c m) then ((px M c k).natAbs : Int) else 0 := gN_int
/-- torn up, a long position -/
theorem te_pos {v : Nat → Nat} (hc : c < 3) (hm : m < 6) (hb : ∀ k, k < 6 → -1000000 ≤ px M c k ∧ px M c k ≤ 1000000) (hX : 0 < px M c m) (hv : ∀ k, V.getD k 0 = v k) (hle : ∀ k, k < 6 → v k ≤ gF M c m k) (hS : (sumN v 6 : Int) = px M c m) :
    ∀ j, j ≤ 6 → (∀ k, k < 6 → px (teL M c m V j) c k = px M c k + (if k < j then (v k : Int) else 0) - (if k = m then (sumN v j : Int) else 0)) ∧ ∀ c' k, c' < 3 → ¬ c' = c → px (teL M c m V j) c' k = px M c' k
  | 0, _ => ⟨fun k _ => by
      rw [if_neg (Nat.not_lt_zero k)]
      have e : (sumN v 0 : Int) = 0 := rfl
      rw [e]
      show px M c k = _
      split <;> omega, fun _ _ _ _ => rfl⟩
  | j + 1, hj => by
    obtain ⟨i1, i2⟩ := te_pos hc hm hb hX hv hle hS j (by omega)
    have hj6 : j < 6 := by omega
    have e0 : teL M c m V (j + 1) = teS (teL M c m V j) c m j (V.getD j 0) := rfl
    have eS : sumN v (j + 1) = sumN v j + v j := rfl
    have hSle : sumN v (j + 1) ≤ sumN v 6 := by
      have := sumN_lx (f := v) (j := j + 1) (d := 5 - j)
      rw [show j + 1 + (5 - j) = 6 by omega] at this
      exact this
    have lim : ∀ k, k < 6 → (v k : Int) = 0 ∨ (px M c k < 0 ∧ (v k : Int) ≤ -(px M c k)) := fun k hk => by
      have h1 := hle k hk
      have h2 := gF_px (M := M) (c := c) (m := m) (k := k)
      split at h2
      · rename_i h3
        rcases h3 with h3 | h3 <;> omega
      · omega
    rw [e0, hv j]
    generalize teL M c m V j = Y at *
    unfold teS
    by_cases h0 : 0 < v j
    · rw [if_pos h0]
      have hjm : ¬ j = m := fun z => by
        have := lim j hj6
        rw [z] at this h0
        omega
      have hY := i1 m hm
      rw [if_pos rfl] at hY
      have hvm : (if m < j then (v m : Int) else 0) = 0 := by
        have := lim m hm
        split <;> omega
      rw [hvm] at hY
      have hpos : 0 < mA Y 6 ((3 * m) + c) := px_pos.mp (by omega)
      have hM := pon_6t (T := tN Y) (k := j) (a := io (v j)) hpos
      have hvj := lim j hj6
      have hbj := hb j hj6
      have hw : (io (v j)).toInt = (v j : Int) := io_int (by omega)
      refine ⟨fun k hk => ?_, fun c' k h1 h2 => (mv_o hM hc h1 h2).trans (i2 c' k h1 h2)⟩
      have hbk := hb k hk
      have hbm := hb m hm
      have hlk := lim k hk
      have hik := i1 k hk
      rw [mv_y hM hw (by omega) (by
        rw [hik]
        by_cases hkm : k = m
        · rw [if_pos hkm, hkm, hvm]; omega
        · rw [if_neg hkm]
          split <;> omega), hik]
      by_cases hkm : k = m
      · rw [if_pos hkm, if_pos hkm, if_pos hkm, if_neg (fun z : k = j => hjm (z.symm.trans hkm))]
        have : (if k < j + 1 then (v k : Int) else 0) = (if k < j then (v k : Int) else 0) := by
          rw [hkm, hvm]
          have := lim m hm
          split <;> omega
        rw [this, eS]
        omega
      · rw [if_neg hkm, if_neg hkm, if_neg hkm]
        by_cases hkj : k = j
        · rw [if_pos hkj, if_neg (by omega), if_pos (by omega), hkj]; omega
        · rw [if_neg hkj]
          have : (if k < j + 1 then (v k : Int) else 0) = (if k < j then (v k : Int) else 0) := by
            by_cases h5 : k < j
            · rw [if_pos h5, if_pos (by omega)]
            · rw [if_neg h5, if_neg (by omega)]
          rw [this]
          omega
    · rw [if_neg h0]
      have hv0 : v j = 0 := by omega
      refine ⟨fun k hk => ?_, i2⟩
      have eS0 : (sumN v (j + 1) : Int) = (sumN v j : Int) := by rw [eS, hv0]; rfl
      rw [i1 k hk, eS0]
      have : (if k < j + 1 then (v k : Int) else 0) = (if k < j then (v k : Int) else 0) := by
        by_cases h5 : k < j
        · rw [if_pos h5, if_pos (by omega)]
        · rw [if_neg h5]
          by_cases h6 : k = j
          · rw [h6, if_pos (by omega), hv0]; rfl
          · rw [if_neg (by omega)]
      rw [this]
theorem te_neg {v : Nat → Nat} (hc : c < 3) (hm : m < 6) (hb : ∀ k, k < 6 → -1000000 ≤ px M c k ∧ px M c k ≤ 1000000) (hX : px M c m < 0) (hv : ∀ k, V.getD k 0 = v k) (hle : ∀ k, k < 6 → v k ≤ gF M c m k) (hS : (sumN v 6 : Int) = -(px M c m)) :
    ∀ j, j ≤ 6 → (∀ k, k < 6 → px (teL M c m V j) c k = px M c k + (if k = m then (sumN v j : Int) else 0) - (if k < j then (v k : Int) else 0)) ∧ ∀ c' k, c' < 3 → ¬ c' = c → px (teL M c m V j) c' k = px M c' k
  | 0, _ => ⟨fun k _ => by
      rw [if_neg (Nat.not_lt_zero k)]
      have e : (sumN v 0 : Int) = 0 := rfl
      rw [e]
      show px M c k = _
      split <;> omega, fun _ _ _ _ => rfl⟩
  | j + 1, hj => by
    obtain ⟨i1, i2⟩ := te_neg hc hm hb hX hv hle hS j (by omega)
    have hj6 : j < 6 := by omega
    have e0 : teL M c m V (j + 1) = teS (teL M c m V j) c m j (V.getD j 0) := rfl
    have eS : sumN v (j + 1) = sumN v j + v j := rfl
    have hSle : sumN v (j + 1) ≤ sumN v 6 := by
      have := sumN_lx (f := v) (j := j + 1) (d := 5 - j)
      rw [show j + 1 + (5 - j) = 6 by omega] at this
      exact this
    have lim : ∀ k, k < 6 → (v k : Int) = 0 ∨ (0 < px M c k ∧ (v k : Int) ≤ px M c k) := fun k hk => by
      have h1 := hle k hk
      have h2 := gF_px (M := M) (c := c) (m := m) (k := k)
      split at h2
      · rename_i h3
        rcases h3 with h3 | h3 <;> omega
      · omega
    rw [e0, hv j]
    generalize teL M c m V j = Y at *
    unfold teS
    by_cases h0 : 0 < v j
    · rw [if_pos h0]
      have hjm : ¬ j = m := fun z => by
        have := lim j hj6
        rw [z] at this h0
        omega
      have hY := i1 m hm
      rw [if_pos rfl] at hY
      have hvm : (if m < j then (v m : Int) else 0) = 0 := by
        have := lim m hm
        split <;> omega
      rw [hvm] at hY
      have hpos : ¬ 0 < mA Y 6 ((3 * m) + c) := fun z => by
        have := px_pos.mpr z
        omega
      have hM := pon_6f (T := tN Y) (k := j) (a := io (v j)) hpos
      have hvj := lim j hj6
      have hbj := hb j hj6
      have hw : (io (v j)).toInt = (v j : Int) := io_int (by omega)
      refine ⟨fun k hk => ?_, fun c' k h1 h2 => (mv_o hM hc h1 h2).trans (i2 c' k h1 h2)⟩
      have hbk := hb k hk
      have hbm := hb m hm
      have hlk := lim k hk
      have hik := i1 k hk
      rw [mv_y hM hw (by omega) (by
        rw [hik]
        by_cases hkm : k = m
        · rw [if_pos hkm, hkm, hvm]; omega
        · rw [if_neg hkm]
          split <;> omega), hik]
      by_cases hkm : k = m
      · rw [if_pos hkm, if_pos hkm, if_pos hkm, if_neg (fun z : k = j => hjm (z.symm.trans hkm))]
        have : (if k < j + 1 then (v k : Int) else 0) = (if k < j then (v k : Int) else 0) := by
          rw [hkm, hvm]
          have := lim m hm
          split <;> omega
        rw [this, eS]
        omega
      · rw [if_neg hkm, if_neg hkm, if_neg hkm]
        by_cases hkj : k = j
        · rw [if_pos hkj, if_neg (by omega), if_pos (by omega), hkj]; omega
        · rw [if_neg hkj]
          have : (if k < j + 1 then (v k : Int) else 0) = (if k < j then (v k : Int) else 0) := by
            by_cases h5 : k < j
            · rw [if_pos h5, if_pos (by omega)]
            · rw [if_neg h5, if_neg (by omega)]
          rw [this]
          omega
    · rw [if_neg h0]
      have hv0 : v j = 0 := by omega
      refine ⟨fun k hk => ?_, i2⟩
      have eS0 : (sumN v (j + 1) : Int) = (sumN v j : Int) := by rw [eS, hv0]; rfl
      rw [i1 k hk, eS0]
      have : (if k < j + 1 then (v k : Int) else 0) = (if k < j then (v k : Int) else 0) := by
        by_cases h5 : k < j
        · rw [if_pos h5, if_pos (by omega)]
        · rw [if_neg h5]
          by_cases h6 : k = j
          · rw [h6, if_pos (by omega), hv0]; rfl
          · rw [if_neg (by omega)]
      rw [this]
theorem s6_N {v : Nat → Nat} : s6 (fun k => (v k : Int)) = (sumN v 6 : Int) ∧ n6 (fun k => (v k : Int)) = sumN v 6 := by
  have e : sumN v 6 = (((((0 + v 0) + v 1) + v 2) + v 3) + v 4) + v 5 := rfl
  have e1 : s6 (fun k => (v k : Int)) = ((((((v 0 : Int) + (v 1 : Int)) + (v 2 : Int)) + (v 3 : Int)) + (v 4 : Int)) + (v 5 : Int)) := rfl
  have e2 : n6 (fun k => (v k : Int)) = ((v 0 : Int)).natAbs + ((v 1 : Int)).natAbs + ((v 2 : Int)).natAbs + ((v 3 : Int)).natAbs + ((v 4 : Int)).natAbs + ((v 5 : Int)).natAbs := rfl
  rw [e, e1, e2]
  constructor <;> omega
theorem Po_te (h : Po M K) (hK : K ≤ 1000000) (hc : c < 3) (hm : m < 6) : Po (teF M c m) K := by
  have hb : ∀ k, k < 6 → -1000000 ≤ px M c k ∧ px M c k ≤ 1000000 := fun k hk => Po_b h hK hc hk
  unfold teF
  by_cases hR : gR M c m = 0
  · rw [if_pos hR]; exact h
  · rw [if_neg hR]
    have hall := g_all (Po_Zs h) hc hm
    have hsum := pt_sum hall
    have hlen : (ptN (gF M c m) (gR M c m)).length = 6 := pt_len
    have hle : ∀ k, k < 6 → (ptN (gF M c m) (gR M c m)).getD k 0 ≤ gF M c m k := fun k hk => pt_get hall hk
    rw [sum_sumN, hlen] at hsum
    have hRx : (gR M c m : Int) = ((px M c m).natAbs : Int) := rfl
    generalize ptN (gF M c m) (gR M c m) = V at *
    have hX : 0 < px M c m ∨ px M c m < 0 := by omega
    obtain ⟨w1, w2⟩ := s6_N (v := fun i => V.getD i 0)
    have q1 := s6_if (m := m) (W := (gR M c m : Int)) hm
    have q2 := n6_if (m := m) (W := (gR M c m : Int)) hm
    rw [hsum] at w1 w2
    have q3 : ((gR M c m : Nat) : Int).natAbs = gR M c m := Int.natAbs_natCast _
    rw [q3] at q2
    intro c' hc'
    have h3 := h c' hc'
    rcases hX with hX | hX
    · obtain ⟨t1, t2⟩ := te_pos (V := V) (v := fun i => V.getD i 0) hc hm hb hX (fun _ => rfl) hle (by rw [hsum, hRx]; omega) 6 (Nat.le_refl 6)
      by_cases e : c' = c
      · rw [e] at h3 ⊢
        have t3 : ∀ k, k < 6 → px (teL M c m V 6) c k = px M c k + (fun k => ((V.getD k 0 : Nat) : Int)) k - (fun k => if k = m then (gR M c m : Int) else 0) k := fun k hk => by
          rw [t1 k hk, if_pos hk, hsum]
        obtain ⟨z1, _⟩ := s6_mv0 t3 w1 q1 w2 q2
        refine ⟨z1.trans h3.1, Nat.le_trans (n6_le (fun k hk => ?_)) h3.2⟩
        have h1 := hle k hk
        have h2 := gF_px (M := M) (c := c) (m := m) (k := k)
        rw [t1 k hk, if_pos hk, hsum]
        by_cases hkm : k = m
        · rw [if_pos hkm]
          rw [if_neg (by rw [hkm]; omega)] at h2
          rw [hkm] at h1 h2 ⊢
          omega
        · rw [if_neg hkm]
          split at h2
          · rename_i h4
            rcases h4 with h4 | h4 <;> omega
          · omega
      · rw [s6_cg (fun k _ => t2 c' k hc' e), n6_cg (fun k _ => t2 c' k hc' e)]
        exact h3
    · obtain ⟨t1, t2⟩ := te_neg (V := V) (v := fun i => V.getD i 0) hc hm hb hX (fun _ => rfl) hle (by rw [hsum, hRx]; omega) 6 (Nat.le_refl 6)
      by_cases e : c' = c
      · rw [e] at h3 ⊢
        have t3 : ∀ k, k < 6 → px (teL M c m V 6) c k = px M c k + (fun k => if k = m then (gR M c m : Int) else 0) k - (fun k => ((V.getD k 0 : Nat) : Int)) k := fun k hk => by
          rw [t1 k hk, if_pos hk, hsum]
        obtain ⟨z1, _⟩ := s6_mv0 t3 q1 w1 q2 w2
        refine ⟨z1.trans h3.1, Nat.le_trans (n6_le (fun k hk => ?_)) h3.2⟩
        have h1 := hle k hk
        have h2 := gF_px (M := M) (c := c) (m := m) (k := k)
        rw [t1 k hk, if_pos hk, hsum]
        by_cases hkm : k = m
        · rw [if_pos hkm]
          rw [if_neg (by rw [hkm]; omega)] at h2
          rw [hkm] at h1 h2 ⊢
          omega
        · rw [if_neg hkm]
          split at h2
          · rename_i h4
            rcases h4 with h4 | h4 <;> omega
          · omega
      · rw [s6_cg (fun k _ => t2 c' k hc' e), n6_cg (fun k _ => t2 c' k hc' e)]
        exact h3
theorem Po_teA (h : Po M K) (hK : K ≤ 1000000) (hm : m < 6) : ∀ c, c ≤ 3 → Po (teA M m c) K
  | 0, _ => h
  | c + 1, hc => Po_te (Po_teA h hK hm c (by omega)) hK (by omega) hm
/-- taken over -/
theorem Po_to (h : Po M K) (hK : K ≤ 1000000) (hc : c < 3) (hm : m < 6) (hk : k < 6) (hkm : ¬ k = m) : Po (toS M m k c) K := by
  have hb : ∀ j, j < 6 → -1000000 ≤ px M c j ∧ px M c j ≤ 1000000 := fun j hj => Po_b h hK hc hj
  have hbm := hb m hm
  have ea : ab (mA M 6 ((3 * m) + c)) = io (px M c m).natAbs := ab_io hbm.1 hbm.2
  unfold toS
  rw [ea]
  by_cases h0 : 0 < io (px M c m).natAbs
  · rw [if_pos h0]
    have h0' := (io_pos (by omega)).mp h0
    have hw : (io (px M c m).natAbs).toInt = ((px M c m).natAbs : Int) := io_int (by omega)
    have key : ∃ X : Int, X = px M c m ∧ (∀ j, j < 6 → px (pon M (tN M) c m k (io (px M c m).natAbs)) c j = px M c j + (if j = k then X else 0) - (if j = m then X else 0)) ∧ ∀ c' j, c' < 3 → ¬ c' = c → px (pon M (tN M) c m k (io (px M c m).natAbs)) c' j = px M c' j := by
      refine ⟨px M c m, rfl, ?_⟩
      by_cases hp : 0 < mA M 6 ((3 * m) + c)
      · have hM := pon_6t (T := tN M) (k := k) (a := io (px M c m).natAbs) hp
        have hp2 := px_pos.mpr hp
        refine ⟨fun j hj => ?_, fun c' j h1 h2 => mv_o hM hc h1 h2⟩
        rw [mv_y hM hw (by omega) (hb j hj)]
        split <;> split <;> omega
      · have hM := pon_6f (T := tN M) (k := k) (a := io (px M c m).natAbs) hp
        have hp2 : ¬ 0 < px M c m := fun z => hp (px_pos.mp z)
        refine ⟨fun j hj => ?_, fun c' j h1 h2 => mv_o hM hc h1 h2⟩
        rw [mv_y hM hw (by omega) (hb j hj)]
        split <;> split <;> omega
    obtain ⟨X, eX, t1, t2⟩ := key
    generalize pon M (tN M) c m k (io (px M c m).natAbs) = N at *
    intro c' hc'
    have h3 := h c' hc'
    by_cases e : c' = c
    · rw [e] at h3 ⊢
      obtain ⟨z1, _⟩ := s6_mv (f := px M c) (g := px N c) hk hm t1
      refine ⟨z1.trans h3.1, Nat.le_trans ?_ h3.2⟩
      have e1 : ∀ j, j < 6 → (px N c j).natAbs + (if j = m then X.natAbs else 0) ≤ (px M c j).natAbs + (if j = k then X.natAbs else 0) := fun j hj => by
        rw [t1 j hj]
        by_cases c1 : j = k
        · rw [if_pos c1, if_pos c1, if_neg (fun z => hkm (c1.symm.trans z)), if_neg (fun z => hkm (c1.symm.trans z))]
          omega
        · rw [if_neg c1, if_neg c1]
          by_cases c2 : j = m
          · rw [if_pos c2, if_pos c2, c2, eX]
            omega
          · rw [if_neg c2, if_neg c2]
            omega
      have s1 : (if 0 = m then X.natAbs else 0) + (if 1 = m then X.natAbs else 0) + (if 2 = m then X.natAbs else 0) + (if 3 = m then X.natAbs else 0) + (if 4 = m then X.natAbs else 0) + (if 5 = m then X.natAbs else 0) = X.natAbs := by
        match m, hm with
        | 0, _ => simp
        | 1, _ => simp
        | 2, _ => simp
        | 3, _ => simp
        | 4, _ => simp
        | 5, _ => simp
      have s2 : (if 0 = k then X.natAbs else 0) + (if 1 = k then X.natAbs else 0) + (if 2 = k then X.natAbs else 0) + (if 3 = k then X.natAbs else 0) + (if 4 = k then X.natAbs else 0) + (if 5 = k then X.natAbs else 0) = X.natAbs := by
        match k, hk with
        | 0, _ => simp
        | 1, _ => simp
        | 2, _ => simp
        | 3, _ => simp
        | 4, _ => simp
        | 5, _ => simp
      have f0 := e1 0 (by decide)
      have f1 := e1 1 (by decide)
      have f2 := e1 2 (by decide)
      have f3 := e1 3 (by decide)
      have f4 := e1 4 (by decide)
      have f5 := e1 5 (by decide)
      unfold n6
      clear e1 t1 t2 z1
      generalize (if 0 = m then X.natAbs else 0) = m0 at *
      generalize (if 1 = m then X.natAbs else 0) = m1 at *
      generalize (if 2 = m then X.natAbs else 0) = m2 at *
      generalize (if 3 = m then X.natAbs else 0) = m3 at *
      generalize (if 4 = m then X.natAbs else 0) = m4 at *
      generalize (if 5 = m then X.natAbs else 0) = m5 at *
      generalize (if 0 = k then X.natAbs else 0) = k0 at *
      generalize (if 1 = k then X.natAbs else 0) = k1 at *
      generalize (if 2 = k then X.natAbs else 0) = k2 at *
      generalize (if 3 = k then X.natAbs else 0) = k3 at *
      generalize (if 4 = k then X.natAbs else 0) = k4 at *
      generalize (if 5 = k then X.natAbs else 0) = k5 at *
      generalize (px N c 0).natAbs = n0 at *
      generalize (px N c 1).natAbs = n1 at *
      generalize (px N c 2).natAbs = n2 at *
      generalize (px N c 3).natAbs = n3 at *
      generalize (px N c 4).natAbs = n4 at *
      generalize (px N c 5).natAbs = n5 at *
      generalize (px M c 0).natAbs = r0 at *
      generalize (px M c 1).natAbs = r1 at *
      generalize (px M c 2).natAbs = r2 at *
      generalize (px M c 3).natAbs = r3 at *
      generalize (px M c 4).natAbs = r4 at *
      generalize (px M c 5).natAbs = r5 at *
      omega
    · rw [s6_cg (fun j _ => t2 c' j hc' e), n6_cg (fun j _ => t2 c' j hc' e)]
      exact h3
  · rw [if_neg h0]; exact h
theorem Po_toL (h : Po M K) (hK : K ≤ 1000000) (hm : m < 6) (hk : k < 6) (hkm : ¬ k = m) : ∀ c, c ≤ 3 → Po (toL M m k c) K
  | 0, _ => h
  | c + 1, hc => Po_to (Po_toL h hK hm hk hkm c (by omega)) hK (by omega) hm hk hkm
/-! the trades made -/
theorem Tq_pon (h : Tq M (some m)) (hI : mI M 801 = io T) (hT : T + 1 < 4096) (hm : m < 6) (hk : k < 6) : Tq (pon M T c m k a) (some m) := by
  unfold pon mbF
  cases !decide (0 < mA M 6 (3 * m + c))
  · exact Tq_mk h hI hT hk hm (Or.inr (Or.inr rfl))
  · exact Tq_mk h hI hT hm hk (Or.inr (Or.inl rfl))
theorem te_T (hm : m < 6) : ∀ (j : Nat) (M : sM) (T : Nat), mI M 801 = io T → T + j + 1 < 4096 → Tq M (some m) → j ≤ 6 → ∃ T', mI (teL M c m V j) 801 = io T' ∧ T ≤ T' ∧ T' ≤ T + j ∧ Tq (teL M c m V j) (some m)
  | 0, M, T, hI, hT, h, _ => ⟨T, hI, Nat.le_refl _, Nat.le_refl _, h⟩
  | j + 1, M, T, hI, hT, h, hj => by
    obtain ⟨T', i1, i2, i3, i4⟩ := te_T hm j M T hI (by omega) h (by omega)
    have e : teL M c m V (j + 1) = teS (teL M c m V j) c m j (V.getD j 0) := rfl
    rw [e]
    generalize teL M c m V j = Y at *
    unfold teS
    split
    · rw [tN_T i1 (by omega)]
      exact ⟨T' + 1, pon_T, by omega, by omega, Tq_pon i4 i1 (by omega) hm (by omega)⟩
    · exact ⟨T', i1, i2, by omega, i4⟩
theorem te_T6 (hm : m < 6) (hI : mI M 801 = io T) (hT : T + 7 < 4096) (h : Tq M (some m)) : ∃ T', mI (teF M c m) 801 = io T' ∧ T ≤ T' ∧ T' ≤ T + 6 ∧ Tq (teF M c m) (some m) := by
  unfold teF
  split
  · exact ⟨T, hI, Nat.le_refl _, by omega, h⟩
  · exact te_T hm 6 M T hI hT h (Nat.le_refl 6)
theorem teA_T (hm : m < 6) : ∀ (c : Nat) (M : sM) (T : Nat), mI M 801 = io T → T + 6 * c + 7 < 4096 → Tq M (some m) → ∃ T', mI (teA M m c) 801 = io T' ∧ T ≤ T' ∧ T' ≤ T + 6 * c ∧ Tq (teA M m c) (some m)
  | 0, M, T, hI, hT, h => ⟨T, hI, Nat.le_refl _, by omega, h⟩
  | c + 1, M, T, hI, hT, h => by
    obtain ⟨T', i1, i2, i3, i4⟩ := teA_T hm c M T hI (by omega) h
    obtain ⟨T2, j1, j2, j3, j4⟩ := te_T6 (c := c) hm i1 (by omega) i4
    exact ⟨T2, j1, by omega, by omega, j4⟩
theorem toL_T (hm : m < 6) (hk : k < 6) : ∀ (c : Nat) (M : sM) (T : Nat), mI M 801 = io T → T + c + 1 < 4096 → Tq M (some m) → ∃ T', mI (toL M m k c) 801 = io T' ∧ T ≤ T' ∧ T' ≤ T + c ∧ Tq (toL M m k c) (some m)
  | 0, M, T, hI, hT, h => ⟨T, hI, Nat.le_refl _, Nat.le_refl _, h⟩
  | c + 1, M, T, hI, hT, h => by
    obtain ⟨T', i1, i2, i3, i4⟩ := toL_T hm hk c M T hI (by omega) h
    have e : toL M m k (c + 1) = toS (toL M m k c) m k c := rfl
    rw [e]
    generalize toL M m k c = Y at *
    unfold toS
    split
    · rw [tN_T i1 (by omega)]
      exact ⟨T' + 1, pon_T, by omega, by omega, Tq_pon i4 i1 (by omega) hm hk⟩
    · exact ⟨T', i1, i2, by omega, i4⟩
/-! the orders withdrawn -/
theorem Kv_wa (hK : Kv M n) : ∀ k, k ≤ n → Kv (wa_L M n m k) n
  | 0, _ => hK
  | k + 1, hk => by
    have h := Kv_wa hK k (by omega)
    show Kv (wa_S (wa_L M n m k) n m k) n
    generalize wa_L M n m k = Y at h
    exact Kv_c (Kv_c (Kv_cn h (by omega)) h) h
theorem Dd_waS : Dd (wa_S M n m k) M n := by
  unfold wa_S
  cases decide (oM M k = m) with
  | false => exact Dd.refl M
  | true =>
    cases h : (decide (mA M 19 k = 0) || decide (mA M 19 k = 1)) with
    | false => exact Dd.refl M
    | true =>
      rw [Bool.or_eq_true, decide_eq_true_eq, decide_eq_true_eq] at h
      exact Dd_cn (by rcases h with h | h; exact Or.inl h; exact Or.inr (Or.inl h))
theorem Dd_wa : ∀ k, Dd (wa_L M n m k) M n
  | 0 => Dd.refl M
  | k + 1 => Dd.trans (Dd_waS (M := wa_L M n m k) (k := k)) (Dd_wa k)
theorem wa_I : ∀ k, mI (wa_L M n m k) = mI M
  | 0 => rfl
  | k + 1 => by
    have h := wa_I k
    show mI (wa_S (wa_L M n m k) n m k) = mI M
    generalize wa_L M n m k = Y at h
    unfold wa_S
    cases decide (oM Y k = m)
    · exact h
    · cases (decide (mA Y 19 k = 0) || decide (mA Y 19 k = 1))
      · exact h
      · exact h
theorem Hv_wa (hv : Hv M n e) (he : e ≤ 600) : Hv (waF_ M n m) n e := by
  have e1 : waF_ M n m = wa_L M n m n := rfl
  have ht : tN (wa_L M n m n) = tN M := by unfold tN; rw [wa_I]
  rw [e1]
  exact Hv_go hv.2.1 he (Kv_wa hv.1 n (Nat.le_refl n)) (Dd_wa n) (Gk_wa (Gk.refl M) n) (no4_D (Dd_wa n) hv.2.2.1) hv.2.2.2 (by omega)
/-- what fail needs -/
theorem Hv_Fo (hv : Hv M n e) (he : e ≤ 600) (hm : m < 6) : Fo (waF_ (m0 M) n m) n m := by
  have H1 : Hv (waF_ (m0 M) n m) n e := Hv_wa (Hv_m0 hv) he
  have hT := (Hv_T H1).1
  generalize waF_ (m0 M) n m = Y at *
  refine ⟨fun c hc => ?_, H1.2.1.2.1, H1.2.1.2.2.1⟩
  have hK : 200 * (tN Y + e) ≤ 1000000 := by omega
  have hPo := Po_teA H1.2.1.2.2.2.2.1 hK hm c (by omega)
  refine ⟨Po_Pv hPo hK (fun q hq => ?_), Po_Zs hPo⟩
  rw [teA_A rfl]; exact H1.2.1.2.2.2.1 q hq
/-! the end -/
theorem cl_A {q : Nat} (h4 : ¬ q = 4) (h5 : ¬ q = 5) (h7 : ¬ q = 7) : mA (clF M n m) q = mA M q := funext fun k => by
  show (if q = 7 ∧ k < 6 then mA (clM M n m) 7 k - io ((ptN (qN M m) (cN M n m)).getD k 0) else mA (clM M n m) q k) = mA M q k
  rw [if_neg (fun z => h7 z.1)]
  show (if q = 7 ∧ k = m then 0 else if q = 4 ∧ k = m then 0 else if q = 5 ∧ k = m then 0 else mA M q k) = mA M q k
  rw [if_neg (fun z => h7 z.1), if_neg (fun z => h4 z.1), if_neg (fun z => h5 z.1)]
theorem cl_B {q : Nat} : mB (clF M n m) q k = if q = 2 ∧ k = m then true else mB M q k := rfl
theorem cl_I {F : Nat} (h4 : ¬ F = 784) (h5 : ¬ F = 785) : mI (clF M n m) F = mI M F := by
  show (if F = 785 then _ else if F = 784 then _ else mI M F) = mI M F
  rw [if_neg h5, if_neg h4]
theorem cl_784 : mI (clF M n m) 784 = io ((mI M 784).toNatClampNeg - hsN M n m) := rfl
theorem cl_7 (hS : Hs M) (hm : m < 6) : Hs (clF M n m) := fun k hk => by
  have e1 : mA (clF M n m) 7 k = mA (clM M n m) 7 k - io ((ptN (qN M m) (cN M n m)).getD k 0) := by
    unfold clF coF
    rw [mA_I]
    exact sh_7 hk
  have hle := pt_get (f := qN M m) (R := cN M n m) (Nat.min_le_right _ _) hk
  have h1 := hS k hk
  have e0 : (0 : Int32).toInt = 0 := rfl
  rw [e1]
  by_cases e : k = m
  · have h2 : mA (clM M n m) 7 k = 0 := if_pos ⟨rfl, e⟩
    rw [e, qN_m] at hle
    rw [h2, e, Nat.le_zero.mp hle]
    exact ⟨by decide, by decide⟩
  · have h2 : mA (clM M n m) 7 k = mA M 7 k := if_neg (fun z => e z.2)
    rw [qN_o e] at hle
    have h3 : oN M k ≤ (mA M 7 k).toNatClampNeg := by
      unfold oN
      split
      · exact Nat.zero_le _
      · exact Nat.le_refl _
    have h4 : (mA M 7 k).toNatClampNeg = (mA M 7 k).toInt.toNat := rfl
    rw [h2, i_sub (by rw [io_int (by omega)]; omega) (by rw [io_int (by omega)]; omega), io_int (by omega)]
    omega
theorem Hv_end (hv : Hv Y n e) (hm : m < 6) (ho : mB Y 2 m = false) (hA : ∀ q, g1A q = false → mA Z q = mA Y q) (hB : ∀ q, ¬ q = 1 → ¬ q = 7 → mB Z q = mB Y q) (hI : ∀ F, ¬ F = 801 → mI Z F = mI Y F) (hT : mI Z 801 = io T) (hT1 : tN Y ≤ T) (hT2 : T ≤ tN Y + 18) (hP : Po Z (200 * (tN Y + e))) (hq : Tq Z (some m)) : Hv (clF Z n m) n e := by
  have hTb := (Hv_T hv).1
  obtain ⟨hK, ⟨g1, g2, g3, g4, g5⟩, hn4, hb⟩ := hv
  have eA : ∀ q, g1A q = false → ¬ q = 4 → ¬ q = 7 → mA (clF Z n m) q = mA Y q := fun q h1 h2 h3 => by
    rw [cl_A h2 (fun z => by rw [z] at h1; cases h1) h3, hA q h1]
  have e801 : mI (clF Z n m) 801 = io T := (cl_I (by decide) (by decide)).trans hT
  have eT : tN (clF Z n m) = T := tN_T e801 (by omega)
  have eB4 : mB (clF Z n m) 4 = mB Y 4 := funext fun k => by
    rw [cl_B, if_neg (fun z => absurd z.1 (by decide)), hB 4 (by decide) (by decide)]
  have eB2 : ∀ k, mB (clF Z n m) 2 k = if k = m then true else mB Y 2 k := fun k => by
    rw [cl_B, hB 2 (by decide) (by decide)]
    by_cases h : k = m
    · rw [if_pos ⟨rfl, h⟩, if_pos h]
    · rw [if_neg (fun z => h z.2), if_neg h]
  have hSZ : Hs Z := Hs_eq (hA 7 rfl) g2
  refine ⟨Kv_cgT hK (fun q h1 h2 => eA q ?_ (by omega) (by omega)) (fun c hc => by rw [eA 3 rfl (by decide) (by decide)]; exact hK.1.1.2.2.2.1 c hc) eB4 (fun F hF => ?_) e801 (by omega), ⟨Qa_go g1 (Dd_eq (eA 19 rfl (by decide) (by decide))) (eA 10 rfl (by decide) (by decide)) (eA 12 rfl (by decide) (by decide)) (eA 13 rfl (by decide) (by decide)) eB4, cl_7 hSZ hm, ?_, fun q hq => by rw [eA 11 rfl (by decide) (by decide)]; exact g4 q hq, ?_, ?_⟩, fun k hk => by rw [eA 19 rfl (by decide) (by decide)]; exact hn4 k hk, ?_⟩
  · exact (by decide : ∀ q, q < 20 → 12 ≤ q → g1A q = false) q (by omega) h1
  · rcases hF with hF | hF <;> rw [hF] <;> exact (cl_I (by decide) (by decide)).trans (hI _ (by decide))
  · rw [cl_784, io_int (Nat.lt_of_le_of_lt (Nat.sub_le _ _) nn_lt)]
    omega
  · rw [eT]
    refine Po_6 (Po_le hP ?_) (cl_A (by decide) (by decide) (by decide))
    exact Nat.mul_le_mul_left 200 (Nat.add_le_add_right hT1 e)
  · intro x hx
    rw [eT] at hx
    have h1 := hq x (by rw [tN_T hT (by omega)]; exact hx)
    unfold okT tB tS at *
    rw [cl_A (q := 22) (by decide) (by decide) (by decide), cl_A (q := 23) (by decide) (by decide) (by decide), cl_A (q := 25) (by decide) (by decide) (by decide)]
    have hZ2 : mB Z 2 = mB Y 2 := hB 2 (by decide) (by decide)
    rw [hZ2] at h1
    rcases h1 with g | g | g | g | g
    · exact Or.inl g
    · refine Or.inr (Or.inl ?_)
      rw [eB2]; split; rfl; exact g
    · refine Or.inr (Or.inr (Or.inl ?_))
      rw [eB2]; split; rfl; exact g
    · refine Or.inr (Or.inl ?_)
      rw [eB2, if_pos (Option.some.inj g)]
    · refine Or.inr (Or.inr (Or.inl ?_))
      rw [eB2, if_pos (Option.some.inj g)]
  · have e2 : dnN (clF Z n m) n = dnN Y n := by unfold dnN; rw [eA 19 rfl (by decide) (by decide)]
    have e3 : ouN Y < ouN (clF Z n m) := by
      refine sumN_lt (x := m) (fun k hk => ?_) hm ?_
      · show (if mB Y 2 k = true then 1 else 0) ≤ (if mB (clF Z n m) 2 k = true then 1 else 0)
        rw [eB2]
        by_cases h : k = m
        · rw [if_pos h, if_pos rfl]; split <;> omega
        · rw [if_neg h]; exact Nat.le_refl _
      · show (if mB Y 2 m = true then 1 else 0) < (if mB (clF Z n m) 2 m = true then 1 else 0)
        rw [eB2, if_pos rfl, if_pos rfl, ho, if_neg Bool.false_ne_true]
        exact Nat.zero_lt_one
    rw [eT, e2]
    omega
theorem tkrL_ne : ∀ k j, tkrL M n m k = some j → ¬ j = m
  | 0, j, h => by cases h
  | k + 1, j, h => by
    have e : tkrL M n m (k + 1) = (bif tbC M n m k && (match tkrL M n m k with | none => true | some j => decide (mA M 9 k < mA M 9 j)) then some k else tkrL M n m k) := rfl
    rw [e] at h
    cases hz : (tbC M n m k && (match tkrL M n m k with | none => true | some j => decide (mA M 9 k < mA M 9 j))) with
    | true =>
      rw [hz] at h
      have e1 : k = j := Option.some.inj h
      rw [Bool.and_eq_true] at hz
      intro hj
      rw [tc_2 (e1.trans hj)] at hz
      cases hz.1
    | false =>
      rw [hz] at h
      exact tkrL_ne k j h
theorem payF_A {q : Nat} (h5 : ¬ q = 5) : mA (payF M m k) q = mA M q := by
  unfold payF
  rw [aw_f h5, aw_f h5]
theorem payF_B : mB (payF M m k) = mB M := rfl
theorem payF_Is : mI (payF M m k) = mI M := rfl
theorem cnb_Bq {q : Nat} (h1 : ¬ q = 1) : mB (cnbF Z) q = mB Z q := funext fun k => by
  unfold cnbF
  rw [bw_q h1, bw_q h1, bw_q h1, bw_q h1, bw_q h1, bw_q h1]
/-- closed, by whomever -/
theorem Hv_clo (H1 : Hv Y n e) (hm : m < 6) (hB2 : mB Y 2 m = false) (zA : ∀ q, g1A q = false → mA Z q = mA Y q) (zB : ∀ q, ¬ q = 7 → mB Z q = mB Y q) (zI : ∀ F, ¬ F = 801 → mI Z F = mI Y F) (t1 : mI Z 801 = io T) (t2 : tN Y ≤ T) (t3 : T ≤ tN Y + 18) (hP : Po Z (200 * (tN Y + e))) (t4 : Tq Z (some m)) : Hv (clF (cnbF Z) n m) n e :=
  Hv_end (Z := cnbF Z) (T := T) H1 hm hB2 (fun q h => (congrFun cnb_A q).trans (zA q h)) (fun q h1 h7 => (cnb_Bq h1).trans (zB q h7)) (fun F h => (congrFun cnb_I F).trans (zI F h)) ((congrFun cnb_I 801).trans t1) t2 t3 (Po_6 hP (congrFun cnb_A 6)) (Tq_cg t4 (congrFun cnb_A 22) (congrFun cnb_A 23) (congrFun cnb_A 25) (fun k g => by rw [cnb_Bq (by decide)]; exact g) (congrFun cnb_I 801))
theorem Hv_clp (H1 : Hv Y n e) (hm : m < 6) (hB2 : mB Y 2 m = false) (zA : ∀ q, g1A q = false → mA Z q = mA Y q) (zB : ∀ q, ¬ q = 7 → mB Z q = mB Y q) (zI : ∀ F, ¬ F = 801 → mI Z F = mI Y F) (t1 : mI Z 801 = io T) (t2 : tN Y ≤ T) (t3 : T ≤ tN Y + 18) (hP : Po Z (200 * (tN Y + e))) (t4 : Tq Z (some m)) : Hv (clF (cnbF (payF Z m k)) n m) n e :=
  Hv_clo H1 hm hB2 (fun q h => (payF_A (fun z => by rw [z] at h; cases h)).trans (zA q h)) (fun q h => (congrFun payF_B q).trans (zB q h)) (fun F h => (congrFun payF_Is F).trans (zI F h)) ((congrFun payF_Is 801).trans t1) t2 t3 (Po_6 hP (payF_A (by decide))) (Tq_cg t4 (payF_A (by decide)) (payF_A (by decide)) (payF_A (by decide)) (fun k' g => by rw [congrFun payF_B 2]; exact g) (congrFun payF_Is 801))
theorem Tq_sm (h : Tq Y none) : Tq Y (some m) := fun x hx => by
  rcases h x hx with g | g | g | g | g
  · exact Or.inl g
  · exact Or.inr (Or.inl g)
  · exact Or.inr (Or.inr (Or.inl g))
  · cases g
  · cases g
theorem ffF_n : ffF M n m none = clF (cnbF (teA M m 3)) n m := rfl
theorem ffF_s : ffF M n m (some k) = clF (cnbF (payF (toL M m k 3) m k)) n m := rfl
theorem Hv_ff (H1 : Hv Y n e) (he : e ≤ 600) (hm : m < 6) (hB2 : mB Y 2 m = false) : Hv (ffF Y n m (tkrL Y n m 6)) n e := by
  have hT := Hv_T H1
  have hPo := H1.2.1.2.2.2.2.1
  have hK : 200 * (tN Y + e) ≤ 1000000 := by omega
  have hTq : Tq Y (some m) := Tq_sm H1.2.1.2.2.2.2.2
  cases hr : tkrL Y n m 6 with
  | none =>
    obtain ⟨T', t1, t2, t3, t4⟩ := teA_T hm 3 Y (tN Y) hT.2.2 (by omega) hTq
    have hP := Po_teA hPo hK hm 3 (Nat.le_refl 3)
    have zA : ∀ q, g1A q = false → mA (teA Y m 3) q = mA Y q := fun q h => teA_A h 3
    have zB : ∀ q, ¬ q = 7 → mB (teA Y m 3) q = mB Y q := fun q h => teA_B (nb_f h) 3
    have zI : ∀ F, ¬ F = 801 → mI (teA Y m 3) F = mI Y F := fun F h => teA_I (nb_f h) 3
    rw [ffF_n]
    generalize teA Y m 3 = Z at *
    exact Hv_clo H1 hm hB2 zA zB zI t1 t2 (by omega) hP t4
  | some k =>
    have hk : k < 6 := tkrL_lt 6 k hr
    have hkm : ¬ k = m := tkrL_ne 6 k hr
    obtain ⟨T', t1, t2, t3, t4⟩ := toL_T hm hk 3 Y (tN Y) hT.2.2 (by omega) hTq
    have hP := Po_toL hPo hK hm hk hkm 3 (Nat.le_refl 3)
    have zA : ∀ q, g1A q = false → mA (toL Y m k 3) q = mA Y q := fun q h => toL_A h 3
    have zB : ∀ q, ¬ q = 7 → mB (toL Y m k 3) q = mB Y q := fun q h => toL_B (nb_f h) 3
    have zI : ∀ F, ¬ F = 801 → mI (toL Y m k 3) F = mI Y F := fun F h => toL_I (nb_f h) 3
    rw [ffF_s]
    generalize toL Y m k 3 = Z at *
    exact Hv_clp H1 hm hB2 zA zB zI t1 t2 (by omega) hP t4
theorem wa_out (h0 : ¬ mB M 2 m = true) : mB (waF_ (m0 M) n m) 2 m = false := by
  have e1 : mB (waF_ (m0 M) n m) 2 = mB (m0 M) 2 := (Gk_wa (n := n) (m := m) (Gk.refl (m0 M)) n).1.2.1 2 (by decide) (by decide)
  rw [e1]
  have e2 : mB (m0 M) 2 m = mB M 2 m := rfl
  rw [e2]
  cases h : mB M 2 m with
  | false => rfl
  | true => exact absurd h h0
theorem H101 (hv : Hv M n e) (he : e ≤ 600) : Hr (sp101 M n p0) e := by
  unfold sp101
  split
  · exact Hv_768 hv
  · rename_i m e0
    obtain ⟨hm, rfl⟩ := ixo_s e0
    split
    · exact Hv_768 hv
    · rename_i h0
      split
      · have H1 : Hv (waF_ (m0 M) n m) n e := Hv_wa (Hv_m0 hv) he
        have hB2 : mB (waF_ (m0 M) n m) 2 m = false := wa_out h0
        generalize waF_ (m0 M) n m = Y at *
        exact Hr_ok (Hv_ff H1 he hm hB2)
      · exact Hv_768 hv
end S99zo
