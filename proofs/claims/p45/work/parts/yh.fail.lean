/-! what holds at each time of the law: kept by fail -/
section Syh
variable {M M' M0 N Y Z R : sM} {n T b c m o k x e f K i j d D : Nat} {p a u v h : Int32} {s z w : Bool} {pA pA' : Nat → Int32} {r : Rs4} {V : List Nat}
/-- trades, while m is put in default -/
def vTm (M : sM) (m : Nat) : Prop := ∀ x, x < tN M → 0 < mA M 25 x ∧ (vTp M x ∨ tB M x = m ∨ tS M x = m)
def Wf (Z Y : sM) (m d : Nat) : Prop := vMk Z ∧ vPT Z ∧ s6 (cx Z) = s6 (cx Y) ∧ n6 (cx Z) ≤ n6 (cx Y) + d ∧ vOU Z ∧ vTm Z m
theorem Wf_le {d' : Nat} (h : Wf Z Y m d) (hd : d ≤ d') : Wf Z Y m d' := ⟨h.1, h.2.1, h.2.2.1, by have := h.2.2.2.1; omega, h.2.2.2.2⟩
theorem Wf_mk (h : Wf Z Y m d) (hI : mI Z 801 = io T) (hT : T + 1 < 4096) (hc : c < 3) (hi : i < 6) (hj : j < 6) (oi : mB Z 2 i = false) (oj : mB Z 2 j = false) (hK1 : 1 ≤ K) (hK : K ≤ 60000) (hd : n6 (cx Y) + d ≤ 900000000) (hm : i = m ∨ j = m) : Wf (mkF Z T c i j (mA Z 1 c) (io K) false) Y m (d + 248 * K) := by
  obtain ⟨h1, h2, h3, h4, h5, h6⟩ := h
  have e1 : tN (mkF Z T c i j (mA Z 1 c) (io K) false) = T + 1 := tN_T mk_T hT
  have e0 : tN Z = T := tN_T hI (by omega)
  have hM := h1 c hc
  obtain ⟨q1, q2, q3⟩ := pa_int (K := K) (a := io K) hM.1 hM.2 (by decide) (by decide) (by omega) rfl
  have b1 : (mA Z 1 c).toInt * (K : Int) ≤ 124 * (K : Int) := Int.mul_le_mul_of_nonneg_right (by omega) (by omega)
  have b2 : 0 ≤ (mA Z 1 c).toInt * (K : Int) := Int.mul_nonneg (by omega) (by omega)
  obtain ⟨c1, c2⟩ := cx_mv (M := Z) (N := mkF Z T c i j (mA Z 1 c) (io K) false) (a := mA Z 1 c * io K) mk_5 q1 (by omega) (by omega) hi hj
  refine ⟨fun c' hc' => ?_, PT_mk h2 hI hT hc hi hj, c1.trans h3, by omega, OU_mk h5 oi oj hc hi hj, fun x hx => ?_⟩
  · rw [mk_1]
    by_cases g : c' = c
    · rw [if_pos g]; exact hM
    · rw [if_neg g]; exact h1 c' hc'
  · rw [e1] at hx
    have eB2 : mB (mkF Z T c i j (mA Z 1 c) (io K) false) 2 = mB Z 2 := mk_B rfl
    unfold vTp tB tS
    rw [mk_25, mk_22, mk_23, mk_24, eB2]
    by_cases g : x = T
    · rw [if_pos g, if_pos g, if_pos g, if_pos g, nn_io (by omega), nn_io (by omega)]
      refine ⟨(io_pos (by omega)).mpr hK1, Or.inr hm⟩
    · rw [if_neg g, if_neg g, if_neg g, if_neg g]; exact h6 x (by omega)
theorem Wf_pon (h : Wf Z Y m d) (hI : mI Z 801 = io T) (hT : T + 1 < 4096) (hc : c < 3) (hm : m < 6) (hk : k < 6) (om : mB Z 2 m = false) (ok : mB Z 2 k = false) (hK1 : 1 ≤ K) (hK : K ≤ 60000) (hd : n6 (cx Y) + d ≤ 900000000) : Wf (pon Z T c m k (io K)) Y m (d + 248 * K) := by
  unfold pon mbF
  cases !decide (0 < mA Z 6 (3 * m + c))
  · exact Wf_mk h hI hT hc hk hm ok om hK1 hK hd (Or.inr rfl)
  · exact Wf_mk h hI hT hc hm hk om ok hK1 hK hd (Or.inl rfl)
theorem Wf_teL (hW : Wf M Y m d) (om : mB M 2 m = false) (hm : m < 6) (hc : c < 3) (hV : ∀ k, k < 6 → 0 < V.getD k 0 → mB M 2 k = false) (hS : sumN (fun i => V.getD i 0) 6 ≤ 60000) (hd : n6 (cx Y) + d + 14880000 ≤ 900000000) (hI : mI M 801 = io T) (hT : T + 7 < 4096) :
    ∀ j, j ≤ 6 → Wf (teL M c m V j) Y m (d + 248 * sumN (fun i => V.getD i 0) j) ∧ ∃ T', mI (teL M c m V j) 801 = io T' ∧ T ≤ T' ∧ T' ≤ T + j
  | 0, _ => ⟨hW, T, hI, Nat.le_refl _, Nat.le_refl _⟩
  | j + 1, hj => by
    obtain ⟨i1, T', i2, i3, i4⟩ := Wf_teL hW om hm hc hV hS hd hI hT j (by omega)
    have e0 : teL M c m V (j + 1) = teS (teL M c m V j) c m j (V.getD j 0) := rfl
    have eS : sumN (fun i => V.getD i 0) (j + 1) = sumN (fun i => V.getD i 0) j + V.getD j 0 := rfl
    have hSle : sumN (fun i => V.getD i 0) (j + 1) ≤ sumN (fun i => V.getD i 0) 6 := by
      have := sumN_lx (f := fun i => V.getD i 0) (j := j + 1) (d := 5 - j)
      rw [show j + 1 + (5 - j) = 6 by omega] at this
      exact this
    have eB : mB (teL M c m V j) 2 = mB M 2 := teL_B rfl j
    have hVj := hV j (by omega)
    rw [e0, eS]
    rw [eS] at hSle
    generalize teL M c m V j = X at *
    generalize V.getD j 0 = v at *
    generalize sumN (fun i => V.getD i 0) j = S at *
    generalize sumN (fun i => V.getD i 0) 6 = S6 at *
    unfold teS
    by_cases h0 : 0 < v
    · rw [if_pos h0, tN_T i2 (by omega)]
      refine ⟨Wf_le (Wf_pon i1 i2 (by omega) hc hm (by omega) (by rw [eB]; exact om) (by rw [eB]; exact hVj h0) h0 (by omega) (by omega)) (by omega), T' + 1, pon_T, by omega, by omega⟩
    · rw [if_neg h0]
      exact ⟨Wf_le i1 (by omega), T', i2, i3, by omega⟩
theorem te_b (hP : Po M K) (hK : K ≤ 60000) (hO : vOU M) (hc : c < 3) (hm : m < 6) : (∀ k, k < 6 → 0 < (ptN (gF M c m) (gR M c m)).getD k 0 → mB M 2 k = false) ∧ sumN (fun i => (ptN (gF M c m) (gR M c m)).getD i 0) 6 = gR M c m ∧ gR M c m ≤ 60000 ∧ ∀ k, k < 6 → (ptN (gF M c m) (gR M c m)).getD k 0 ≤ gF M c m k := by
  have hall := g_all (Po_Zs hP) hc hm
  have hsum := pt_sum hall
  have hlen : (ptN (gF M c m) (gR M c m)).length = 6 := pt_len
  have hle : ∀ k, k < 6 → (ptN (gF M c m) (gR M c m)).getD k 0 ≤ gF M c m k := fun k hk => pt_get hall hk
  rw [sum_sumN, hlen] at hsum
  have hR : gR M c m ≤ 60000 := by
    have h1 := n6_get (f := px M c) hm
    have h2 := (hP c hc).2
    have h3 : gR M c m = (px M c m).natAbs := rfl
    omega
  refine ⟨fun k hk h0 => ?_, hsum, hR, hle⟩
  have h1 := hle k hk
  have h2 := gF_px (M := M) (c := c) (m := m) (k := k)
  cases hb : mB M 2 k with
  | false => rfl
  | true =>
    have h3 := (hO k hk hb).2.2 c hc
    have h4 : px M c k = 0 := by unfold px; rw [h3]; rfl
    rw [h4] at h2
    simp at h2
    omega
theorem te_z (hP : Po M K) (hK : K ≤ 60000) (hO : vOU M) (hc : c < 3) (hm : m < 6) : px (teF M c m) c m = 0 ∧ ∀ c' k, c' < 3 → ¬ c' = c → px (teF M c m) c' k = px M c' k := by
  have hb : ∀ k, k < 6 → -1000000 ≤ px M c k ∧ px M c k ≤ 1000000 := fun k hk => Po_b hP (by omega) hc hk
  obtain ⟨b1, b2, b3, b4⟩ := te_b hP hK hO hc hm
  unfold teF
  have hRx : (gR M c m : Int) = ((px M c m).natAbs : Int) := rfl
  by_cases hR : gR M c m = 0
  · rw [if_pos hR]; exact ⟨by omega, fun _ _ _ _ => rfl⟩
  · rw [if_neg hR]
    have hm0 := b4 m hm
    have h2 := gF_px (M := M) (c := c) (m := m) (k := m)
    rw [if_neg (by omega)] at h2
    generalize ptN (gF M c m) (gR M c m) = V at *
    have hX : 0 < px M c m ∨ px M c m < 0 := by omega
    rcases hX with hX | hX
    · obtain ⟨t1, t2⟩ := te_pos (V := V) (v := fun i => V.getD i 0) hc hm hb hX (fun _ => rfl) b4 (by rw [b2, hRx]; omega) 6 (Nat.le_refl 6)
      refine ⟨?_, t2⟩
      rw [t1 m hm, if_pos hm, if_pos rfl, b2, hRx]
      omega
    · obtain ⟨t1, t2⟩ := te_neg (V := V) (v := fun i => V.getD i 0) hc hm hb hX (fun _ => rfl) b4 (by rw [b2, hRx]; omega) 6 (Nat.le_refl 6)
      refine ⟨?_, t2⟩
      rw [t1 m hm, if_pos hm, if_pos rfl, b2, hRx]
      omega
theorem Wf_teF (hW : Wf M Y m d) (hP : Po M K) (hK : K ≤ 60000) (om : mB M 2 m = false) (hm : m < 6) (hc : c < 3) (hd : n6 (cx Y) + d + 14880000 ≤ 900000000) (hI : mI M 801 = io T) (hT : T + 7 < 4096) : Wf (teF M c m) Y m (d + 14880000) ∧ ∃ T', mI (teF M c m) 801 = io T' ∧ T ≤ T' ∧ T' ≤ T + 6 := by
  obtain ⟨b1, b2, b3, b4⟩ := te_b hP hK hW.2.2.2.2.1 hc hm
  unfold teF
  by_cases hR : gR M c m = 0
  · rw [if_pos hR]; exact ⟨Wf_le hW (by omega), T, hI, Nat.le_refl _, by omega⟩
  · rw [if_neg hR]
    obtain ⟨g1, g2⟩ := Wf_teL (V := ptN (gF M c m) (gR M c m)) hW om hm hc b1 (by omega) hd hI hT 6 (Nat.le_refl 6)
    exact ⟨Wf_le g1 (by omega), g2⟩
theorem Wf_teA (hW : Wf M Y m d) (hP : Po M K) (hK : K ≤ 60000) (om : mB M 2 m = false) (hm : m < 6) (hd : n6 (cx Y) + d + 3 * 14880000 ≤ 900000000) (hI : mI M 801 = io T) (hT : T + 25 < 4096) :
    ∀ c, c ≤ 3 → Wf (teA M m c) Y m (d + 14880000 * c) ∧ (∃ T', mI (teA M m c) 801 = io T' ∧ T ≤ T' ∧ T' ≤ T + 6 * c) ∧ ∀ c', c' < c → px (teA M m c) c' m = 0
  | 0, _ => ⟨hW, ⟨T, hI, Nat.le_refl _, Nat.le_refl _⟩, fun c' h => absurd h (Nat.not_lt_zero c')⟩
  | c + 1, hc => by
    obtain ⟨i1, ⟨T', i2, i3, i4⟩, i5⟩ := Wf_teA hW hP hK om hm hd hI hT c (by omega)
    have iP := Po_teA hP (by omega) hm c (by omega)
    have eB : mB (teA M m c) 2 = mB M 2 := teA_B rfl c
    have e : teA M m (c + 1) = teF (teA M m c) c m := rfl
    rw [e]
    generalize teA M m c = X at *
    obtain ⟨g1, T2, g2, g3, g4⟩ := Wf_teF i1 iP hK (by rw [eB]; exact om) hm (c := c) (by omega) (by omega) i2 (by omega)
    obtain ⟨z1, z2⟩ := te_z iP hK i1.2.2.2.2.1 (c := c) (by omega) hm
    refine ⟨Wf_le g1 (by omega), ⟨T2, g2, by omega, by omega⟩, fun c' h => ?_⟩
    by_cases g : c' = c
    · rw [g]; exact z1
    · rw [z2 c' m (by omega) g]; exact i5 c' (by omega)
theorem to_z (hP : Po M K) (hK : K ≤ 60000) (hc : c < 3) (hm : m < 6) (hkm : ¬ k = m) : px (toS M m k c) c m = 0 ∧ ∀ c' j, c' < 3 → ¬ c' = c → px (toS M m k c) c' j = px M c' j := by
  have hbm := Po_b hP (by omega) hc hm
  have ea : ab (mA M 6 ((3 * m) + c)) = io (px M c m).natAbs := ab_io hbm.1 hbm.2
  unfold toS
  rw [ea]
  by_cases h0 : 0 < io (px M c m).natAbs
  · rw [if_pos h0]
    have hw : (io (px M c m).natAbs).toInt = ((px M c m).natAbs : Int) := io_int (by omega)
    by_cases hp : 0 < mA M 6 ((3 * m) + c)
    · have hM := pon_6t (T := tN M) (k := k) (a := io (px M c m).natAbs) hp
      have hp2 := px_pos.mpr hp
      refine ⟨?_, fun c' j h1 h2 => mv_o hM hc h1 h2⟩
      rw [mv_y hM hw (by omega) hbm, if_pos rfl, if_neg (fun z => hkm z.symm)]
      omega
    · have hM := pon_6f (T := tN M) (k := k) (a := io (px M c m).natAbs) hp
      have hp2 : ¬ 0 < px M c m := fun z => hp (px_pos.mp z)
      refine ⟨?_, fun c' j h1 h2 => mv_o hM hc h1 h2⟩
      rw [mv_y hM hw (by omega) hbm, if_pos rfl, if_neg (fun z => hkm z.symm)]
      omega
  · rw [if_neg h0]
    have h1 : ¬ 0 < (px M c m).natAbs := fun z => h0 ((io_pos (by omega)).mpr z)
    exact ⟨by omega, fun _ _ _ _ => rfl⟩
theorem Wf_toS (hW : Wf M Y m d) (hP : Po M K) (hK : K ≤ 60000) (om : mB M 2 m = false) (ok : mB M 2 k = false) (hm : m < 6) (hk : k < 6) (hc : c < 3) (hd : n6 (cx Y) + d + 14880000 ≤ 900000000) (hI : mI M 801 = io T) (hT : T + 7 < 4096) : Wf (toS M m k c) Y m (d + 14880000) ∧ ∃ T', mI (toS M m k c) 801 = io T' ∧ T ≤ T' ∧ T' ≤ T + 1 := by
  have hbm := Po_b hP (by omega) hc hm
  have ea : ab (mA M 6 ((3 * m) + c)) = io (px M c m).natAbs := ab_io hbm.1 hbm.2
  have hb2 : (px M c m).natAbs ≤ 60000 := by
    have h1 := n6_get (f := px M c) hm
    have h2 := (hP c hc).2
    omega
  unfold toS
  rw [ea]
  generalize (px M c m).natAbs = q at *
  by_cases h0 : 0 < io q
  · rw [if_pos h0, tN_T hI (by omega)]
    exact ⟨Wf_le (Wf_pon hW hI (by omega) hc hm hk om ok ((io_pos (by omega)).mp h0) hb2 (by omega)) (by omega), T + 1, pon_T, by omega, Nat.le_refl _⟩
  · rw [if_neg h0]; exact ⟨Wf_le hW (by omega), T, hI, Nat.le_refl _, by omega⟩
theorem Wf_toL (hW : Wf M Y m d) (hP : Po M K) (hK : K ≤ 60000) (om : mB M 2 m = false) (ok : mB M 2 k = false) (hm : m < 6) (hk : k < 6) (hkm : ¬ k = m) (hd : n6 (cx Y) + d + 3 * 14880000 ≤ 900000000) (hI : mI M 801 = io T) (hT : T + 25 < 4096) :
    ∀ c, c ≤ 3 → Wf (toL M m k c) Y m (d + 14880000 * c) ∧ (∃ T', mI (toL M m k c) 801 = io T' ∧ T ≤ T' ∧ T' ≤ T + c) ∧ ∀ c', c' < c → px (toL M m k c) c' m = 0
  | 0, _ => ⟨hW, ⟨T, hI, Nat.le_refl _, Nat.le_refl _⟩, fun c' h => absurd h (Nat.not_lt_zero c')⟩
  | c + 1, hc => by
    obtain ⟨i1, ⟨T', i2, i3, i4⟩, i5⟩ := Wf_toL hW hP hK om ok hm hk hkm hd hI hT c (by omega)
    have iP := Po_toL hP (by omega) hm hk hkm c (by omega)
    have eB : mB (toL M m k c) 2 = mB M 2 := toL_B rfl c
    have e : toL M m k (c + 1) = toS (toL M m k c) m k c := rfl
    rw [e]
    generalize toL M m k c = X at *
    obtain ⟨g1, T2, g2, g3, g4⟩ := Wf_toS i1 iP hK (by rw [eB]; exact om) (by rw [eB]; exact ok) hm hk (c := c) (by omega) (by omega) i2 (by omega)
    obtain ⟨z1, z2⟩ := to_z iP hK (c := c) (by omega) hm hkm
    refine ⟨Wf_le g1 (by omega), ⟨T2, g2, by omega, by omega⟩, fun c' h => ?_⟩
    by_cases g : c' = c
    · rw [g]; exact z1
    · rw [z2 c' m (by omega) g]; exact i5 c' (by omega)
theorem pay_5 (q : Nat) : mA (payF M m k) 5 q = if q = k then (if q = m then mA M 5 q - mA M 9 k else mA M 5 q) + mA M 9 k else if q = m then mA M 5 q - mA M 9 k else mA M 5 q := by
  show (if 5 = 5 ∧ q = k then ((if 5 = 5 ∧ k = m then mA M 5 m - mA M 9 k else mA M 5 k) + mA M 9 k) else if 5 = 5 ∧ q = m then mA M 5 m - mA M 9 k else mA M 5 q) = _
  by_cases h1 : q = k
  · subst h1
    rw [if_pos ⟨rfl, rfl⟩, if_pos rfl]
    by_cases h2 : q = m
    · subst h2
      rw [if_pos ⟨rfl, rfl⟩, if_pos rfl]
    · rw [if_neg (fun z => h2 z.2), if_neg h2]
  · rw [if_neg (fun z => h1 z.2), if_neg h1]
    by_cases h2 : q = m
    · subst h2
      rw [if_pos ⟨rfl, rfl⟩, if_pos rfl]
    · rw [if_neg (fun z => h2 z.2), if_neg h2]
theorem Wf_pay (h : Wf Z Y m d) (hm : m < 6) (hk : k < 6) (om : mB Z 2 m = false) (ok : mB Z 2 k = false) (h9 : -1000000 ≤ (mA Z 9 k).toInt ∧ (mA Z 9 k).toInt ≤ 1000000) (hd : n6 (cx Y) + d ≤ 900000000) : Wf (payF Z m k) Y m (d + 2000000) := by
  obtain ⟨h1, h2, h3, h4, h5, h6⟩ := h
  obtain ⟨c1, c2⟩ := cx_mv (M := Z) (N := payF Z m k) (a := mA Z 9 k) pay_5 rfl (by omega) (by omega) hm hk
  have fA : ∀ q, ¬ q = 5 → mA (payF Z m k) q = mA Z q := fun q hq => payF_A hq
  have fB : mB (payF Z m k) = mB Z := payF_B
  have fI : mI (payF Z m k) = mI Z := payF_Is
  have f5 := pay_5 (M := Z) (m := m) (k := k)
  generalize payF Z m k = X at *
  have eT : tN X = tN Z := tN_e (congrFun fI 801)
  refine ⟨fun c' hc' => by rw [fA 1 (by decide)]; exact h1 c' hc', PT_cg h2 (fA 6 (by decide)) (fA 21 (by decide)) (fA 22 (by decide)) (fA 23 (by decide)) (fA 25 (by decide)) (congrFun fB 7) (congrFun fI 801), c1.trans h3, by omega, fun m' hm' g => ?_, fun x hx => ?_⟩
  · rw [fB] at g
    obtain ⟨g1, g2, g3⟩ := h5 m' hm' g
    have n1 : ¬ m' = m := fun z => by rw [z, om] at g; cases g
    have n2 : ¬ m' = k := fun z => by rw [z, ok] at g; cases g
    exact ⟨by rw [fA 4 (by decide)]; exact g1, by rw [f5, if_neg n2, if_neg n1]; exact g2, fun c' hc' => by rw [fA 6 (by decide)]; exact g3 c' hc'⟩
  · rw [eT] at hx
    have h9 := h6 x hx
    unfold vTp tB tS at *
    rw [fA 25 (by decide), fA 22 (by decide), fA 23 (by decide), fA 24 (by decide), fB]; exact h9
theorem Wf_cnb (h : Wf Z Y m d) : Wf (cnbF Z) Y m d := by
  obtain ⟨h1, h2, h3, h4, h5, h6⟩ := h
  have fA : mA (cnbF Z) = mA Z := cnb_A
  have fB : ∀ q, ¬ q = 1 → mB (cnbF Z) q = mB Z q := fun q hq => cnb_Bq hq
  have fI : mI (cnbF Z) = mI Z := cnb_I
  generalize cnbF Z = X at *
  have eT : tN X = tN Z := tN_e (congrFun fI 801)
  have ec : cx X = cx Z := funext fun k => by unfold cx; rw [fA]
  refine ⟨fun c' hc' => by rw [fA]; exact h1 c' hc', PT_cg h2 (by rw [fA]) (by rw [fA]) (by rw [fA]) (by rw [fA]) (by rw [fA]) (fB 7 (by decide)) (congrFun fI 801), by rw [ec]; exact h3, by rw [ec]; exact h4, fun m' hm' g => ?_, fun x hx => ?_⟩
  · rw [fB 2 (by decide)] at g
    rw [fA]; exact h5 m' hm' g
  · rw [eT] at hx
    have h9 := h6 x hx
    unfold vTp tB tS at *
    rw [fA, fB 2 (by decide)]; exact h9
end Syh
