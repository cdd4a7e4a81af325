/-! the class's matching: portions, trades, what is gathered -/
section S56
variable {t t' : sT} {M M' M0 : sM} {n T T' A B b c m o k x y K w : Nat} {p a : Int32} {s z : Bool} {L L' l : List Nat} {Q : sRs → sT → Prop}
theorem bif_some {z : Bool} {a b : Nat} : (bif z then some a else some b) = some (bif z then a else b) := by cases z <;> rfl
/-! portions -/
def smS (M : sM) : List Nat → Int32 → Int32
  | [], s => s
  | x :: l, s => smS M l (s + mA M 17 x)
def poG (M : sM) (h u : Int32) : List Nat → Int32 → (Nat → Int32) → Int32 × (Nat → Int32)
  | [], r, g => (r, g)
  | x :: l, r, g => poG M h u l (r - (bif decide (0 < h) then ((u * (mA M 17 x)) / h) else 0)) (sU1 g x (bif decide (0 < h) then ((u * (mA M 17 x)) / h) else 0))
def dvG (M : sM) : List Nat → Int32 → (Nat → Int32) → (Nat → Int32)
  | [], _, g => g
  | x :: l, r, g => bif decide (0 < r) && decide (g x < mA M 17 x) then dvG M l (r + (-1)) (sU1 g x (g x + 1)) else dvG M l r g
def ptF (M : sM) (a : Int32) (L : List Nat) (g : Nat → Int32) : Nat → Int32 := match L with
  | [] => g
  | x :: l => dvG M L (poG M (smS M L 0 - mA M 17 x) (mnc (smS M L 0) a - mnc (mnc (smS M L 0) a) (mA M 17 x)) l (mnc (smS M L 0) a - mnc (mnc (smS M L 0) a) (mA M 17 x)) (sU1 g x (mnc (mnc (smS M L 0) a) (mA M 17 x)))).1 (poG M (smS M L 0 - mA M 17 x) (mnc (smS M L 0) a - mnc (mnc (smS M L 0) a) (mA M 17 x)) l (mnc (smS M L 0) a - mnc (mnc (smS M L 0) a) (mA M 17 x)) (sU1 g x (mnc (mnc (smS M L 0) a) (mA M 17 x)))).2
theorem w66_run : ∀ (l : List Nat) (k : Nat) (r : Int32) (y0 : sV) (t : sT), Wc t M n T L A B → Dr L k l → (∀ x, x ∈ l → x < n ∧ mA M 19 x = 1) →
    (∀ t', Wc t' M n T L A B → ep t' = ep t → tv t' = (dvG M l r (tv t).1, (tv t).2) → Q (.inl none) t') →
    X 66 4 [.inr (.inr (6, (some 0))), .inl a, .inl r, .inl (io k), y0] [] t Q
  | [], k, r, y0, t, hW, hD, _, q => by
    have e := Dr_n hD
    subst e
    exact n66_e hW (q t hW rfl rfl)
  | x :: l, k, r, y0, t, hW, hD, hx, q => by
    obtain ⟨hk, hg, hD2⟩ := Dr_c hD
    have hxn := (hx x List.mem_cons_self).1
    have hx1 := (hx x List.mem_cons_self).2
    have hl : ∀ y, y ∈ l → y < n ∧ mA M 19 y = 1 := fun y hy => hx y (List.mem_cons_of_mem x hy)
    have e1 : ∀ g : Nat → Int32, dvG M (x :: l) r g = bif decide (0 < r) && decide (g x < mA M 17 x) then dvG M l (r + (-1)) (sU1 g x (g x + 1)) else dvG M l r g := fun g => rfl
    refine n66_k hW hk hg hxn hx1 (p := (tv t).1 x) rfl (fun h => ?_) (fun h h2 => ?_) (fun h h2 => ?_)
    · refine w66_run l (k + 1) r _ t hW hD2 hl (fun t' g1 g2 g3 => q t' g1 g2 (g3.trans ?_))
      rw [e1, decide_eq_false h]; rfl
    · refine w66_run l (k + 1) r _ t hW hD2 hl (fun t' g1 g2 g3 => q t' g1 g2 (g3.trans ?_))
      rw [e1, decide_eq_true h, decide_eq_false h2]; rfl
    · refine w66_run l (k + 1) _ _ _ (W_526 hW) hD2 hl (fun t' g1 g2 g3 => q t' g1 (g2.trans (ep_I rfl)) (g3.trans ?_))
      rw [tv_526, e1, decide_eq_true h, decide_eq_true h2]; rfl
theorem w66 {r : Int32} (hW : Wc t M n T L A B) (hx : ∀ x, x ∈ L → x < n ∧ mA M 19 x = 1)
    (q : ∀ t', Wc t' M n T L A B → ep t' = ep t → tv t' = (dvG M L r (tv t).1, (tv t).2) → Q (.inl none) t') :
    X 66 0 [.inr (.inr (6, (some 0))), .inl r, sJk, sJk, sJk] [] t Q :=
  n66_0 hW (w66_run L 0 r _ t hW (Dr_0 L) hx q)
theorem w65_56 {s1 z1 h u : Int32} (hL : ∀ x, x ∈ L → x < n ∧ mA M 19 x = 1) : ∀ (l : List Nat) (k : Nat) (r : Int32) (y0 : sV) (t : sT), 0 < k → Wc t M n T L A B → Dr L k l → (∀ x, x ∈ l → x < n ∧ mA M 19 x = 1) →
    (∀ t', Wc t' M n T L A B → ep t' = ep t → tv t' = (dvG M L (poG M h u l r (tv t).1).1 (poG M h u l r (tv t).1).2, (tv t).2) → Q (.inl none) t') →
    X 65 56 [.inr (.inr (6, (some 0))), .inl a, .inl s1, .inl z1, .inl r, .inl h, .inl u, .inl (io k), y0] [] t Q
  | [], k, r, y0, t, _, hW, hD, _, q => by
    have e := Dr_n hD
    subst e
    refine n65_e hW ?_
    refine w66 hW hL (fun t' g1 g2 g3 => ?_)
    refine sK_v (pc' := 169) rfl ?_
    exact n65_169 (q t' g1 g2 g3)
  | x :: l, k, r, y0, t, hk0, hW, hD, hx, q => by
    obtain ⟨hk, hg, hD2⟩ := Dr_c hD
    have hxn := (hx x List.mem_cons_self).1
    have hx1 := (hx x List.mem_cons_self).2
    have hl : ∀ y, y ∈ l → y < n ∧ mA M 19 y = 1 := fun y hy => hx y (List.mem_cons_of_mem x hy)
    refine n65_k hW hk hg hxn hx1 hk0 ?_
    refine w65_56 hL l (k + 1) _ _ _ (Nat.succ_pos k) (W_526 hW) hD2 hl (fun t' g1 g2 g3 => q t' g1 (g2.trans (ep_I rfl)) (g3.trans ?_))
    rw [tv_526]; rfl
theorem w65_4 : ∀ (l : List Nat) (k : Nat) (s1 : Int32), Wc t M n T L A B → Dr L k l → (∀ x, x ∈ l → x < n ∧ mA M 19 x = 1) →
    X 65 56 [.inr (.inr (6, (some 0))), .inl a, .inl (smS M l s1), .inl (mnc (smS M l s1) a), .inl (mnc (smS M l s1) a), .inl 0, .inl 0, .inl 0, sJk] [] t Q →
    X 65 4 [.inr (.inr (6, (some 0))), .inl a, .inl s1, .inl (io k), sJk, sJk, sJk, sJk, sJk] [] t Q
  | [], k, s1, hW, hD, _, q => by
    have e := Dr_n hD
    subst e
    exact n65_4e hW q
  | x :: l, k, s1, hW, hD, hx, q => by
    obtain ⟨hk, hg, hD2⟩ := Dr_c hD
    have hl : ∀ y, y ∈ l → y < n ∧ mA M 19 y = 1 := fun y hy => hx y (List.mem_cons_of_mem x hy)
    exact n65_4k hW hk hg (hx x List.mem_cons_self).1 (hx x List.mem_cons_self).2 (w65_4 l (k + 1) _ hW hD2 hl q)
theorem w65 (hW : Wc t M n T (x :: l) A B) (hx : ∀ y, y ∈ x :: l → y < n ∧ mA M 19 y = 1)
    (q : ∀ t', Wc t' M n T (x :: l) A B → ep t' = ep t → tv t' = (ptF M a (x :: l) (tv t).1, (tv t).2) → Q (.inl none) t') :
    X 65 0 [.inr (.inr (6, (some 0))), .inl a, sJk, sJk, sJk, sJk, sJk, sJk, sJk] [] t Q := by
  refine n65_0 hW (w65_4 (x :: l) 0 0 hW (Dr_0 _) hx ?_)
  obtain ⟨hk, hg, hD2⟩ := Dr_c (Dr_0 (x :: l))
  refine n65_k0 hW hk hg (hx x List.mem_cons_self).1 (hx x List.mem_cons_self).2 ?_
  refine w65_56 hx l 1 _ _ _ (Nat.succ_pos 0) (W_526 hW) hD2 (fun y hy => hx y (List.mem_cons_of_mem x hy)) (fun t' g1 g2 g3 => q t' g1 (g2.trans (ep_I rfl)) (g3.trans ?_))
  rw [tv_526]; rfl
/-! trades within a book -/
theorem Fr_dbF (f : Fr M M0) : Fr (dbF M T b m o p a) M0 := by
  unfold dbF
  cases snd b with
  | none => exact Fr_mkF f
  | some d => exact Fr_mkF (Fr_mkF f)
theorem Fr_tkF (f : Fr M M0) : Fr (tkF M o a) M0 := Fr_A rfl (Fr_A rfl f)
theorem st_dbF : mA (dbF M T b m o p a) 19 x = mA M 19 x := by
  unfold dbF
  cases snd b <;> rfl
theorem Sq_dbF (h : Sq M n K) : Sq (dbF M T b m o p a) n K := by
  unfold dbF
  cases snd b with
  | none => exact Sq_mkF h
  | some d => exact Sq_mkF (Sq_mkF h)
theorem Sq_tkF (h : Sq M n K) : Sq (tkF M o a) n K := Sq_fr h rfl rfl
theorem st_tkF : mA (tkF M o a) 19 x = mA M 19 x := rfl
def dbM (M0 : sM) (o x : Nat) : Nat := bif mB M0 3 o then oM M0 o else oM M0 x
def dbS (M0 : sM) (o x : Nat) : Nat := bif mB M0 3 o then oM M0 x else oM M0 o
def tbG (M0 : sM) (o : Nat) (p : Int32) (g : Nat → Int32) : List Nat → sM → Nat → sM
  | [], M, _ => M
  | x :: l, M, T => bif decide (0 < g x) then tbG M0 o p g l (flF (tkF (dbF M T (oB M0 o) (dbM M0 o x) (dbS M0 o x) p (g x)) o (g x)) x (g x)) (dbT (oB M0 o) T) else tbG M0 o p g l M T
def tbT (b : Nat) (g : Nat → Int32) : List Nat → Nat → Nat
  | [], T => T
  | x :: l, T => bif decide (0 < g x) then tbT b g l (dbT b T) else tbT b g l T
theorem dbT_le : dbT b T ≤ T + 2 ∧ T ≤ dbT b T := by
  unfold dbT
  cases snd b with
  | none => exact ⟨show T + 1 ≤ T + 2 by omega, show T ≤ T + 1 by omega⟩
  | some d => exact ⟨show T + 2 ≤ T + 2 by omega, show T ≤ T + 2 by omega⟩
theorem w64_run {g : Nat → Int32} (hP : Pb M0 n) (ho0 : o < n) : ∀ (l : List Nat) (k : Nat) (M : sM) (T K : Nat) (y0 y1 y2 y3 : sV) (t : sT), Wc t M n T L A B → Fr M M0 → Sq M n K → K + l.length < 1000000 → T + 2 * l.length < 4094 → (tv t).1 = g → Dr L k l → l.Nodup → (∀ x, x ∈ l → x < n ∧ mA M 19 x = 1) →
    (∀ t', Wc t' (tbG M0 o p g l M T) n (tbT (oB M0 o) g l T) L A B → ep t' = ep t → tv t' = tv t → Q (.inl none) t') →
    X 64 22 [.inr (.inr (6, (some 0))), .inr (.inr (8, (some o))), .inl p, .inl (io k), y0, y1, y2, y3] [] t Q
  | [], k, M, T, K, y0, y1, y2, y3, t, hW, hF, hS, hK, hT, hv, hD, hN, _, q => by
    have e := Dr_n hD
    subst e
    exact n64_e hW ho0 (q t hW rfl rfl)
  | x :: l, k, M, T, K, y0, y1, y2, y3, t, hW, hF, hS, hK, hT, hv, hD, hN, hx, q => by
    obtain ⟨hk, hg, hD2⟩ := Dr_c hD
    have hxn := (hx x List.mem_cons_self).1
    have hx1 := (hx x List.mem_cons_self).2
    have hl : ∀ y, y ∈ l → y < n ∧ mA M 19 y = 1 := fun y hy => hx y (List.mem_cons_of_mem x hy)
    have hN2 := List.nodup_cons.mp hN
    have hp : sI t 526 x = g x := congrFun hv x
    have hlen : (x :: l).length = l.length + 1 := rfl
    have eB : oB M = oB M0 := oB_fr hF
    have eM : oM M = oM M0 := oM_fr hF
    have e3 : mB M 3 = mB M0 3 := hF.f3
    have q2 : ∀ (z : Bool), decide (0 < g x) = z → (∀ t', Wc t' (bif z then tbG M0 o p g l (flF (tkF (dbF M T (oB M0 o) (dbM M0 o x) (dbS M0 o x) p (g x)) o (g x)) x (g x)) (dbT (oB M0 o) T) else tbG M0 o p g l M T) n (bif z then tbT (oB M0 o) g l (dbT (oB M0 o) T) else tbT (oB M0 o) g l T) L A B → ep t' = ep t → tv t' = tv t → Q (.inl none) t') := fun z hz => by
      subst hz; exact q
    refine n64_k hW hk hg hxn ho0 hp (fun h => ?_) (fun h => ?_)
    · have q3 := q2 false (decide_eq_false h)
      exact w64_run hP ho0 l (k + 1) M T K _ _ _ _ t hW hF hS (by omega) (by omega) hv hD2 hN2.2 hl q3
    · have q3 := q2 true (decide_eq_true h)
      have eb : oB M0 o < 5 := by rw [← eB]; exact W_oB hW ho0
      have em : oM M0 o < 6 := by rw [← eM]; exact W_oM hW ho0
      have ex : oM M0 x < 6 := by rw [← eM]; exact W_oM hW hxn
      rw [eB, eM, e3, bif_some, bif_some]
      refine w47 (m := dbM M0 o x) (o := dbS M0 o x) hW eb (lt_bif em ex) (lt_bif ex em) (by omega) (fun t1 h1 e1 v1 => ?_)
      refine sK_v (pc' := 118) rfl ?_
      refine n64_118 h1 ho0 ?_
      refine w33 h1 ho0 (fun t2 h2 e2 v2 => ?_)
      refine sK_v (pc' := 128) rfl ?_
      refine n64_128 h2 ho0 ?_
      have hF2 : Fr (tkF (dbF M T (oB M0 o) (dbM M0 o x) (dbS M0 o x) p (g x)) o (g x)) M0 := Fr_tkF (Fr_dbF hF)
      have hS2 : Sq (tkF (dbF M T (oB M0 o) (dbM M0 o x) (dbS M0 o x) p (g x)) o (g x)) n K := Sq_tkF (Sq_dbF hS)
      refine w35 h2 hxn (Pb_fr hF2 hP) (hS2.sp (by omega)) (st_tkF.trans (st_dbF.trans hx1)) (fun t3 h3 e3 v3 => ?_)
      refine sK_v (pc' := 139) rfl ?_
      refine n64_139 h3 ho0 ?_
      refine w64_run hP ho0 l (k + 1) _ _ (K + 1) _ _ _ _ t3 h3 (Fr_flF hF2) (Sq_flF (by omega) hS2) (by omega) (by have := (dbT_le (b := oB M0 o) (T := T)).1; omega) (((congrArg (fun v : TV => v.1) v3).trans ((congrArg (fun v : TV => v.1) v2).trans (congrArg (fun v : TV => v.1) v1))).trans hv) hD2 hN2.2 (fun y hy => ⟨(hl y hy).1, ?_⟩) (fun t' g1 g2 g3 => q3 t' g1 (g2.trans (e3.trans (e2.trans e1))) (g3.trans (v3.trans (v2.trans v1))))
      refine (st_flF (fun e => hN2.1 (by rw [← e]; exact hy))).trans (st_tkF.trans (st_dbF.trans (hl y hy).2))
theorem Fr_crF (f : Fr M M0) : Fr (crF M n b p) M0 := Fr.tr (Fc_crF (Fc.refl M)).fr f
/-- the class trades within a book -/
theorem w64 (hW : Wc t M n T (x :: l) A B) (ho : o < n) (hP : Pb M n) (hS : Sq M n K) (hK : K + (x :: l).length < 1000000) (hT : T + 2 * (x :: l).length < 4094) (hN : (x :: l).Nodup) (hx : ∀ y, y ∈ x :: l → y < n ∧ mA M 19 y = 1)
    (q : ∀ t', Wc t' (tbG M o p (ptF M (mA M 15 o) (x :: l) (tv t).1) (x :: l) (crF M n (oB M o) p) T) n (tbT (oB M o) (ptF M (mA M 15 o) (x :: l) (tv t).1) (x :: l) T) (x :: l) A B → ep t' = ep t → Q (.inl none) t') :
    X 64 0 [.inr (.inr (6, (some 0))), .inr (.inr (8, (some o))), .inl p, sJk, sJk, sJk, sJk, sJk] [] t Q := by
  refine n64_0 hW ho ?_
  refine w65 hW hx (fun t1 h1 e1 v1 => ?_)
  refine sK_v (pc' := 8) rfl ?_
  refine n64_8 h1 ho ?_
  refine w36 h1 (W_oB hW ho) (fun t2 h2 e2 v2 => ?_)
  refine sK_v (pc' := 20) rfl ?_
  refine n64_20 ?_
  refine w64_run hP ho (x :: l) 0 _ T K _ _ _ _ t2 h2 (Fr_crF (Fr.refl M)) (Sq_crF hS) hK hT ((congrArg (fun v : TV => v.1) v2).trans (congrArg (fun v : TV => v.1) v1)) (Dr_0 _) hN (fun y hy => ⟨(hx y hy).1, st_crF.trans (hx y hy).2⟩) (fun t' g1 g2 g3 => q t' g1 (g2.trans (e2.trans e1)))
/-! trades by the legs of a way -/
def szF (M : sM) : List Nat → Int32 → Int32
  | [], s => s
  | x :: l, s => szF M l (mnc (mA M 17 x) s)
def tlB (M0 : sM) (o : Nat) (z : Bool) (k : Nat) : Bool := bif z then (bif decide (0 < k) then (!(mB M0 3 o)) else mB M0 3 o) else mB M0 3 o
def tlM (M0 : sM) (o : Nat) (sz : Int32) (z : Bool) (V : TV) (k m x : Nat) (M : sM) (T : Nat) : sM := match V.2.2.1 x with
  | none => M
  | some d => mkF M T d (bif tlB M0 o z k then m else oM M0 x) (bif tlB M0 o z k then oM M0 x else m) (V.2.1 x) sz true
def tlT (V : TV) (x T : Nat) : Nat := match V.2.2.1 x with
  | none => T
  | some _ => T + 1
def tlG (M0 : sM) (n o : Nat) (sz : Int32) (z : Bool) (V : TV) : Nat → Nat → List Nat → sM → Nat → sM
  | _, _, [], M, _ => M
  | k, m, x :: l, M, T => tlG M0 n o sz z V (k + 1) (bif z then m else oM M0 x) l (flF (crF (tlM M0 o sz z V k m x M T) n (oB M0 x) (mA M0 14 x)) x sz) (tlT V x T)
def tlU (V : TV) : List Nat → Nat → Nat
  | [], T => T
  | x :: l, T => tlU V l (tlT V x T)
theorem Fr_tlM {sz : Int32} {V : TV} (f : Fr M M') : Fr (tlM M0 o sz z V k m x M T) M' := by
  unfold tlM
  cases V.2.2.1 x with
  | none => exact f
  | some d => exact Fr_mkF f
theorem st_tlM {sz : Int32} {V : TV} : mA (tlM M0 o sz z V k m x M T) 19 y = mA M 19 y := by
  unfold tlM
  cases V.2.2.1 x <;> rfl
theorem Sq_tlM {sz : Int32} {V : TV} (h : Sq M n K) : Sq (tlM M0 o sz z V k m x M T) n K := by
  unfold tlM
  cases V.2.2.1 x with
  | none => exact h
  | some d => exact Sq_mkF h
theorem tlT_le {V : TV} : tlT V x T ≤ T + 1 ∧ T ≤ tlT V x T := by
  unfold tlT
  cases V.2.2.1 x with
  | none => exact ⟨show T ≤ T + 1 by omega, show T ≤ T by omega⟩
  | some d => exact ⟨show T + 1 ≤ T + 1 by omega, show T ≤ T + 1 by omega⟩
theorem w67_run {sz : Int32} {V : TV} (hP : Pb M0 n) (ho0 : o < n) (hV : ∀ x d, V.2.2.1 x = some d → x ∈ L → d < 3) : ∀ (l : List Nat) (k m : Nat) (M : sM) (T K : Nat) (y0 y1 y2 : sV) (t : sT), Wc t M n T L A B → Fr M M0 → Sq M n K → K + l.length < 1000000 → T + l.length < 4095 → m < 6 → tv t = V → Dr L k l → l.Nodup → (∀ x, x ∈ l → x < n ∧ x ∈ L ∧ mA M 19 x = 1) →
    (∀ t', Wc t' (tlG M0 n o sz z V k m l M T) n (tlU V l T) L A B → ep t' = ep t → tv t' = tv t → Q (.inl none) t') →
    X 67 85 [.inr (.inr (6, (some 0))), .inr (.inr (8, (some o))), .inl p, .inl sz, .inl (bz z), .inr (.inr (7, (some m))), .inl (io k), y0, y1, y2] [] t Q
  | [], k, m, M, T, K, y0, y1, y2, t, hW, hF, hS, hK, hT, hm, hv, hD, hN, _, q => by
    have e := Dr_n hD
    subst e
    exact n67_e hW ho0 (q t hW rfl rfl)
  | x :: l, k, m, M, T, K, y0, y1, y2, t, hW, hF, hS, hK, hT, hm, hv, hD, hN, hx, q => by
    obtain ⟨hk, hg, hD2⟩ := Dr_c hD
    have hxn := (hx x List.mem_cons_self).1
    have hxL := (hx x List.mem_cons_self).2.1
    have hx1 := (hx x List.mem_cons_self).2.2
    have hl : ∀ y, y ∈ l → y < n ∧ y ∈ L ∧ mA M 19 y = 1 := fun y hy => hx y (List.mem_cons_of_mem x hy)
    have hN2 := List.nodup_cons.mp hN
    have hp : sI t 528 x = V.2.1 x := congrFun (congrArg (fun v : TV => v.2.1) hv) x
    have hr : sR t 527 x = V.2.2.1 x := congrFun (congrArg (fun v : TV => v.2.2.1) hv) x
    have hlen : (x :: l).length = l.length + 1 := rfl
    have eB : oB M = oB M0 := oB_fr hF
    have eM : oM M = oM M0 := oM_fr hF
    have e3 : mB M 3 = mB M0 3 := hF.f3
    have e14 : mA M 14 = mA M0 14 := hF.f14
    have eb : oB M0 x < 5 := by rw [← eB]; exact W_oB hW hxn
    have ex : oM M0 x < 6 := by rw [← eM]; exact W_oM hW hxn
    have rest : ∀ (h : Nat) (c9 : Bool) (t1 : sT), h = oM M0 x → Wc t1 (tlM M0 o sz z V k m x M T) n (tlT V x T) L A B → ep t1 = ep t → tv t1 = tv t →
        X 36 0 [.inr (.inr (4, (some 0))), .inr (.inr (1, (some (oB M0 x)))), .inl (mA M0 14 x), sJk, sJk] [] t1 (sK 36 67 222 [.inr (.inr (6, (some 0))), .inr (.inr (8, (some o))), .inl p, .inl sz, .inl (bz z), .inr (.inr (7, (some (bif z then m else h)))), .inl (io k), .inr (.inr (8, (some x))), .inr (.inr (7, (some h))), .inl (bz c9)] [] Q) := by
      intro h c9 t1 eh h1 e1 v1
      subst eh
      refine w36 h1 eb (fun t2 h2 e2 v2 => ?_)
      refine sK_v (pc' := 225) rfl ?_
      refine n67_225 h2 ho0 hxn ?_
      have hF2 : Fr (crF (tlM M0 o sz z V k m x M T) n (oB M0 x) (mA M0 14 x)) M0 := Fr_crF (Fr_tlM hF)
      have hS2 : Sq (crF (tlM M0 o sz z V k m x M T) n (oB M0 x) (mA M0 14 x)) n K := Sq_crF (Sq_tlM hS)
      refine w35 h2 hxn (Pb_fr hF2 hP) (hS2.sp (by omega)) (st_crF.trans (st_tlM.trans hx1)) (fun t3 h3 e3 v3 => ?_)
      refine sK_v (pc' := 235) rfl ?_
      refine n67_235 h3 ho0 hxn ?_
      refine w67_run hP ho0 hV l (k + 1) _ _ _ (K + 1) _ _ _ t3 h3 (Fr_flF hF2) (Sq_flF (by omega) hS2) (by omega) (by have := (tlT_le (V := V) (x := x) (T := T)).1; omega) (lt_bif hm ex) (v3.trans (v2.trans (v1.trans hv))) hD2 hN2.2 (fun y hy => ⟨(hl y hy).1, (hl y hy).2.1, ?_⟩) (fun t' g1 g2 g3 => q t' g1 (g2.trans (e3.trans (e2.trans e1))) (g3.trans (v3.trans (v2.trans v1))))
      exact (st_flF (fun e => hN2.1 (by rw [← e]; exact hy))).trans (st_crF.trans (st_tlM.trans (hl y hy).2.2))
    cases hc : V.2.2.1 x with
    | none =>
      rw [hc] at hr
      have e7 : tlM M0 o sz z V k m x M T = M := by unfold tlM; rw [hc]
      have e8 : tlT V x T = T := by unfold tlT; rw [hc]
      rw [e7, e8] at rest
      refine n67_kn hW hk hg hxn ho0 hp hr ?_
      rw [eB, eM, e3, e14, bif_some]
      exact rest _ _ t rfl hW rfl rfl
    | some d =>
      rw [hc] at hr
      have hd3 := hV x d hc hxL
      have e7 : tlM M0 o sz z V k m x M T = mkF M T d (bif tlB M0 o z k then m else oM M0 x) (bif tlB M0 o z k then oM M0 x else m) (V.2.1 x) sz true := by unfold tlM; rw [hc]
      have e8 : tlT V x T = T + 1 := by unfold tlT; rw [hc]
      rw [e7, e8] at rest
      refine n67_ks hW hk hg hxn ho0 hp hr hd3 ?_
      rw [eM, e3, bif_some, bif_some]
      refine w46 (m := bif tlB M0 o z k then m else oM M0 x) (o := bif tlB M0 o z k then oM M0 x else m) hW hd3 (lt_bif hm ex) (lt_bif ex hm) (by omega) (fun t1 h1 e1 v1 => ?_)
      refine sK_v (pc' := 199) rfl ?_
      refine n67_199 h1 ho0 hxn ?_
      have e5 : oB (mkF M T d (bif tlB M0 o z k then m else oM M0 x) (bif tlB M0 o z k then oM M0 x else m) (V.2.1 x) sz true) = oB M0 := eB
      have e6 : mA (mkF M T d (bif tlB M0 o z k then m else oM M0 x) (bif tlB M0 o z k then oM M0 x else m) (V.2.1 x) sz true) 14 = mA M0 14 := e14
      rw [e5, e6, bif_some]
      exact rest _ _ t1 rfl h1 e1 v1
theorem w67_8 : ∀ (l : List Nat) (k : Nat) (s1 : Int32), Wc t M n T L A B → o < n → Dr L k l → (∀ x, x ∈ l → x < n ∧ mA M 19 x = 1) →
    X 36 0 [.inr (.inr (4, (some 0))), .inr (.inr (1, (some (oB M o)))), .inl p, sJk, sJk] [] t (sK 36 67 70 [.inr (.inr (6, (some 0))), .inr (.inr (8, (some o))), .inl p, .inl (szF M l s1), .inl (bz ((snd (oB M o)).isSome)), .inr (.inr (7, (some (oM M o)))), sJk, sJk, sJk, sJk] [] Q) →
    X 67 8 [.inr (.inr (6, (some 0))), .inr (.inr (8, (some o))), .inl p, .inl s1, .inl (io k), sJk, sJk, sJk, sJk, sJk] [] t Q
  | [], k, s1, hW, ho, hD, _, q => by
    have e := Dr_n hD
    subst e
    exact n67_8e hW ho q
  | x :: l, k, s1, hW, ho, hD, hx, q => by
    obtain ⟨hk, hg, hD2⟩ := Dr_c hD
    have hl : ∀ y, y ∈ l → y < n ∧ mA M 19 y = 1 := fun y hy => hx y (List.mem_cons_of_mem x hy)
    exact n67_8k hW hk hg (hx x List.mem_cons_self).1 ho (hx x List.mem_cons_self).2 (w67_8 l (k + 1) _ hW ho hD2 hl q)
theorem w67 {V : TV} (hW : Wc t M n T L A B) (ho : o < n) (hP : Pb M n) (hS : Sq M n K) (hK : K + L.length < 1000000) (hT : T + L.length < 4095) (hN : L.Nodup) (hv : tv t = V) (hV : ∀ x d, V.2.2.1 x = some d → x ∈ L → d < 3) (hx : ∀ y, y ∈ L → y < n ∧ mA M 19 y = 1)
    (q : ∀ t', Wc t' (tlG M n o (szF M L (mA M 15 o)) ((snd (oB M o)).isSome) V 0 (oM M o) L (tkF (crF M n (oB M o) p) o (szF M L (mA M 15 o))) T) n (tlU V L T) L A B → ep t' = ep t → Q (.inl none) t') :
    X 67 0 [.inr (.inr (6, (some 0))), .inr (.inr (8, (some o))), .inl p, sJk, sJk, sJk, sJk, sJk, sJk, sJk] [] t Q := by
  refine n67_0 hW ho (w67_8 L 0 _ hW ho (Dr_0 L) hx ?_)
  refine w36 hW (W_oB hW ho) (fun t1 h1 e1 v1 => ?_)
  refine sK_v (pc' := 73) rfl ?_
  refine n67_73 h1 ho ?_
  refine w33 h1 ho (fun t2 h2 e2 v2 => ?_)
  refine sK_v (pc' := 82) rfl ?_
  refine n67_82 h2 ho ?_
  refine w67_run hP ho hV L 0 _ _ T K _ _ _ t2 h2 (Fr_tkF (Fr_crF (Fr.refl M))) (Sq_tkF (Sq_crF hS)) hK hT (W_oM hW ho) (v2.trans (v1.trans hv)) (Dr_0 L) hN (fun y hy => ⟨(hx y hy).1, hy, st_tkF.trans (st_crF.trans (hx y hy).2)⟩) (fun t' g1 g2 g3 => q t' g1 (g2.trans (e2.trans e1)))
/-! what is gathered -/
theorem W_lf (hW : Wc t M n T L A B) (hL : LL t' T n L' A B) (hl : L'.length ≤ 200) (hf : lf t t') : Wc t' M n T L' A B :=
  ⟨Rl_lf hf hW.1, Sf_lf hf hL hW.2.1, hW.2.2.1, rlC_lf hf hW.2.2.2.1, hL, hl⟩
theorem w255 (hW : Wc t M n T L A B) (q : ∀ t', Wc t' M n T [] A B → ep t' = ep t → tv t' = tv t → Q (.inl none) t') : X 255 0 [.inr (.inr (13, (some 2))), sJk, sJk, sJk] [] t Q :=
  y_clear hW.2.2.2.2.1 (by have := W_T hW; omega) (by have := W_n hW; omega) (fun t' h1 h2 => q t' (W_lf hW h1 (Nat.zero_le _) h2) (ep_lf h2) (tv_lf h2))
theorem w254 (hW : Wc t M n T L A B) (hl : L.length < 200) (q : ∀ t', Wc t' M n T (L ++ [x]) A B → lf t t' → Q (.inl (some (.inl (bz true)))) t') : X 254 0 [.inr (.inr (13, (some 2))), .inr (.inr (8, (some x)))] [] t Q :=
  y_takes hW.2.2.2.2.1 (by have := W_T hW; omega) (by have := W_n hW; omega) hl (fun t' h1 h2 => q t' (W_lf hW h1 (by rw [List.length_append]; exact hl) h2) h2)
def olG (M : sM) (n i : Nat) (s : Bool) : Option Nat := bif decide (mA M 0 i = 2) then bsF M n i s else none
/-- the order that a leg takes -/
def olF (M : sM) (n : Nat) (c : Int32) (s : Bool) : Option Nat :=
  if c = 0 then none else if c = 1 then olG M n 0 (!s) else if c = 2 then olG M n 1 (!s) else if c = 3 then olG M n 2 (!s) else if c = 4 then olG M n 3 (!s) else if c = 5 then olG M n 4 (!s) else if c = -2 then olG M n 1 s else if c = -3 then olG M n 2 s else if c = -4 then olG M n 3 s else olG M n 4 s
theorem bs_z : (bif s then (bsF M n b true) else (bsF M n b false)) = bsF M n b s := by cases s <;> rfl
theorem bs_nz : (bif (!s) then (bsF M n b true) else (bsF M n b false)) = bsF M n b (!s) := by cases s <;> rfl
theorem sLeg_in {i : Nat} : sLeg.getD i 0 = 0 ∨ sLeg.getD i 0 = 1 ∨ sLeg.getD i 0 = 2 ∨ sLeg.getD i 0 = 3 ∨ sLeg.getD i 0 = 4 ∨ sLeg.getD i 0 = 5 ∨ sLeg.getD i 0 = -2 ∨ sLeg.getD i 0 = -3 ∨ sLeg.getD i 0 = -4 ∨ sLeg.getD i 0 = -5 := by
  by_cases h : i < 45
  · exact (by decide : ∀ i, i < 45 → sLeg.getD i 0 = 0 ∨ sLeg.getD i 0 = 1 ∨ sLeg.getD i 0 = 2 ∨ sLeg.getD i 0 = 3 ∨ sLeg.getD i 0 = 4 ∨ sLeg.getD i 0 = 5 ∨ sLeg.getD i 0 = -2 ∨ sLeg.getD i 0 = -3 ∨ sLeg.getD i 0 = -4 ∨ sLeg.getD i 0 = -5) i h
  · left
    rw [List.getD_eq_getElem?_getD, List.getElem?_eq_none (show sLeg.length ≤ i from Nat.le_of_not_lt h)]
    rfl
theorem w79 {i : Nat} (hW : Wc t M n T L A B) (q : Q (.inl (some (.inr (.inr (8, olF M n (sLeg.getD i 0) s))))) t) : X 79 0 [.inr (.inr (10, (some 0))), .inl (sLeg.getD i 0), .inl (bz s), sJk] [] t Q := by
  rcases sLeg_in (i := i) with e | e | e | e | e | e | e | e | e | e <;> rw [e] at q ⊢
  · exact n79_0 hW q
  · exact n79_1 hW (by rw [bs_nz]; exact q)
  · exact n79_2 hW (by rw [bs_nz]; exact q)
  · exact n79_3 hW (by rw [bs_nz]; exact q)
  · exact n79_4 hW (by rw [bs_nz]; exact q)
  · exact n79_5 hW (by rw [bs_nz]; exact q)
  · exact n79_m2 hW (by rw [bs_z]; exact q)
  · exact n79_m3 hW (by rw [bs_z]; exact q)
  · exact n79_m4 hW (by rw [bs_z]; exact q)
  · exact n79_m5 hW (by rw [bs_z]; exact q)
def gaL (M : sM) (n b w : Nat) (s : Bool) : Nat → List Nat
  | 0 => []
  | k + 1 => gaL M n b w s k ++ (olF M n (sLeg.getD ((b * 3 + w) * 3 + k) 0) s).toList
theorem gaL_len : ∀ k, (gaL M n b w s k).length ≤ k
  | 0 => Nat.le_refl 0
  | k + 1 => by
    have ih := gaL_len k
    show (gaL M n b w s k ++ (olF M n (sLeg.getD ((b * 3 + w) * 3 + k) 0) s).toList).length ≤ k + 1
    rw [List.length_append]
    cases olF M n (sLeg.getD ((b * 3 + w) * 3 + k) 0) s with
    | none => exact Nat.le_succ_of_le ih
    | some x => exact Nat.succ_le_succ ih
theorem w57_run (ho : o < n) (hw : w < 3) : ∀ (d k : Nat) (y0 : sV) (t : sT), k + d = 3 → Wc t M n T (gaL M n (oB M o) w (mB M 3 o) k) A B →
    (∀ t', Wc t' M n T (gaL M n (oB M o) w (mB M 3 o) 3) A B → ep t' = ep t → tv t' = tv t → Q (.inl none) t') →
    X 57 47 [.inr (.inr (6, (some 0))), .inr (.inr (8, (some o))), .inl (io w), .inl (io k), y0] [] t Q
  | 0, k, y0, t, e, hW, q => by
    have e : k = 3 := by omega
    subst e
    exact n57_e hW (q t hW rfl rfl)
  | d + 1, k, y0, t, e, hW, q => by
    have hk : k < 3 := by omega
    refine n57_47 hW ho hk ?_
    refine n80 hW (W_oB hW ho) hw hk ?_
    refine sK_i (pc' := 69) rfl ?_
    rw [show sA t 28 0 ((((oB M o) * 3) + w) * 3 + k) = sLeg.getD (((oB M o) * 3 + w) * 3 + k) 0 from (hW.2.1.1.2.2.2.2.2 _).1]
    refine n57_69 hW ho hk ?_
    refine w79 hW ?_
    refine sK_i (pc' := 76) rfl ?_
    have e1 : gaL M n (oB M o) w (mB M 3 o) (k + 1) = gaL M n (oB M o) w (mB M 3 o) k ++ (olF M n (sLeg.getD ((oB M o * 3 + w) * 3 + k) 0) (mB M 3 o)).toList := rfl
    cases hc : olF M n (sLeg.getD ((oB M o * 3 + w) * 3 + k) 0) (mB M 3 o) with
    | none =>
      refine n57_76n hW ho hk ?_
      rw [hc] at e1
      refine w57_run ho hw d (k + 1) _ t (by omega) (by rw [e1]; show Wc t M n T (gaL M n (oB M o) w (mB M 3 o) k ++ []) A B; rw [List.append_nil]; exact hW) q
    | some x =>
      refine n57_76s (y0 := y0) hW ho hk ?_
      rw [hc] at e1
      refine w254 hW (Nat.lt_of_le_of_lt (gaL_len k) (by omega)) (fun t1 h1 f1 => ?_)
      refine sK_i (pc' := 92) rfl ?_
      refine n57_92 (y0 := y0) h1 ho hk ?_
      refine w57_run ho hw d (k + 1) _ t1 (by omega) (by rw [e1]; exact h1) (fun t' g1 g2 g3 => q t' g1 (g2.trans (ep_lf f1)) (g3.trans (tv_lf f1)))
/-- the resting orders of a book and side, the best one first -/
def Cl (M : sM) (n b : Nat) (s : Bool) (l : List Nat) : Prop := l.Pairwise (btr M s) ∧ ∀ o, o ∈ l ↔ rst M n b s o
def lvF (M : sM) : List Nat → List Nat
  | [] => []
  | h :: l => (h :: l).takeWhile (fun x => decide (mA M 14 x = mA M 14 h))
theorem nd_len : ∀ (n : Nat) (l : List Nat), l.Nodup → (∀ x, x ∈ l → x < n) → l.length ≤ n
  | 0, l, _, h => by
    cases l with
    | nil => exact Nat.le_refl 0
    | cons x l => exact absurd (h x List.mem_cons_self) (Nat.not_lt_zero x)
  | n + 1, l, hN, h => by
    have ih := nd_len n (l.erase n) (hN.erase n) (fun x hx => by
      have h1 := (hN.mem_erase_iff).mp hx
      have := h x h1.2
      have := h1.1
      omega)
    by_cases hm : n ∈ l
    · have := List.length_erase_of_mem hm
      omega
    · rw [List.erase_of_not_mem hm] at ih
      omega
theorem w58_run (ho : o < n) : ∀ (l pf : List Nat) (r : Option Nat) (t : sT), Wc t M n T pf A B → Lk t r l → (∀ x, x ∈ l → x < n) → pf.length + l.length ≤ 200 →
    (∀ t', Wc t' M n T (pf ++ l.takeWhile (fun x => decide (mA M 14 x = mA M 14 o))) A B → ep t' = ep t → tv t' = tv t → Q (.inl none) t') →
    X 58 2 [.inr (.inr (6, (some 0))), .inr (.inr (8, (some o))), .inr (.inr (8, r))] [] t Q
  | [], pf, r, t, hW, hK, _, _, q => by
    have e : r = none := hK
    subst e
    refine n58_n hW ho (q t ?_ rfl rfl)
    rw [List.takeWhile_nil, List.append_nil]; exact hW
  | x :: l, pf, r, t, hW, hK, hx, hlen, q => by
    obtain ⟨e, hK2⟩ := hK
    subst e
    have hlen2 : pf.length + (l.length + 1) ≤ 200 := hlen
    refine n58_k hW ho (hx x List.mem_cons_self) (fun h => ?_) (fun h => ?_)
    · refine q t ?_ rfl rfl
      rw [List.takeWhile_cons, decide_eq_false h]
      show Wc t M n T (pf ++ []) A B
      rw [List.append_nil]; exact hW
    · rw [List.takeWhile_cons, decide_eq_true h] at q
      refine w254 hW (by omega) (fun t1 h1 f1 => ?_)
      refine sK_i (pc' := 25) rfl ?_
      refine n58_c h1 ho (hx x List.mem_cons_self) ?_
      have e5 : ∀ r l, Lk t r l → Lk t1 r l := fun r l h => Lk_fr (fun o _ => by rw [f1.2.2.1 529 (by decide)]) h
      rw [show sR t1 529 x = sR t 529 x by rw [f1.2.2.1 529 (by decide)]]
      refine w58_run ho l (pf ++ [x]) _ t1 h1 (e5 _ _ hK2) (fun y hy => hx y (List.mem_cons_of_mem x hy)) (by rw [List.length_append]; show pf.length + 1 + l.length ≤ 200; omega) (fun t' g1 g2 g3 => q t' ?_ (g2.trans (ep_lf f1)) (g3.trans (tv_lf f1)))
      rw [List.append_assoc] at g1
      exact g1
theorem btr_nd (h : l.Pairwise (btr M s)) : l.Nodup := h.imp (fun {a b} h e => by rw [e] at h; exact btr_irr b h)
theorem w58 (hW : Wc t M n T [] A B) (hb : b < 5) (hs : bsF M n b s = some o)
    (q : ∀ t' l, Cl M n b s (o :: l) → Wc t' M n T (lvF M (o :: l)) A B → ep t' = ep t → tv t' = tv t → Q (.inl none) t') :
    X 58 0 [.inr (.inr (6, (some 0))), .inr (.inr (8, (some o))), sJk] [] t Q := by
  obtain ⟨l, h1, h2, h3⟩ := hW.2.2.2.1 b s hb
  have e := bsF_hd h2 h3
  rw [hs] at e
  cases l with
  | nil => cases e
  | cons x l =>
    cases e
    have ho : o < n := ((h3 o).mp List.mem_cons_self).1
    have hr : hd t b s = some o := Lk_hd h1
    rw [hr] at h1
    have hn : ∀ x, x ∈ o :: l → x < n := fun x hx => ((h3 x).mp hx).1
    refine n58_0 hW ho ?_
    refine w58_run ho (o :: l) [] _ t hW h1 hn (by have := nd_len n _ (btr_nd h2) hn; have := W_n hW; show 0 + (o :: l).length ≤ 200; omega) (fun t' g1 g2 g3 => q t' l ⟨h2, h3⟩ g1 g2 g3)
theorem w57 (hW : Wc t M n T L A B) (ho : o < n) (hw : w < 3) (hne : w = 0 → mB M 0 (oB M o) = true → ∃ x, bsF M n (oB M o) (!(mB M 3 o)) = some x)
    (q1 : ¬ (w = 0 ∧ mB M 0 (oB M o) = true) → ∀ t', Wc t' M n T (gaL M n (oB M o) w (mB M 3 o) 3) A B → ep t' = ep t → tv t' = tv t → Q (.inl none) t')
    (q2 : w = 0 → mB M 0 (oB M o) = true → ∀ t' x l, Cl M n (oB M o) (!(mB M 3 o)) (x :: l) → Wc t' M n T (lvF M (x :: l)) A B → ep t' = ep t → tv t' = tv t → Q (.inl none) t') :
    X 57 0 [.inr (.inr (6, (some 0))), .inr (.inr (8, (some o))), .inl (io w), sJk, sJk] [] t Q := by
  refine n57_0 hW ?_
  refine w255 hW (fun t1 h1 e1 v1 => ?_)
  refine sK_v (pc' := 7) rfl ?_
  by_cases hw0 : w = 0
  · subst hw0
    have lev : ∀ s', s' = !(mB M 3 o) → mB M 0 (oB M o) = true → X 58 0 [.inr (.inr (6, (some 0))), .inr (.inr (8, (bsF M n (oB M o) s'))), sJk] [] t1 (sK 58 57 41 [.inr (.inr (6, (some 0))), .inr (.inr (8, (some o))), .inl 0, sJk, sJk] [] Q) := by
      intro s' es hsh
      subst es
      obtain ⟨x, hx⟩ := hne rfl hsh
      have hx2 := hx
      rw [hx]
      refine w58 h1 (W_oB hW ho) hx2 (fun t2 l g1 g2 g3 g4 => ?_)
      refine sK_v (pc' := 44) rfl ?_
      exact n57_44 (w := 0) (q2 rfl hsh t2 x l g1 g2 (g3.trans e1) (g4.trans v1))
    refine n57_7z h1 ho (fun h => ?_) (fun h h2 => ?_) (fun h h2 => ?_)
    · refine w57_run ho (by decide) 3 0 _ t1 rfl h1 (fun t' g1 g2 g3 => q1 (fun e => ?_) t' g1 (g2.trans e1) (g3.trans v1))
      rw [h] at e; cases e.2
    · exact lev false (by rw [h2]; rfl) h
    · exact lev true (by rw [h2]; rfl) h
  · refine n57_7 h1 ho (Nat.pos_of_ne_zero hw0) hw ?_
    exact w57_run ho hw 3 0 _ t1 rfl h1 (fun t' g1 g2 g3 => q1 (fun e => hw0 e.1) t' g1 (g2.trans e1) (g3.trans v1))
end S56
