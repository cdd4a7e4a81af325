/-! the class's matching, put together: lists, plans, trades -/
section S55
variable {t t' : sT} {M M' M0 : sM} {n T T' A B b c m o k x y K w : Nat} {p a : Int32} {s z : Bool} {L L' l : List Nat} {Q : sRs → sT → Prop}
abbrev TV : Type := (Nat → Int32) × (Nat → Int32) × (Nat → Option Nat) × (Nat → Int32)
theorem W_np (hW : Wc t M n T L A B) (h1 : Rl t' M' n T) (h2 : np t' = np t) (h3 : rlC t' M' n) (f : Fc M' M) : Wc t' M' n T L A B :=
  ⟨h1, Sf_fc f (Sf_np h2 hW.2.1), f.ri hW.2.2.1, h3, LL_np h2 (Sf_C8 hW.2.1) hW.2.2.2.2.1, hW.2.2.2.2.2⟩
theorem W_eq (e : M = M') (h : Wc t M n T L A B) : Wc t M' n T L A B := e ▸ h
theorem W_R (hW : Wc t M n T L A B) : Ri M n := hW.2.2.1
theorem W_oM (hW : Wc t M n T L A B) (ho : o < n) : oM M o < 6 := gm6 hW.2.2.1 ho
theorem W_oB (hW : Wc t M n T L A B) (ho : o < n) : oB M o < 5 := gb5 hW.2.2.1 ho
theorem W_n (hW : Wc t M n T L A B) : n ≤ 200 := hW.2.2.1.2.1
theorem W_T (hW : Wc t M n T L A B) : T < 4096 := Sf_T4 hW.2.1
theorem w30 (hW : Wc t M n T L A B) (ho : o < n) (q : ∀ t', Wc t' (cnF M o) n T L A B → ep t' = ep t → tv t' = tv t → Q (.inl none) t') : X 30 0 [.inr (.inr (4, (some 0))), .inr (.inr (8, (some o)))] [] t Q :=
  c30 hW.1 hW.2.1 hW.2.2.1 ho hW.2.2.2.1 (fun t' h1 h2 h3 => q t' (W_np hW h1 h2 h3 (Fc_cnF (Fc.refl M))) (ep_np h2) (tv_np h2))
theorem w36 (hW : Wc t M n T L A B) (hb : b < 5) (q : ∀ t', Wc t' (crF M n b p) n T L A B → ep t' = ep t → tv t' = tv t → Q (.inl none) t') : X 36 0 [.inr (.inr (4, (some 0))), .inr (.inr (1, (some b))), .inl p, sJk, sJk] [] t Q :=
  c36 hW.1 hW.2.1 hW.2.2.1 hb (fun t' h1 h2 h3 => q t' (W_np hW h1 h2 (rlC_cr hW.2.2.2.1 h3) (Fc_crF (Fc.refl M))) (ep_np h2) (tv_np h2))
theorem w33 (hW : Wc t M n T L A B) (ho : o < n) (q : ∀ t', Wc t' (tkF M o a) n T L A B → ep t' = ep t → tv t' = tv t → Q (.inl none) t') : X 33 0 [.inr (.inr (4, (some 0))), .inr (.inr (8, (some o))), .inl a] [] t Q :=
  c33 hW.1 hW.2.1 hW.2.2.1 ho (fun t' h1 h2 h3 => by
    rw [ctk_tk] at h1
    exact q t' (W_np hW h1 h2 (rlC_fr hW.2.2.2.1 h3 rfl rfl rfl rfl rfl) (Fc_tkF (Fc.refl M))) (ep_np h2) (tv_np h2))
theorem w35 (hW : Wc t M n T L A B) (ho : o < n) (hP : Pb M n) (hS : Sp M n) (hs : mA M 19 o = 1) (q : ∀ t', Wc t' (flF M o a) n T L A B → ep t' = ep t → tv t' = tv t → Q (.inl none) t') : X 35 0 [.inr (.inr (4, (some 0))), .inr (.inr (8, (some o))), .inl a] [] t Q :=
  c35 hW.1 hW.2.1 hW.2.2.1 ho hW.2.2.2.1 hP hS hs (fun t' h1 h2 h3 => q t' (W_np hW h1 h2 h3 (Fc_flF (Fc.refl M))) (ep_np h2) (tv_np h2))
theorem w34 (hW : Wc t M n T L A B) (ho : o < n) (hs : mA M 19 o = 1) (q : ∀ t', Wc t' (ofF M o a) n T L A B → ep t' = ep t → tv t' = tv t → Q (.inl none) t') : X 34 0 [.inr (.inr (4, (some 0))), .inr (.inr (8, (some o))), .inl a] [] t Q :=
  c34 hW.1 hW.2.1 hW.2.2.1 ho hW.2.2.2.1 hs (fun t' h1 h2 h3 => q t' (W_np hW h1 h2 h3 (Fc_ofF (Fc.refl M))) (ep_np h2) (tv_np h2))
theorem w45 (hW : Wc t M n T L A B) (hc3 : c < 3) (hm : m < 6) (ho : o < 6) (hT4 : T + 1 < 4096) (q : ∀ t', Wc t' (mkF M T c m o p a false) n (T + 1) L A B → ep t' = ep t → tv t' = tv t → Q (.inl none) t') : X 45 0 [.inr (.inr (5, (some 0))), .inr (.inr (2, (some c))), .inr (.inr (7, (some m))), .inr (.inr (7, (some o))), .inl p, .inl a, sJk] [] t Q :=
  c45 hW.1 hW.2.1 hW.2.2.1 hW.2.2.2.2.1 hW.2.2.2.1 hW.2.2.2.2.2 hc3 hm ho hT4 (fun t' h1 h2 h3 h4 h5 h6 => q t' ⟨h1, h2, (Fr_mkF (Fr.refl M)).ri hW.2.2.1, h6, h3, hW.2.2.2.2.2⟩ h4 h5)
theorem w46 (hW : Wc t M n T L A B) (hc3 : c < 3) (hm : m < 6) (ho : o < 6) (hT4 : T + 1 < 4096) (q : ∀ t', Wc t' (mkF M T c m o p a true) n (T + 1) L A B → ep t' = ep t → tv t' = tv t → Q (.inl none) t') : X 46 0 [.inr (.inr (5, (some 0))), .inr (.inr (2, (some c))), .inr (.inr (7, (some m))), .inr (.inr (7, (some o))), .inl p, .inl a] [] t Q :=
  c46 hW.1 hW.2.1 hW.2.2.1 hW.2.2.2.2.1 hW.2.2.2.1 hW.2.2.2.2.2 hc3 hm ho hT4 (fun t' h1 h2 h3 h4 h5 h6 => q t' ⟨h1, h2, (Fr_mkF (Fr.refl M)).ri hW.2.2.1, h6, h3, hW.2.2.2.2.2⟩ h4 h5)
/-- the trades of two orders of a book -/
def dbF (M : sM) (T b m o : Nat) (p a : Int32) : sM := match snd b with
  | none => mkF M T (fst b) m o p a true
  | some d => mkF (mkF M T d o m (mA M 1 d) a false) (T + 1) (fst b) m o ((mA M 1 d) + p) a false
def dbT (b T : Nat) : Nat := match snd b with
  | none => T + 1
  | some _ => T + 2
theorem w47 (hW : Wc t M n T L A B) (hb : b < 5) (hm : m < 6) (ho : o < 6) (hT4 : T + 2 < 4096) (q : ∀ t', Wc t' (dbF M T b m o p a) n (dbT b T) L A B → ep t' = ep t → tv t' = tv t → Q (.inl none) t') : X 47 0 [.inr (.inr (5, (some 0))), .inr (.inr (1, (some b))), .inr (.inr (7, (some m))), .inr (.inr (7, (some o))), .inl p, .inl a, sJk] [] t Q := by
  refine n47_0 hW hb ?_ ?_
  · intro j h
    have hj : j < 3 := snd3 hb h
    have e1 : dbF M T b m o p a = mkF (mkF M T j o m (mA M 1 j) a false) (T + 1) (fst b) m o ((mA M 1 j) + p) a false := by unfold dbF; rw [h]
    have e2 : dbT b T = T + 2 := by unfold dbT; rw [h]
    rw [e1, e2] at q
    refine w45 hW hj ho hm (by omega) (fun t1 h1 e1 v1 => ?_)
    refine sK_v (pc' := 56) rfl ?_
    refine n47_56 h1 hb ?_
    refine w45 h1 (fst3 hb) hm ho (by omega) (fun t2 h2 e2 v2 => ?_)
    refine sK_v (pc' := 73) rfl ?_
    exact n47_73 (q t2 h2 (e2.trans e1) (v2.trans v1))
  · intro h
    have e1 : dbF M T b m o p a = mkF M T (fst b) m o p a true := by unfold dbF; rw [h]
    have e2 : dbT b T = T + 1 := by unfold dbT; rw [h]
    rw [e1, e2] at q
    refine w45 hW (fst3 hb) hm ho (by omega) (fun t1 h1 e1 v1 => ?_)
    refine sK_v (pc' := 21) rfl ?_
    refine n47_21 h1 hb ?_
    have g : np (sIw t1 129 (fst b) p) = np t1 := np_I rfl
    exact q _ (W_eq mk_mark (W_np h1 (Rl_m1 h1.1) g (rlC_m1 h1.2.2.2.1) Fc_m1)) ((ep_np g).trans e1) ((tv_np g).trans v1)
/-! lists: what is left of one from a place on -/
def Dr (L : List Nat) (k : Nat) (l : List Nat) : Prop := k ≤ L.length ∧ L.drop k = l
theorem Dr_0 (L : List Nat) : Dr L 0 L := ⟨Nat.zero_le _, rfl⟩
theorem Dr_n (h : Dr L k []) : k = L.length := Nat.le_antisymm h.1 (List.drop_eq_nil_iff.mp h.2)
theorem Dr_c (h : Dr L k (x :: l)) : k < L.length ∧ L.getD k 0 = x ∧ Dr L (k + 1) l := by
  have h1 : k < L.length := by
    rcases Nat.lt_or_ge k L.length with g | g
    · exact g
    · have e := List.drop_eq_nil_iff.mpr g
      rw [h.2] at e; cases e
  have h2 := List.drop_eq_getElem_cons h1
  rw [h.2] at h2
  injection h2 with e1 e2
  refine ⟨h1, ?_, h1, e2.symm⟩
  rw [List.getD_eq_getElem?_getD, List.getElem?_eq_getElem h1]
  exact e1.symm
/-! what is planned for the orders taken -/
theorem tv_526 {v : Int32} : tv (sIw t 526 x v) = (sU1 (tv t).1 x v, (tv t).2) := by
  refine Prod.ext (funext fun y => ?_) rfl
  show (if 526 = 526 ∧ y = x then v else sI t 526 y) = if y = x then v else sI t 526 y
  by_cases e : y = x
  · rw [if_pos ⟨rfl, e⟩, if_pos e]
  · rw [if_neg (fun e2 => e e2.2), if_neg e]
theorem tv_528 {v : Int32} : tv (sIw t 528 x v) = ((tv t).1, sU1 (tv t).2.1 x v, (tv t).2.2) := by
  refine Prod.ext rfl (Prod.ext (funext fun y => ?_) rfl)
  show (if 528 = 528 ∧ y = x then v else sI t 528 y) = if y = x then v else sI t 528 y
  by_cases e : y = x
  · rw [if_pos ⟨rfl, e⟩, if_pos e]
  · rw [if_neg (fun e2 => e e2.2), if_neg e]
theorem tv_527 {v : Option Nat} : tv (sRw t 527 x v) = ((tv t).1, (tv t).2.1, sU1 (tv t).2.2.1 x v, (tv t).2.2.2) := by
  refine Prod.ext rfl (Prod.ext rfl (Prod.ext (funext fun y => ?_) rfl))
  show (if 527 = 527 ∧ y = x then v else sR t 527 y) = if y = x then v else sR t 527 y
  by_cases e : y = x
  · rw [if_pos ⟨rfl, e⟩, if_pos e]
  · rw [if_neg (fun e2 => e e2.2), if_neg e]
theorem W_526 {v : Int32} (hW : Wc t M n T L A B) : Wc (sIw t 526 x v) M n T L A B :=
  ⟨Rl_t rfl hW.1, Sf_tI rfl hW.2.1, hW.2.2.1, rlC_fr hW.2.2.2.1 rfl rfl rfl rfl rfl rfl, LL_tI rfl hW.2.2.2.2.1, hW.2.2.2.2.2⟩
theorem W_528 {v : Int32} (hW : Wc t M n T L A B) : Wc (sIw t 528 x v) M n T L A B :=
  ⟨Rl_t rfl hW.1, Sf_tI rfl hW.2.1, hW.2.2.1, rlC_fr hW.2.2.2.1 rfl rfl rfl rfl rfl rfl, LL_tI rfl hW.2.2.2.2.1, hW.2.2.2.2.2⟩
theorem W_527 {v : Option Nat} (hW : Wc t M n T L A B) : Wc (sRw t 527 x v) M n T L A B :=
  ⟨Rl_R hW.1, Sf_tR hW.2.1, hW.2.2.1, rlC_fr hW.2.2.2.1 (qp_R rfl) rfl rfl rfl rfl rfl, LL_tR hW.2.2.2.2.1, hW.2.2.2.2.2⟩
theorem ep_R527 {v : Option Nat} : ep (sRw t 527 x v) = ep t := rfl
/-! the orders of its own member are withdrawn -/
def ownF (m : Nat) : List Nat → sM → sM
  | [], M => M
  | x :: l, M => ownF m l (bif decide (oM M x = m) then cnF M x else M)
def ownB (M : sM) (m : Nat) (l : List Nat) : Bool := l.any (fun x => decide (oM M x = m))
theorem ownB_fr (h : oM M' = oM M) : ownB M' m l = ownB M m l := by unfold ownB; rw [h]
theorem oM_cn : oM (cnF M o) = oM M := rfl
theorem w59_run : ∀ (l : List Nat) (k : Nat) (z : Bool) (M : sM) (t : sT), Wc t M n T L A B → Dr L k l → (∀ x, x ∈ l → x < n) →
    (∀ t', Wc t' (ownF m l M) n T L A B → ep t' = ep t → tv t' = tv t → Q (.inl (some (.inl (bz (z || ownB M m l))))) t') →
    X 59 4 [.inr (.inr (6, (some 0))), .inr (.inr (7, (some m))), .inl (bz z), .inl (io k)] [] t Q
  | [], k, z, M, t, hW, hD, _, q => by
    have e := Dr_n hD
    subst e
    refine n59_e hW ?_
    have := q t hW rfl rfl
    rw [show (z || ownB M m []) = z from by cases z <;> rfl] at this
    exact this
  | x :: l, k, z, M, t, hW, hD, hx, q => by
    obtain ⟨hk, hg, hD2⟩ := Dr_c hD
    have hxn := hx x List.mem_cons_self
    have hl : ∀ y, y ∈ l → y < n := fun y hy => hx y (List.mem_cons_of_mem x hy)
    have e1 : ownF m (x :: l) M = ownF m l (bif decide (oM M x = m) then cnF M x else M) := rfl
    have e2 : ownB M m (x :: l) = (decide (oM M x = m) || ownB M m l) := rfl
    rw [e1, e2] at q
    refine n59_k hW hk hg hxn (fun h => ?_) (fun h => ?_)
    · rw [decide_eq_false h] at q
      refine w59_run l (k + 1) z M t hW hD2 hl (fun t' g1 g2 g3 => ?_)
      exact q t' g1 g2 g3
    · rw [decide_eq_true h] at q
      refine w30 hW hxn (fun t1 h1 e1 v1 => ?_)
      refine sK_v (pc' := 51) rfl ?_
      refine n59_c h1 hk hg hxn ?_
      refine w59_run l (k + 1) true (cnF M x) t1 h1 hD2 hl (fun t' g1 g2 g3 => ?_)
      have := q t' g1 (g2.trans e1) (g3.trans v1)
      rw [show (z || (true || ownB M m l)) = (true || ownB (cnF M x) m l) from by cases z <;> rfl] at this
      exact this
theorem w59 (hW : Wc t M n T L A B) (hx : ∀ x, x ∈ L → x < n)
    (q : ∀ t', Wc t' (ownF m L M) n T L A B → ep t' = ep t → tv t' = tv t → Q (.inl (some (.inl (bz (ownB M m L))))) t') :
    X 59 0 [.inr (.inr (6, (some 0))), .inr (.inr (7, (some m))), sJk, sJk] [] t Q :=
  n59_0 hW (w59_run L 0 false M t hW (Dr_0 L) hx q)
/-! the plan: contracts and prices -/
def pcV (M : sM) : Nat → Int32 → List Nat → TV → TV
  | _, _, [], V => V
  | c, p, x :: l, V => match snd (oB M x) with
    | none => pcV M c p l (V.1, sU1 V.2.1 x p, sU1 V.2.2.1 x (some c), V.2.2.2)
    | some j => pcV M (bif decide (fst (oB M x) = c) then j else fst (oB M x)) (p + (bif decide (fst (oB M x) = c) then (-(mA M 14 x)) else (mA M 14 x))) l (V.1, sU1 V.2.1 x p, sU1 V.2.2.1 x (some c), V.2.2.2)
theorem w61_run : ∀ (l : List Nat) (k c : Nat) (p : Int32) (y0 y1 : sV) (t : sT), Wc t M n T L A B → Dr L k l → (∀ x, x ∈ l → x < n) →
    (∀ t', Wc t' M n T L A B → ep t' = ep t → tv t' = pcV M c p l (tv t) → Q (.inl none) t') →
    ∀ (c0 : Nat) (p0 : Int32), X 61 8 [.inr (.inr (6, (some 0))), .inr (.inr (2, (some c0))), .inl p0, .inr (.inr (2, (some c))), .inl p, .inl (io k), y0, y1] [] t Q
  | [], k, c, p, y0, y1, t, hW, hD, _, q, c0, p0 => by
    have e := Dr_n hD
    subst e
    exact n61_e hW (q t hW rfl rfl)
  | x :: l, k, c, p, y0, y1, t, hW, hD, hx, q, c0, p0 => by
    obtain ⟨hk, hg, hD2⟩ := Dr_c hD
    have hxn := hx x List.mem_cons_self
    have hl : ∀ y, y ∈ l → y < n := fun y hy => hx y (List.mem_cons_of_mem x hy)
    have hW1 : Wc (sIw (sRw t 527 x (some c)) 528 x p) M n T L A B := W_528 (W_527 hW)
    have hv : tv (sIw (sRw t 527 x (some c)) 528 x p) = ((tv t).1, sU1 (tv t).2.1 x p, sU1 (tv t).2.2.1 x (some c), (tv t).2.2.2) := by rw [tv_528, tv_527]
    have he : ep (sIw (sRw t 527 x (some c)) 528 x p) = ep t := ep_I rfl
    refine n61_k hW hk hg hxn (fun h => ?_) (fun j h => ?_)
    · refine w61_run l (k + 1) c p _ _ _ hW1 hD2 hl (fun t' g1 g2 g3 => ?_) c0 p0
      refine q t' g1 (g2.trans he) (g3.trans ?_)
      rw [hv]
      show _ = (match snd (oB M x) with
        | none => _
        | some j => _)
      rw [h]
    · have e9 : (bif (decide (fst (oB M x) = c)) then (some j) else (some (fst (oB M x)))) = some (bif decide (fst (oB M x) = c) then j else fst (oB M x)) := by
        cases decide (fst (oB M x) = c) <;> rfl
      rw [e9]
      refine w61_run l (k + 1) _ _ _ _ _ hW1 hD2 hl (fun t' g1 g2 g3 => ?_) c0 p0
      refine q t' g1 (g2.trans he) (g3.trans ?_)
      rw [hv]
      show _ = (match snd (oB M x) with
        | none => _
        | some j => _)
      rw [h]
theorem w61 (hW : Wc t M n T L A B) (hx : ∀ x, x ∈ L → x < n) (q : ∀ t', Wc t' M n T L A B → ep t' = ep t → tv t' = pcV M c p L (tv t) → Q (.inl none) t') :
    X 61 0 [.inr (.inr (6, (some 0))), .inr (.inr (2, (some c))), .inl p, sJk, sJk, sJk, sJk, sJk] [] t Q :=
  n61_0 hW (w61_run L 0 c p _ _ t hW (Dr_0 L) hx q c p)
def psV (M : sM) (b : Nat) (wz : Bool) : Nat → List Nat → TV → TV
  | _, [], V => V
  | k, x :: l, V => psV M b wz (k + 1) l (V.1, sU1 V.2.1 x (mA M 14 x), sU1 V.2.2.1 x (bif wz then none else (bif (decide (k = 0)) then (some (fst b)) else (snd b))), V.2.2.2)
theorem w60_run {w : Int32} (hb : b < 5) : ∀ (l : List Nat) (k : Nat) (y0 : sV) (t : sT), Wc t M n T L A B → Dr L k l → (∀ x, x ∈ l → x < n) →
    (∀ t', Wc t' M n T L A B → ep t' = ep t → tv t' = psV M b (decide (w = 0)) k l (tv t) → Q (.inl none) t') →
    X 60 28 [.inr (.inr (6, (some 0))), .inr (.inr (8, (some o))), .inl w, .inl p, .inr (.inr (1, (some b))), .inl (io k), y0] [] t Q
  | [], k, y0, t, hW, hD, _, q => by
    have e := Dr_n hD
    subst e
    exact n60_e hW (q t hW rfl rfl)
  | x :: l, k, y0, t, hW, hD, hx, q => by
    obtain ⟨hk, hg, hD2⟩ := Dr_c hD
    have hxn := hx x List.mem_cons_self
    have hl : ∀ y, y ∈ l → y < n := fun y hy => hx y (List.mem_cons_of_mem x hy)
    refine n60_k hW hk hg hxn hb ?_
    refine w60_run hb l (k + 1) _ _ (W_528 (W_527 hW)) hD2 hl (fun t' g1 g2 g3 => ?_)
    refine q t' g1 (g2.trans (ep_I rfl)) (g3.trans ?_)
    rw [tv_528, tv_527]
    rfl
/-- contracts and prices of the orders taken -/
def plV (M : sM) (b : Nat) (wz : Bool) (p : Int32) (L : List Nat) (V : TV) : TV := match snd b with
  | none => pcV M (fst b) p L V
  | some _ => psV M b wz 0 L V
theorem w60 {w : Int32} (hW : Wc t M n T L A B) (ho : o < n) (hx : ∀ x, x ∈ L → x < n)
    (q : ∀ t', Wc t' M n T L A B → ep t' = ep t → tv t' = plV M (oB M o) (decide (w = 0)) p L (tv t) → Q (.inl none) t') :
    X 60 0 [.inr (.inr (6, (some 0))), .inr (.inr (8, (some o))), .inl w, .inl p, sJk, sJk, sJk] [] t Q := by
  refine n60_0n hW ho (fun j h => ?_) (fun h => ?_)
  · refine w60_run (W_oB hW ho) L 0 _ t hW (Dr_0 L) hx (fun t' g1 g2 g3 => q t' g1 g2 (g3.trans ?_))
    unfold plV; rw [h]
  · refine w61 hW hx (fun t' g1 g2 g3 => ?_)
    refine sK_v (pc' := 24) rfl ?_
    refine n60_24 (q t' g1 g2 (g3.trans ?_))
    unfold plV; rw [h]
/-! the lowest contract that is too far -/
def tfB (M : sM) (d : Nat) (p : Int32) : Bool := decide (mA M 3 d < ab (p - mA M 2 d))
def ltS (M : sM) (V : TV) (f : Option Nat) (x : Nat) : Option Nat := match V.2.2.1 x with
  | none => f
  | some d => bif tfB M d (V.2.1 x) then (match f with
    | none => some d
    | some g => bif decide (d < g) then some d else some g) else f
def ltF (M : sM) (V : TV) : Option Nat → List Nat → Option Nat
  | f, [] => f
  | f, x :: l => ltF M V (ltS M V f x) l
theorem w62_run {V : TV} : ∀ (l : List Nat) (k : Nat) (f : Option Nat) (y0 y1 : sV), Wc t M n T L A B → tv t = V → Dr L k l → (∀ x, x ∈ l → x < n ∧ ∀ d, V.2.2.1 x = some d → d < 3) → (∀ j, f = some j → j < 3) →
    Q (.inl (some (.inr (.inr (2, ltF M V f l))))) t →
    X 62 4 [.inr (.inr (6, (some 0))), .inr (.inr (2, f)), .inl (io k), y0, y1] [] t Q
  | [], k, f, y0, y1, hW, hv, hD, _, _, q => by
    have e := Dr_n hD
    subst e
    exact n62_e hW q
  | x :: l, k, f, y0, y1, hW, hv, hD, hx, hf, q => by
    obtain ⟨hk, hg, hD2⟩ := Dr_c hD
    have hxn := (hx x List.mem_cons_self).1
    have hl : ∀ y, y ∈ l → y < n ∧ ∀ d, V.2.2.1 y = some d → d < 3 := fun y hy => hx y (List.mem_cons_of_mem x hy)
    have hp : sI t 528 x = V.2.1 x := congrFun (congrArg (fun v : TV => v.2.1) hv) x
    have hr : sR t 527 x = V.2.2.1 x := congrFun (congrArg (fun v : TV => v.2.2.1) hv) x
    have e1 : ltF M V f (x :: l) = ltF M V (ltS M V f x) l := rfl
    rw [e1] at q
    cases hc : V.2.2.1 x with
    | none =>
      rw [hc] at hr
      refine n62_kn hW hk hg hxn hf hp hr ?_
      refine w62_run l (k + 1) f _ _ hW hv hD2 hl hf ?_
      rw [show ltS M V f x = f by unfold ltS; rw [hc]] at q
      exact q
    | some d =>
      rw [hc] at hr
      have hd3 := (hx x List.mem_cons_self).2 d hc
      cases f with
      | none =>
        refine n62_ksn hW hk hg hxn hp hr hd3 ?_
        refine w62_run l (k + 1) _ _ _ hW hv hD2 hl ?_ ?_
        · exact obd_c (obd_s hd3) obd_n
        · rw [show ltS M V none x = (bif tfB M d (V.2.1 x) then some d else none) by unfold ltS; rw [hc]] at q
          exact q
      | some g =>
        have hg3 := hf g rfl
        refine n62_kss hW hk hg hxn hp hr hd3 hg3 ?_
        have e2 : ltS M V (some g) x = (bif tfB M d (V.2.1 x) then (bif decide (d < g) then some d else some g) else some g) := by unfold ltS; rw [hc]
        rw [e2] at q
        refine w62_run l (k + 1) _ _ _ hW hv hD2 hl ?_ q
        exact obd_c (obd_c (obd_s hd3) (obd_s hg3)) (obd_s hg3)
theorem w62 {V : TV} (hW : Wc t M n T L A B) (hv : tv t = V) (hx : ∀ x, x ∈ L → x < n ∧ ∀ d, V.2.2.1 x = some d → d < 3)
    (q : Q (.inl (some (.inr (.inr (2, ltF M V none L))))) t) : X 62 0 [.inr (.inr (6, (some 0))), sJk, sJk, sJk, sJk] [] t Q :=
  n62_0 hW (w62_run L 0 none _ _ hW hv (Dr_0 L) hx obd_n q)
/-! a halt -/
theorem w63_run (hc3 : c < 3) (ho : o < n) : ∀ (l : List Nat) (k : Nat), Wc t M n T L A B → Dr L k l → (∀ x, x ∈ l → x < n) →
    Q (.inl (some (.inl (bz (!(l.any (fun x => decide (oB M x = c)))))))) t →
    X 63 50 [.inr (.inr (6, (some 0))), .inr (.inr (2, (some c))), .inr (.inr (8, (some o))), .inl (io c), .inl (io k)] [] t Q
  | [], k, hW, hD, _, q => by
    have e := Dr_n hD
    subst e
    exact n63_e hW hc3 ho q
  | x :: l, k, hW, hD, hx, q => by
    obtain ⟨hk, hg, hD2⟩ := Dr_c hD
    have hxn := hx x List.mem_cons_self
    have hl : ∀ y, y ∈ l → y < n := fun y hy => hx y (List.mem_cons_of_mem x hy)
    have e1 : ((x :: l).any (fun x => decide (oB M x = c))) = (decide (oB M x = c) || l.any (fun x => decide (oB M x = c))) := rfl
    rw [e1] at q
    refine n63_k hW hk hg hxn hc3 ho (fun h => ?_) (fun h => ?_)
    · rw [decide_eq_false h] at q
      exact w63_run hc3 ho l (k + 1) hW hD2 hl q
    · rw [decide_eq_true h] at q
      exact q
theorem W_halt {v : Int32} (hW : Wc t M n T L A B) : Wc (sIw t 67 c v) (mAw M 0 c v) n T L A B :=
  W_np hW (Rl_I rfl hW.1) (np_I rfl) (rlC_fr hW.2.2.2.1 rfl rfl rfl rfl rfl rfl) (Fc_A rfl (Fc.refl M))
def ehB (M : sM) (c o : Nat) (L : List Nat) : Bool := decide (oB M o = c) || !(L.any (fun x => decide (oB M x = c)))
theorem w63 (hW : Wc t M n T L A B) (hc3 : c < 3) (ho : o < n) (hx : ∀ x, x ∈ L → x < n)
    (q : ∀ t', Wc t' (mAw M 0 c 3) n T L A B → ep t' = ep t → tv t' = tv t → Q (.inl (some (.inl (bz (ehB M c o L))))) t') :
    X 63 0 [.inr (.inr (6, (some 0))), .inr (.inr (2, (some c))), .inr (.inr (8, (some o))), sJk, sJk] [] t Q := by
  have hc5 : c < 5 := Nat.lt_trans hc3 (by decide)
  have k := q (sIw t 67 c 3) (W_halt hW) (ep_I rfl) (tv_I rfl)
  unfold ehB at k
  refine n63_0 hW hc3 ho (fun h => ?_) (fun h => ?_)
  · rw [decide_eq_false h] at k
    exact w63_run hc3 ho L 0 (W_halt hW) (Dr_0 L) hx k
  · rw [decide_eq_true h] at k
    exact k
end S55
