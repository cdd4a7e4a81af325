/-! the reference trades by shares; a step by shares -/
section S62
variable {t t' : sT} {M M' M0 N : sM} {n T b c m o k x y K w : Nat} {p a d h : Int32} {s z : Bool} {L L' l : List Nat} {Q : sRs → sT → Prop}
/-- trades of portions, then takes of portions -/
def mkL (M0 : sM) (o : Nat) (p : Int32) : List Nat → List Nat → sM → Nat → sM
  | x :: l, v :: V, M, T => if 0 < v then mkL M0 o p l V (dbF M T (oB M0 o) (dbM M0 o x) (dbS M0 o x) p (io v)) (dbT (oB M0 o) T) else mkL M0 o p l V M T
  | _, _, M, _ => M
def mkT (b : Nat) : List Nat → Nat → Nat
  | v :: V, T => if 0 < v then mkT b V (dbT b T) else mkT b V T
  | [], T => T
def flL : List Nat → List Nat → sM → sM
  | x :: l, v :: V, M => flL l V (if 0 < v then flF M x (io v) else M)
  | _, _, M => M
theorem Fr_mkL : ∀ (l V : List Nat) (M : sM) (T : Nat), Fr M M' → Fr (mkL M0 o p l V M T) M'
  | [], V, M, T, f => f
  | x :: l, [], M, T, f => f
  | x :: l, v :: V, M, T, f => by
    show Fr (if 0 < v then mkL M0 o p l V (dbF M T (oB M0 o) (dbM M0 o x) (dbS M0 o x) p (io v)) (dbT (oB M0 o) T) else mkL M0 o p l V M T) M'
    split
    · exact Fr_mkL l V _ _ (Fr_dbF f)
    · exact Fr_mkL l V _ _ f
theorem Fr_flL : ∀ (l V : List Nat) (M : sM), Fr M M' → Fr (flL l V M) M'
  | [], V, M, f => f
  | x :: l, [], M, f => f
  | x :: l, v :: V, M, f => by
    show Fr (flL l V (if 0 < v then flF M x (io v) else M)) M'
    split
    · exact Fr_flL l V _ (Fr_flF f)
    · exact Fr_flL l V _ f
theorem mk_T {s : Bool} : mI (mkF M T c m o p a s) 801 = io (T + 1) := rfl
theorem dbF_T : mI (dbF M T b m o p a) 801 = io (dbT b T) := by
  unfold dbF dbT
  cases snd b with
  | none => exact mk_T
  | some e => exact mk_T
theorem snd_lt (h : b < 3) : snd b = none ∧ fst b = b := by
  unfold snd fst
  exact ⟨if_pos h, if_pos h⟩
theorem mb_db (hb3 : b < 3) : mbF M T b s m o p a true = dbF M T b (bif s then m else o) (bif s then o else m) p a := by
  unfold dbF
  rw [(snd_lt hb3).1, (snd_lt hb3).2]
  rfl
theorem ms3_db : ms3F M T s m o p a = dbF M T 3 (bif s then m else o) (bif s then o else m) p a := by cases s <;> rfl
theorem ms4_db : ms4F M T s m o p a = dbF M T 4 (bif s then m else o) (bif s then o else m) p a := by cases s <;> rfl
theorem v164 (hV : Vr t M n) (hI : mI M 801 = io T) (hT4 : T + 2 ≤ 4096) (hb3 : b < 3) (hm : m < 6) (ho : o < 6) (q : ∀ t', Vr t' (dbF M T b (bif s then m else o) (bif s then o else m) p a) n → cp t' = cp t → sp t' = sp t → Q (.inl none) t') :
    X 164 0 [.inr (.inr (12, (some 0))), .inl (io b), .inl (bz s), .inl (io m), .inl (io o), .inl p, .inl a, .inl 1] [] t Q :=
  r164 (w := true) hV.1 hV.2.1 hV.2.2 hI (by omega) hb3 hm ho (fun t' h1 h2 h3 => q t' (Vr_mk hV (h1.trans (mb_db hb3)) h2 (Fr_dbF (Fr.refl M))) h2 h3)
theorem v165 (hV : Vr t M n) (hI : mI M 801 = io T) (hT4 : T + 2 ≤ 4096) (hb5 : b < 5) (hb3 : ¬ b < 3) (hm : m < 6) (ho : o < 6) (q : ∀ t', Vr t' (dbF M T b (bif s then m else o) (bif s then o else m) p a) n → cp t' = cp t → sp t' = sp t → Q (.inl none) t') :
    X 165 0 [.inr (.inr (12, (some 0))), .inl (io b), .inl (bz s), .inl (io m), .inl (io o), .inl p, .inl a, sJk, sJk] [] t Q := by
  have e : b = 3 ∨ b = 4 := by omega
  rcases e with e | e <;> subst e
  · exact r165_3 hV.1 hV.2.1 hV.2.2 hI (by omega) hm ho (fun t' h1 h2 h3 => q t' (Vr_mk hV (h1.trans ms3_db) h2 (Fr_dbF (Fr.refl M))) h2 h3)
  · exact r165_4 hV.1 hV.2.1 hV.2.2 hI (by omega) hm ho (fun t' h1 h2 h3 => q t' (Vr_mk hV (h1.trans ms4_db) h2 (Fr_dbF (Fr.refl M))) h2 h3)
theorem v174_78 (h9 : L.length ≤ 200) (ho : o < n) (hb : oB M0 o < 5) : ∀ (l : List Nat) (k : Nat) (V : List Nat) (M : sM) (T : Nat) (y0 : sV) (t : sT), Vr t M n → Fr M M0 → TkL t L → Am t 0 L' → Am t k V → V.length = l.length → (∀ v, v ∈ V → v < 2 ^ 31) → Dr L k l → (∀ x, x ∈ l → x < n) → mI M 801 = io T → T + 2 * l.length + 2 ≤ 4096 →
    (∀ t' y0, Vr t' (mkL M0 o p l V M T) n → cp t' = cp t → TkL t' L → Am t' 0 L' →
      X 174 198 [.inr (.inr (12, (some 0))), .inl (io o), .inl p, .inl (io (oB M0 o)), .inl h, .inl a, .inl 0, y0] [] t' Q) →
    X 174 78 [.inr (.inr (12, (some 0))), .inl (io o), .inl p, .inl (io (oB M0 o)), .inl h, .inl a, .inl (io k), y0] [] t Q
  | [], k, V, M, T, y0, t, hV, hF, hT, hA0, hA, hlen, hVb, hD, _, hI, hT4, q => by
    have e := Dr_n hD
    subst e
    have e : V = [] := List.length_eq_zero_iff.mp hlen
    subst e
    exact r174_78e hV.1 hV.2.1 hV.2.2 hT h9 ho hb (q t _ hV rfl hT hA0)
  | x :: l, k, [], M, T, y0, t, hV, hF, hT, hA0, hA, hlen, hVb, hD, hx, hI, hT4, q => by cases hlen
  | x :: l, k, v :: V, M, T, y0, t, hV, hF, hT, hA0, hA, hlen, hVb, hD, hx, hI, hT4, q => by
    obtain ⟨hk, hg, hD2⟩ := Dr_c hD
    obtain ⟨ha0, hA2⟩ := Am_c hA
    have hxn := hx x List.mem_cons_self
    have hl : ∀ y, y ∈ l → y < n := fun y hy => hx y (List.mem_cons_of_mem x hy)
    have hlen2 : V.length = l.length := Nat.succ.inj hlen
    have hvb := hVb v List.mem_cons_self
    have hVb2 : ∀ u, u ∈ V → u < 2 ^ 31 := fun u hu => hVb u (List.mem_cons_of_mem v hu)
    have eB : oB M = oB M0 := oB_fr hF
    have eM : oM M = oM M0 := oM_fr hF
    have e3 : mB M 3 = mB M0 3 := hF.f3
    have em : oM M0 o < 6 := by rw [← eM]; exact gm6 hV.2.2 ho
    have ex : oM M0 x < 6 := by rw [← eM]; exact gm6 hV.2.2 hxn
    have hTl : T + 2 * (l.length + 1) + 2 ≤ 4096 := hT4
    by_cases hv : 0 < v
    · have q2 : ∀ t' y0, Vr t' (mkL M0 o p l V (dbF M T (oB M0 o) (dbM M0 o x) (dbS M0 o x) p (io v)) (dbT (oB M0 o) T)) n → cp t' = cp t → TkL t' L → Am t' 0 L' →
          X 174 198 [.inr (.inr (12, (some 0))), .inl (io o), .inl p, .inl (io (oB M0 o)), .inl h, .inl a, .inl 0, y0] [] t' Q := by
        intro t' y0 g
        refine q t' y0 ?_
        show Vr t' (if 0 < v then mkL M0 o p l V (dbF M T (oB M0 o) (dbM M0 o x) (dbS M0 o x) p (io v)) (dbT (oB M0 o) T) else mkL M0 o p l V M T) n
        rw [if_pos hv]; exact g
      have rest : ∀ t1, Vr t1 (dbF M T (oB M0 o) (dbM M0 o x) (dbS M0 o x) p (io v)) n → cp t1 = cp t → sp t1 = sp t → X 174 189 [.inr (.inr (12, (some 0))), .inl (io o), .inl p, .inl (io (oB M0 o)), .inl h, .inl a, .inl (io k), .inl (io x)] [] t1 Q := by
        intro t1 h1 c1 s1
        refine r174_189 h1.1 h1.2.1 h1.2.2 (TkL_sp s1 hT) h9 hk hg hxn ho hb ?_
        exact v174_78 h9 ho hb l (k + 1) V _ _ _ t1 h1 (Fr_dbF hF) (TkL_sp s1 hT) (Am_sp s1 hA0) (Am_sp s1 hA2) hlen2 hVb2 hD2 hl dbF_T (by have := (dbT_le (b := oB M0 o) (T := T)).1; omega) (fun t' y0 g1 g2 g3 g4 => q2 t' y0 g1 (g2.trans c1) g3 g4)
      refine r174_78k hV.1 hV.2.1 hV.2.2 hT h9 hk hg hxn ho hb (fun hn => ?_) (fun _ hb3 => ?_) (fun _ hb3 => ?_)
      · rw [ha0] at hn
        exact absurd ((io_pos hvb).mpr hv) hn
      · rw [ha0, eM, e3]
        refine v165 (m := oM M0 o) (o := oM M0 x) hV hI (by omega) hb hb3 em ex (fun t1 h1 c1 s1 => ?_)
        refine sK_v (pc' := 189) rfl ?_
        exact rest t1 h1 c1 s1
      · rw [ha0, eM, e3]
        refine v164 (m := oM M0 o) (o := oM M0 x) hV hI (by omega) hb3 em ex (fun t1 h1 c1 s1 => ?_)
        refine sK_v (pc' := 144) rfl ?_
        refine x_goto (pc' := 189) rfl rfl ?_
        exact rest t1 h1 c1 s1
    · have q2 : ∀ t' y0, Vr t' (mkL M0 o p l V M T) n → cp t' = cp t → TkL t' L → Am t' 0 L' →
          X 174 198 [.inr (.inr (12, (some 0))), .inl (io o), .inl p, .inl (io (oB M0 o)), .inl h, .inl a, .inl 0, y0] [] t' Q := by
        intro t' y0 g
        refine q t' y0 ?_
        show Vr t' (if 0 < v then mkL M0 o p l V (dbF M T (oB M0 o) (dbM M0 o x) (dbS M0 o x) p (io v)) (dbT (oB M0 o) T) else mkL M0 o p l V M T) n
        rw [if_neg hv]; exact g
      refine r174_78k hV.1 hV.2.1 hV.2.2 hT h9 hk hg hxn ho hb (fun _ => ?_) (fun hp _ => ?_) (fun hp _ => ?_)
      · exact v174_78 h9 ho hb l (k + 1) V _ _ _ t hV hF hT hA0 hA2 hlen2 hVb2 hD2 hl hI (by omega) q2
      · rw [ha0] at hp
        exact absurd ((io_pos hvb).mp hp) hv
      · rw [ha0] at hp
        exact absurd ((io_pos hvb).mp hp) hv
theorem v174_198 (h9 : L.length ≤ 200) (ho : o < n) (hb : b < 5) : ∀ (l : List Nat) (k : Nat) (V : List Nat) (M : sM) (y0 : sV) (t : sT), Vr t M n → TkL t L → Am t k V → V.length = l.length → (∀ v, v ∈ V → v < 2 ^ 31) → Dr L k l → (∀ x, x ∈ l → x < n) →
    (∀ t' y1 y0, Vr t' (ofF (flL l V M) o a) n → cp t' = cp t → X 174 248 [.inr (.inr (12, (some 0))), .inl (io o), .inl p, .inl (io b), .inl h, .inl a, y1, y0] [] t' Q) →
    X 174 198 [.inr (.inr (12, (some 0))), .inl (io o), .inl p, .inl (io b), .inl h, .inl a, .inl (io k), y0] [] t Q
  | [], k, V, M, y0, t, hV, hT, hA, hlen, hVb, hD, _, q => by
    have e := Dr_n hD
    subst e
    have e : V = [] := List.length_eq_zero_iff.mp hlen
    subst e
    refine r174_198e hV.1 hV.2.1 hV.2.2 hT h9 ho hb ?_
    refine v167 hV ho (fun t1 h1 c1 s1 => ?_)
    refine sK_v (pc' := 248) rfl ?_
    exact q t1 _ _ h1 c1
  | x :: l, k, [], M, y0, t, hV, hT, hA, hlen, hVb, hD, hx, q => by cases hlen
  | x :: l, k, v :: V, M, y0, t, hV, hT, hA, hlen, hVb, hD, hx, q => by
    obtain ⟨hk, hg, hD2⟩ := Dr_c hD
    obtain ⟨ha0, hA2⟩ := Am_c hA
    have hxn := hx x List.mem_cons_self
    have hl : ∀ y, y ∈ l → y < n := fun y hy => hx y (List.mem_cons_of_mem x hy)
    have hlen2 : V.length = l.length := Nat.succ.inj hlen
    have hvb := hVb v List.mem_cons_self
    have hVb2 : ∀ u, u ∈ V → u < 2 ^ 31 := fun u hu => hVb u (List.mem_cons_of_mem v hu)
    have e0 : flL (x :: l) (v :: V) M = flL l V (if 0 < v then flF M x (io v) else M) := rfl
    rw [e0] at q
    by_cases hv : 0 < v
    · rw [if_pos hv] at q
      refine r174_198k hV.1 hV.2.1 hV.2.2 hT h9 hk hg hxn ho hb (fun hn => ?_) (fun _ => ?_)
      · rw [ha0] at hn
        exact absurd ((io_pos hvb).mpr hv) hn
      · rw [ha0]
        refine v168 hV hxn (fun t1 h1 c1 s1 => ?_)
        refine sK_v (pc' := 235) rfl ?_
        refine r174_235 h1.1 h1.2.1 h1.2.2 (TkL_sp s1 hT) h9 hk hg hxn ho hb ?_
        exact v174_198 h9 ho hb l (k + 1) V _ _ t1 h1 (TkL_sp s1 hT) (Am_sp s1 hA2) hlen2 hVb2 hD2 hl (fun t' y1 y0 g1 g2 => q t' y1 y0 g1 (g2.trans c1))
    · rw [if_neg hv] at q
      refine r174_198k hV.1 hV.2.1 hV.2.2 hT h9 hk hg hxn ho hb (fun _ => ?_) (fun hp => ?_)
      · exact v174_198 h9 ho hb l (k + 1) V _ _ t hV hT hA2 hlen2 hVb2 hD2 hl q
      · rw [ha0] at hp
        exact absurd ((io_pos hvb).mp hp) hv
theorem v174_13 {b : Nat} (ho : o < n) (hb : b < 5) : ∀ (l : List Nat) (k : Nat) (acc : Nat), Vr t M n → TkL t L → L.length ≤ 200 → Dr L k l → (∀ x, x ∈ l → x < n) → Sh M l →
    X 174 13 [.inr (.inr (12, (some 0))), .inl (io o), .inl p, .inl (io b), .inl (io (acc + (l.map (shN M)).sum)), .inl (io L.length), sJk, sJk] [] t Q →
    X 174 13 [.inr (.inr (12, (some 0))), .inl (io o), .inl p, .inl (io b), .inl (io acc), .inl (io k), sJk, sJk] [] t Q
  | [], k, acc, hV, hT, h9, hD, _, _, q => by
    have e := Dr_n hD
    subst e
    exact q
  | x :: l, k, acc, hV, hT, h9, hD, hx, hS, q => by
    obtain ⟨hk, hg, hD2⟩ := Dr_c hD
    refine r174_13k hV.1 hV.2.1 hV.2.2 hT h9 hk hg (hx x List.mem_cons_self) ho hb ?_
    rw [(hS x List.mem_cons_self).1, io_add]
    refine v174_13 ho hb l (k + 1) _ hV hT h9 hD2 (fun y hy => hx y (List.mem_cons_of_mem x hy)) (Sh_tl hS) ?_
    rw [Nat.add_assoc]
    rw [List.map_cons, List.sum_cons] at q
    exact q
theorem portN_len {S : List Nat} {a : Nat} (h : ∀ s, s ∈ S → 1 ≤ s) : (portN S a).length = S.length := leL_len (portN_le h)
theorem leL_b : ∀ {V S : List Nat} {B : Nat}, leL V S → (∀ s, s ∈ S → s ≤ B) → ∀ v, v ∈ V → v ≤ B
  | [], [], _, _, _, v, hv => by cases hv
  | u :: V, s :: S, B, h, hb, v, hv => by
    rcases List.mem_cons.mp hv with e | e
    · rw [e]; exact Nat.le_trans h.1 (hb s List.mem_cons_self)
    · exact leL_b h.2 (fun s2 hs => hb s2 (List.mem_cons_of_mem s hs)) v e
  | [], _ :: _, _, h, _, _, _ => by cases h
  | _ :: _, [], _, h, _, _, _ => by cases h
theorem Sh_b (hS : Sh M L) : ∀ s, s ∈ L.map (shN M) → s ≤ 100 := fun s hs => by
  obtain ⟨x, hx, e⟩ := List.mem_map.mp hs
  rw [← e]; exact (hS x hx).2.2
/-- the state that a trade by shares leaves -/
def shrF (M : sM) (n T o : Nat) (p : Int32) (A : Nat) (L : List Nat) : sM := reF (ofF (flL L (portN (L.map (shN M)) A) (mkL M o p L (portN (L.map (shN M)) A) M T)) o (io (min (L.map (shN M)).sum A))) n (oB M o) p
theorem v174 {A : Nat} (hV : Vr t M n) (ho : o < n) (hT : TkL t (x :: l)) (h9 : (x :: l).length ≤ 200) (hx : ∀ y, y ∈ x :: l → y < n) (hS : Sh M (x :: l)) (hA : A ≤ 100) (hl15 : mA M 15 o = io A) (hI : mI M 801 = io T) (hT4 : T + 2 * (x :: l).length + 2 ≤ 4096)
    (q : ∀ t', Vr t' (shrF M n T o p A (x :: l)) n → cp t' = cp t → Q (.inl none) t') :
    X 174 0 [.inr (.inr (12, (some 0))), .inl (io o), .inl p, sJk, sJk, sJk, sJk, sJk] [] t Q := by
  have hb := gb5 hV.2.2 ho
  refine r174_0 hV.1 hV.2.1 hV.2.2 hT h9 ho ?_
  refine v174_13 ho hb (x :: l) 0 0 hV hT h9 (Dr_0 _) hx hS ?_
  refine r174_13e hV.1 hV.2.1 hV.2.2 hT h9 ho hb ?_
  have hs := Sh_sum hS
  rw [Nat.zero_add, hl15, mnc_io (by omega) (by omega)]
  refine v172 hV hT h9 hx hS hA (fun t1 h1 c1 T1 A1 => ?_)
  refine sK_v (pc' := 75) rfl ?_
  refine r174_75 h1.1 h1.2.1 h1.2.2 T1 h9 ho hb ?_
  have hpl := portN_le (S := (x :: l).map (shN M)) (a := A) (Sh_1 hS)
  have hlen : (portN ((x :: l).map (shN M)) A).length = (x :: l).length := by rw [leL_len hpl, List.length_map]
  have hbd : ∀ v, v ∈ portN ((x :: l).map (shN M)) A → v < 2 ^ 31 := fun v hv => Nat.lt_of_le_of_lt (leL_b hpl (Sh_b hS) v hv) (by decide)
  refine v174_78 (M0 := M) h9 ho hb (x :: l) 0 (portN ((x :: l).map (shN M)) A) M T _ t1 h1 (Fr.refl M) T1 A1 A1 hlen hbd (Dr_0 _) hx hI hT4 (fun t2 y0 h2 c2 T2 A2 => ?_)
  refine v174_198 h9 ho hb (x :: l) 0 (portN ((x :: l).map (shN M)) A) _ _ t2 h2 T2 A2 hlen hbd (Dr_0 _) hx (fun t3 y1 y0 h3 c3 => ?_)
  refine r174_248 h3.1 h3.2.1 h3.2.2 ho hb ?_
  refine v166 h3 hb (fun t4 h4 c4 s4 => ?_)
  refine sK_v (pc' := 254) rfl ?_
  exact r174_254 h4.1 h4.2.1 h4.2.2 ho hb (q t4 h4 (c4.trans (c3.trans (c2.trans c1))))
/-! a step -/
theorem v173_126 {z' : Bool} (h9 : L.length ≤ 200) (ho : o < n) (hb : b < 5) : ∀ (l : List Nat) (k : Nat) (z : Bool) (M : sM) (t : sT), Vr t M n → oM M o = m → TkL t L → Dr L k l → (∀ x, x ∈ l → x < n) →
    (∀ t', Vr t' (ownF m l M) n → cp t' = cp t → TkL t' L → (z || ownB M m l) = true → Q (.inl (some (.inl (bz true)))) t') →
    (∀ t', Vr t' (ownF m l M) n → cp t' = cp t → TkL t' L → (z || ownB M m l) = false → X 170 0 [.inr (.inr (12, (some 0))), .inl (io b), .inl 0, .inl p, sJk, sJk, sJk] [] t' (sK 170 173 189 [.inr (.inr (12, (some 0))), .inl (io o), .inl (io b), .inl (bz s), .inl 0, .inl (bz z'), .inl p, .inl (bz true), .inl (bz false), .inl (io L.length), sJk, sJk, sJk] [] Q)) →
    X 173 126 [.inr (.inr (12, (some 0))), .inl (io o), .inl (io b), .inl (bz s), .inl 0, .inl (bz z'), .inl p, .inl (bz true), .inl (bz z), .inl (io k), sJk, sJk, sJk] [] t Q
  | [], k, z, M, t, hV, hm, hT, hD, _, q1, q2 => by
    have e := Dr_n hD
    subst e
    have e1 : ∀ z : Bool, (z || ownB M m []) = z := fun z => by cases z <;> rfl
    refine r173s_126e hV.1 hV.2.1 hV.2.2 hT h9 ho hb (fun hz => ?_) (fun hz => ?_)
    · subst hz
      exact q2 t hV rfl hT rfl
    · exact q1 t hV rfl hT ((e1 z).trans hz)
  | x :: l, k, z, M, t, hV, hm, hT, hD, hx, q1, q2 => by
    obtain ⟨hk, hg, hD2⟩ := Dr_c hD
    have hxn := hx x List.mem_cons_self
    have hl : ∀ y, y ∈ l → y < n := fun y hy => hx y (List.mem_cons_of_mem x hy)
    have e1 : ownF m (x :: l) M = ownF m l (bif decide (oM M x = m) then cnF M x else M) := rfl
    have e2 : ownB M m (x :: l) = (decide (oM M x = m) || ownB M m l) := rfl
    rw [e1, e2] at q1 q2
    refine r173s_126k hV.1 hV.2.1 hV.2.2 hT h9 hk hg hxn ho hb (fun h => ?_) (fun h => ?_)
    · rw [hm] at h
      rw [decide_eq_false h] at q1 q2
      exact v173_126 h9 ho hb l (k + 1) z M t hV hm hT hD2 hl q1 q2
    · rw [hm] at h
      rw [decide_eq_true h] at q1 q2
      refine v156 hV hxn (fun t1 h1 c1 s1 => ?_)
      refine sK_v (pc' := 167) rfl ?_
      refine r173s_167 h1.1 h1.2.1 h1.2.2 (TkL_sp s1 hT) h9 hk hg hxn ho hb ?_
      have e3 : ∀ z : Bool, (z || (true || ownB M m l)) = (true || ownB (cnF M x) m l) := fun z => by cases z <;> rfl
      refine v173_126 h9 ho hb l (k + 1) true (cnF M x) t1 h1 hm (TkL_sp s1 hT) hD2 hl (fun t' g1 g2 g3 g4 => q1 t' g1 (g2.trans c1) g3 ((e3 z).trans g4)) (fun t' g1 g2 g3 g4 => ?_)
      cases g4
theorem v173_222 (h9 : L.length ≤ 200) (ho : o < n) (hb : b < 5) (hc3 : c < 3) {N : Nat} {z' : Bool} : ∀ (l : List Nat) (k : Nat) (z : Bool), Vr t M n → TkL t L → Dr L k l → (∀ x, x ∈ l → x < n) →
    Q (.inl (some (.inl (bz (!(decide (c = b)) && (z || l.any (fun x => decide (oB M x = c)))))))) t →
    X 173 222 [.inr (.inr (12, (some 0))), .inl (io o), .inl (io b), .inl (bz s), .inl 0, .inl (bz z'), .inl p, .inl (bz true), .inl (bz false), .inl (io N), .inl (io c), .inl (bz z), .inl (io k)] [] t Q
  | [], k, z, hV, hT, hD, _, q => by
    have e := Dr_n hD
    subst e
    have e1 : (z || ([] : List Nat).any (fun x => decide (oB M x = c))) = z := by cases z <;> rfl
    rw [e1] at q
    exact r173s_222e hV.1 hV.2.1 hV.2.2 hT h9 ho hb hc3 q
  | x :: l, k, z, hV, hT, hD, hx, q => by
    obtain ⟨hk, hg, hD2⟩ := Dr_c hD
    refine r173s_222k hV.1 hV.2.1 hV.2.2 hT h9 hk hg (hx x List.mem_cons_self) ho hb hc3 ?_
    refine v173_222 h9 ho hb hc3 l (k + 1) _ hV hT hD2 (fun y hy => hx y (List.mem_cons_of_mem x hy)) ?_
    have e1 : ((x :: l).any (fun x => decide (oB M x = c))) = (decide (oB M x = c) || l.any (fun x => decide (oB M x = c))) := rfl
    rw [e1] at q
    rw [Bool.or_assoc]
    exact q
end S62
