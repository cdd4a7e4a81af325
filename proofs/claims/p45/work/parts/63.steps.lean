/-! a step by shares, put together; the class's trades and the reference's are the same -/
section S63
variable {t t' : sT} {M M' M0 N : sM} {n T b c m o k x y K w : Nat} {p a d h : Int32} {s z : Bool} {L L' l : List Nat} {Q : sRs → sT → Prop}
theorem TkL_Tk1 (h : Tk t [x]) : TkL t [x] := by
  obtain ⟨h1, h2, _⟩ := h
  refine ⟨h1, fun i hi => ?_⟩
  have e : i = 0 := by have : i < 1 := hi; omega
  subst e
  exact h2
theorem prF_0 (hb : b < 5) : prF M b 0 [x] = mA M 14 x := by
  match b, hb with
  | 0, _ => exact Int32.zero_add _
  | 1, _ => exact Int32.zero_add _
  | 2, _ => exact Int32.zero_add _
  | 3, _ => exact Int32.zero_add _
  | 4, _ => exact Int32.zero_add _
theorem ownF_none : ∀ {l : List Nat} {M : sM}, ownB M m l = false → ownF m l M = M
  | [], _, _ => rfl
  | x :: l, M, h => by
    have e2 : ownB M m (x :: l) = (decide (oM M x = m) || ownB M m l) := rfl
    rw [e2, Bool.or_eq_false_iff] at h
    show ownF m l (bif decide (oM M x = m) then cnF M x else M) = M
    rw [h.1]
    exact ownF_none h.2
/-- a price that the order does not accept -/
def badP (M : sM) (o : Nat) (p : Int32) : Bool := bif mB M 3 o then decide (mA M 14 o < p) else decide (p < mA M 14 o)
def lg0 (b : Nat) (p : Int32) : List (Nat × Int32) := if b < 3 then [(b, p)] else []
/-! the class's trades by portions -/
def tbL (M0 : sM) (o : Nat) (p : Int32) : List Nat → List Nat → sM → Nat → sM
  | x :: l, v :: V, M, T => if 0 < v then tbL M0 o p l V (flF (tkF (dbF M T (oB M0 o) (dbM M0 o x) (dbS M0 o x) p (io v)) o (io v)) x (io v)) (dbT (oB M0 o) T) else tbL M0 o p l V M T
  | _, _, M, _ => M
def tfL (o : Nat) : List Nat → List Nat → sM → sM
  | x :: l, v :: V, M => tfL o l V (if 0 < v then flF (tkF M o (io v)) x (io v) else M)
  | _, _, M => M
theorem tbG_L {g : Nat → Int32} : ∀ (l V : List Nat) (M : sM) (T : Nat), l.map g = V.map io → (∀ v, v ∈ V → v < 2 ^ 31) → tbG M0 o p g l M T = tbL M0 o p l V M T ∧ tbT (oB M0 o) g l T = mkT (oB M0 o) V T
  | [], [], M, T, _, _ => ⟨rfl, rfl⟩
  | [], v :: V, M, T, h, _ => by cases h
  | x :: l, [], M, T, h, _ => by cases h
  | x :: l, v :: V, M, T, h, hb => by
    have h1 : g x = io v := (List.cons.inj h).1
    have h2 : l.map g = V.map io := (List.cons.inj h).2
    have hvb := hb v List.mem_cons_self
    have hb2 : ∀ u, u ∈ V → u < 2 ^ 31 := fun u hu => hb u (List.mem_cons_of_mem v hu)
    have e1 : tbG M0 o p g (x :: l) M T = bif decide (0 < g x) then tbG M0 o p g l (flF (tkF (dbF M T (oB M0 o) (dbM M0 o x) (dbS M0 o x) p (g x)) o (g x)) x (g x)) (dbT (oB M0 o) T) else tbG M0 o p g l M T := rfl
    have e2 : tbT (oB M0 o) g (x :: l) T = bif decide (0 < g x) then tbT (oB M0 o) g l (dbT (oB M0 o) T) else tbT (oB M0 o) g l T := rfl
    have e3 : tbL M0 o p (x :: l) (v :: V) M T = if 0 < v then tbL M0 o p l V (flF (tkF (dbF M T (oB M0 o) (dbM M0 o x) (dbS M0 o x) p (io v)) o (io v)) x (io v)) (dbT (oB M0 o) T) else tbL M0 o p l V M T := rfl
    have e4 : mkT (oB M0 o) (v :: V) T = if 0 < v then mkT (oB M0 o) V (dbT (oB M0 o) T) else mkT (oB M0 o) V T := rfl
    rw [e1, e2, e3, e4, h1]
    by_cases hv : 0 < v
    · rw [decide_eq_true ((io_pos hvb).mpr hv), if_pos hv, if_pos hv]
      exact tbG_L l V _ _ h2 hb2
    · rw [decide_eq_false (fun q => hv ((io_pos hvb).mp q)), if_neg hv, if_neg hv]
      exact tbG_L l V _ _ h2 hb2
theorem tbL_pt : ∀ (l V : List Nat) (M N : sM) (T : Nat), tbL M0 o p l V (pt1 M N) T = pt1 (tfL o l V M) (mkL M0 o p l V N T)
  | [], V, M, N, T => rfl
  | x :: l, [], M, N, T => rfl
  | x :: l, v :: V, M, N, T => by
    have e3 : tbL M0 o p (x :: l) (v :: V) (pt1 M N) T = if 0 < v then tbL M0 o p l V (flF (tkF (dbF (pt1 M N) T (oB M0 o) (dbM M0 o x) (dbS M0 o x) p (io v)) o (io v)) x (io v)) (dbT (oB M0 o) T) else tbL M0 o p l V (pt1 M N) T := rfl
    have e4 : tfL o (x :: l) (v :: V) M = tfL o l V (if 0 < v then flF (tkF M o (io v)) x (io v) else M) := rfl
    have e5 : mkL M0 o p (x :: l) (v :: V) N T = if 0 < v then mkL M0 o p l V (dbF N T (oB M0 o) (dbM M0 o x) (dbS M0 o x) p (io v)) (dbT (oB M0 o) T) else mkL M0 o p l V N T := rfl
    rw [e3, e4, e5]
    by_cases hv : 0 < v
    · rw [if_pos hv, if_pos hv, if_pos hv, pt1_db, pt1_tk, pt1_fl]
      exact tbL_pt l V _ _ _
    · rw [if_neg hv, if_neg hv, if_neg hv]
      exact tbL_pt l V _ _ _
theorem flL_pt : ∀ (l V : List Nat) (M N : sM), flL l V (pt1 M N) = pt1 (flL l V M) N
  | [], V, M, N => rfl
  | x :: l, [], M, N => rfl
  | x :: l, v :: V, M, N => by
    show flL l V (if 0 < v then flF (pt1 M N) x (io v) else pt1 M N) = pt1 (flL l V (if 0 < v then flF M x (io v) else M)) N
    by_cases hv : 0 < v
    · rw [if_pos hv, if_pos hv, pt1_fl]; exact flL_pt l V _ _
    · rw [if_neg hv, if_neg hv]; exact flL_pt l V _ _
theorem mkL_pt : ∀ (l V : List Nat) (M N : sM) (T : Nat), mkL M0 o p l V (pt1 M N) T = pt1 M (mkL M0 o p l V N T)
  | [], V, M, N, T => rfl
  | x :: l, [], M, N, T => rfl
  | x :: l, v :: V, M, N, T => by
    have e5 : ∀ N, mkL M0 o p (x :: l) (v :: V) N T = if 0 < v then mkL M0 o p l V (dbF N T (oB M0 o) (dbM M0 o x) (dbS M0 o x) p (io v)) (dbT (oB M0 o) T) else mkL M0 o p l V N T := fun N => rfl
    rw [e5, e5]
    by_cases hv : 0 < v
    · rw [if_pos hv, if_pos hv, pt1_db]; exact mkL_pt l V _ _ _
    · rw [if_neg hv, if_neg hv]; exact mkL_pt l V _ _ _
theorem mkL_self (l V : List Nat) (M : sM) (T : Nat) : mkL M0 o p l V M T = pt1 M (mkL M0 o p l V M T) := by
  have h := mkL_pt (M0 := M0) (o := o) (p := p) l V M M T
  rw [pt1_self] at h
  exact h
theorem flL_tk : ∀ (l V : List Nat) (M : sM), (∀ x, x ∈ l → ¬ x = o ∧ mA M 19 x = 1) → l.Nodup → flL l V (tkF M o d) = tkF (flL l V M) o d
  | [], V, M, _, _ => rfl
  | x :: l, [], M, _, _ => rfl
  | x :: l, v :: V, M, hx, hN => by
    have hN2 := List.nodup_cons.mp hN
    obtain ⟨h1, h2⟩ := hx x List.mem_cons_self
    have hl : ∀ y, y ∈ l → ¬ y = o ∧ mA M 19 y = 1 := fun y hy => hx y (List.mem_cons_of_mem x hy)
    show flL l V (if 0 < v then flF (tkF M o d) x (io v) else tkF M o d) = tkF (flL l V (if 0 < v then flF M x (io v) else M)) o d
    by_cases hv : 0 < v
    · rw [if_pos hv, if_pos hv, tk_fl h1 h2]
      exact flL_tk l V _ (fun y hy => ⟨(hl y hy).1, (st_flF (fun e => hN2.1 (by rw [← e]; exact hy))).trans (hl y hy).2⟩) hN2.2
    · rw [if_neg hv, if_neg hv]
      exact flL_tk l V _ hl hN2.2
theorem tfL_eq : ∀ (l V : List Nat) (M : sM), (∀ x, x ∈ l → ¬ x = o ∧ mA M 19 x = 1) → l.Nodup → V.length = l.length → tfL o l V M = tkF (flL l V M) o (io V.sum)
  | [], [], M, _, _, _ => by
    show M = tkF M o 0
    unfold tkF
    have e15 : mA M 15 o - 0 = mA M 15 o := Int32.sub_zero _
    have e26 : mA M 26 (oM M o) + (bif mB M 4 o then 0 else 0) = mA M 26 (oM M o) := by
      cases mB M 4 o <;> exact Int32.add_zero _
    rw [e15, e26, mAw_id, mAw_id]
  | [], v :: V, M, _, _, h => by cases h
  | x :: l, [], M, _, _, h => by cases h
  | x :: l, v :: V, M, hx, hN, hlen => by
    have hN2 := List.nodup_cons.mp hN
    obtain ⟨h1, h2⟩ := hx x List.mem_cons_self
    have hl : ∀ y, y ∈ l → ¬ y = o ∧ mA M 19 y = 1 := fun y hy => hx y (List.mem_cons_of_mem x hy)
    have hlen2 : V.length = l.length := Nat.succ.inj hlen
    show tfL o l V (if 0 < v then flF (tkF M o (io v)) x (io v) else M) = tkF (flL l V (if 0 < v then flF M x (io v) else M)) o (io (v :: V).sum)
    rw [List.sum_cons]
    by_cases hv : 0 < v
    · rw [if_pos hv, if_pos hv, tk_fl h1 h2]
      have hl2 : ∀ y, y ∈ l → ¬ y = o ∧ mA (flF M x (io v)) 19 y = 1 := fun y hy => ⟨(hl y hy).1, (st_flF (fun e => hN2.1 (by rw [← e]; exact hy))).trans (hl y hy).2⟩
      rw [tfL_eq l V (tkF (flF M x (io v)) o (io v)) hl2 hN2.2 hlen2, flL_tk l V _ hl2 hN2.2, tk_add, io_add]
    · have e0 : v = 0 := by omega
      rw [if_neg hv, if_neg hv, e0, Nat.zero_add]
      exact tfL_eq l V _ hl hN2.2 hlen2
theorem tfL_re : ∀ (l V : List Nat) (M : sM), (∀ x, x ∈ l → mA M 19 x = 1) → l.Nodup → tfL o l V (reF M n b d) = reF (tfL o l V M) n b d
  | [], V, M, _, _ => rfl
  | x :: l, [], M, _, _ => rfl
  | x :: l, v :: V, M, hx, hN => by
    have hN2 := List.nodup_cons.mp hN
    have h2 := hx x List.mem_cons_self
    have hl : ∀ y, y ∈ l → mA M 19 y = 1 := fun y hy => hx y (List.mem_cons_of_mem x hy)
    show tfL o l V (if 0 < v then flF (tkF (reF M n b d) o (io v)) x (io v) else reF M n b d) = reF (tfL o l V (if 0 < v then flF (tkF M o (io v)) x (io v) else M)) n b d
    by_cases hv : 0 < v
    · rw [if_pos hv, if_pos hv, re_tk, re_fl (M := tkF M o (io v)) h2]
      exact tfL_re l V _ (fun y hy => (st_flF (fun e => hN2.1 (by rw [← e]; exact hy))).trans (hl y hy)) hN2.2
    · rw [if_neg hv, if_neg hv]
      exact tfL_re l V _ hl hN2.2
/-- what the class's trades by portions leave: the order is still coming -/
def cshF (M : sM) (n T o : Nat) (p : Int32) (L V : List Nat) : sM := reF (tkF (flL L V (mkL M o p L V M T)) o (io V.sum)) n (oB M o) p
theorem re_st : mA (reF M n b p) 19 = mA M 19 := by rw [reF_eq]; rfl
theorem tb_csh {g : Nat → Int32} {V : List Nat} (hg : L.map g = V.map io) (hVb : ∀ v, v ∈ V → v < 2 ^ 31) (hx : ∀ x, x ∈ L → ¬ x = o ∧ mA M 19 x = 1) (hN : L.Nodup) (hlen : V.length = L.length) : tbG M o p g L (crF M n (oB M o) p) T = cshF M n T o p L V := by
  rw [(tbG_L L V _ T hg hVb).1, cr_re]
  have e1 : reF M n (oB M o) p = pt1 (reF M n (oB M o) p) M := by
    have h := pt1_re (M := M) (N := M) (n := n) (b := oB M o) (p := p)
    rw [pt1_self] at h
    exact h
  rw [e1, tbL_pt, tfL_re L V M (fun x h => (hx x h).2) hN, tfL_eq L V M hx hN hlen]
  unfold cshF
  rw [mkL_self (M0 := M) L V M T, flL_pt, pt1_tk, pt1_re, ← mkL_self]
/-- an order that has come and of which nothing is left -/
def finF (M : sM) (o : Nat) : sM := bif decide (mA M 15 o = 0) then mAw (mAw M 19 o 2) 17 o 0 else M
theorem fin_re (h19 : mA M 19 o = 4) : finF (reF M n b p) o = reF (finF M o) n b p := by
  unfold finF
  have e15 : mA (reF M n b p) 15 o = mA M 15 o := by rw [reF_eq]; rfl
  rw [e15]
  cases decide (mA M 15 o = 0)
  · rfl
  · show mAw (mAw (reF M n b p) 19 o 2) 17 o 0 = reF (mAw (mAw M 19 o 2) 17 o 0) n b p
    refine re_comm (f := fun M => mAw (mAw M 19 o 2) 17 o 0) (fun _ => rfl) (fun k _ => ?_) rfl rfl rfl rfl
    show decide ((if 19 = 19 ∧ k = o then 2 else mA M 19 k) = 0) = decide (mA M 19 k = 0)
    by_cases e : k = o
    · rw [if_pos ⟨rfl, e⟩, e, h19]; rfl
    · rw [if_neg (fun q => e q.2)]
theorem fin_tk : finF (tkF M o a) o = ofF M o a := by
  rw [ofF_eq]
  unfold finF
  rw [tk15]
theorem flL_st (hy : ¬ y ∈ L) : ∀ (V : List Nat), mA (flL L V M) 19 y = mA M 19 y := by
  intro V
  induction L generalizing M V with
  | nil => rfl
  | cons x l ih =>
    cases V with
    | nil => rfl
    | cons v V =>
      have h1 : ¬ y = x := fun e => hy (by rw [e]; exact List.mem_cons_self)
      have h2 : ¬ y ∈ l := fun e => hy (List.mem_cons_of_mem x e)
      show mA (flL l V (if 0 < v then flF M x (io v) else M)) 19 y = mA M 19 y
      rw [ih h2]
      split
      · exact st_flF h1
      · rfl
theorem mkL_st : mA (mkL M0 o p L L' M T) 19 = mA M 19 := by rw [mkL_self]; exact funext fun q => pt1_rA rfl
theorem csh_fin {A : Nat} (hS : Sh M L) (ho : ¬ o ∈ L) (h19 : mA M 19 o = 4) : finF (cshF M n T o p L (portN (L.map (shN M)) A)) o = shrF M n T o p A L := by
  unfold cshF shrF
  rw [fin_re (by show mA (flL L _ (mkL M o p L _ M T)) 19 o = 4; rw [flL_st ho, mkL_st, h19]), fin_tk, portN_sum (Sh_1 hS)]
end S63
