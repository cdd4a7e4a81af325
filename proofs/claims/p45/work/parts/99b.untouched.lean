/-! an order that no step takes is left as it is; and the bound of the orders that are looked through may be one more -/
section S99b
variable {M M' M0 M1 N : sM} {n T b c m o k x K w f v F G e : Nat} {p a h d sz : Int32} {s z : Bool} {L l : List Nat} {V : TV} {j : Int32}
theorem Ri_19 {v : Int32} (hR : Ri M n) : Ri (mAw M 19 o v) n := (Fr_A rfl (Fr.refl M)).ri hR
def Ux (M N : sM) (x : Nat) : Prop := (∀ q, 12 ≤ q → q ≤ 20 → mA N q x = mA M q x) ∧ ∀ q, 3 ≤ q → q ≤ 6 → mB N q x = mB M q x
theorem Ux.refl (M : sM) : Ux M M x := ⟨fun _ _ _ => rfl, fun _ _ _ => rfl⟩
theorem Ux.trans (h1 : Ux M M' x) (h2 : Ux M' N x) : Ux M N x := ⟨fun q a b => (h2.1 q a b).trans (h1.1 q a b), fun q a b => (h2.2 q a b).trans (h1.2 q a b)⟩
theorem Ux_A {q : Nat} {v : Int32} (h : (q < 12 ∨ 20 < q) ∨ ¬ x = k) : Ux M (mAw M q k v) x := ⟨fun q' a b => if_neg (fun g => by have := g.1; have := g.2; omega), fun _ _ _ => rfl⟩
theorem Ux_B {q : Nat} {v : Bool} (h : (q < 3 ∨ 6 < q) ∨ ¬ x = k) : Ux M (mBw M q k v) x := ⟨fun _ _ _ => rfl, fun q' a b => if_neg (fun g => by have := g.1; have := g.2; omega)⟩
theorem Ux_I {v : Int32} : Ux M (mIw M F v) x := ⟨fun _ _ _ => rfl, fun _ _ _ => rfl⟩
theorem Ux_c {z : Bool} (h1 : Ux M N x) (h2 : Ux M M' x) : Ux M (bif z then N else M') x := by cases z; exact h2; exact h1
theorem Ux_i {P : Prop} [Decidable P] (h1 : Ux M N x) (h2 : Ux M M' x) : Ux M (if P then N else M') x := by
  by_cases e : P
  · rw [if_pos e]; exact h1
  · rw [if_neg e]; exact h2
theorem Ux_mk : Ux M (mkF M T c m o p a s) x := by
  refine ⟨fun q g1 g2 => ?_, fun q g1 g2 => ?_⟩
  · unfold mkF
    rw [aw_q (by omega), aw_q (by omega), aw_q (by omega), aw_q (by omega), aw_q (by omega), mA_I, mA_B, aw_q (by omega), aw_q (by omega), aw_q (by omega), aw_q (by omega), aw_q (by omega)]
  · exact if_neg (fun g => by have := g.1; omega)
theorem Ux_db : Ux M (dbF M T b m o p a) x := by
  unfold dbF
  cases snd b with
  | none => exact Ux_mk
  | some d => exact Ux_mk.trans Ux_mk
theorem Ux_sh (h : ¬ x = k) : Ux M (shF M k s) x := Ux_c ((Ux_A (Or.inr h)).trans (Ux_I.trans (Ux_A (Or.inr h)))) (Ux_A (Or.inr h))
theorem Ux_of (h : ¬ x = k) : Ux M (ofF M k a) x := Ux_c ((Ux_A (Or.inr h)).trans ((Ux_A (Or.inl (Or.inr (by decide)))).trans ((Ux_A (Or.inr h)).trans (Ux_A (Or.inr h))))) ((Ux_A (Or.inr h)).trans (Ux_A (Or.inl (Or.inr (by decide)))))
theorem Ux_cn (h : ¬ x = k) : Ux M (cnF M k) x := (Ux_A (Or.inr h)).trans (Ux_A (Or.inr h))
theorem Ux_rs (h : ¬ x = k) : Ux M (rsF M k) x := (Ux_A (M := M) (q := 19) (v := 1) (Or.inr h)).trans (Ux_sh h)
theorem Ux_fl (h : ¬ x = k) : Ux M (flF M k a) x := by
  have h1 : Ux M (ofF (mAw M 17 k ((mA M 17 k) - a)) k a) x := (Ux_A (Or.inr h)).trans (Ux_of h)
  exact Ux_c (Ux_c (h1.trans (Ux_sh h)) h1) h1
theorem Ux_tk (h : ¬ x = k) : Ux M (tkF M k a) x := (Ux_A (Or.inr h)).trans (Ux_A (Or.inl (Or.inr (by decide))))
theorem Ux_reL : ∀ k, k ≤ x → Ux M (reL M n b p k) x
  | 0, _ => Ux.refl M
  | k + 1, hk => (Ux_reL k (by omega)).trans (Ux_B (Or.inr (by omega)))
theorem Ux_re (h : n ≤ x) : Ux M (reF M n b p) x := Ux_reL n h
theorem Ux_poS (h : ¬ x = k) : Ux M (poS M n k) x := Ux_c (Ux_c (Ux_c ((Ux_A (Or.inr h)).trans (Ux_A (Or.inr h))) (Ux.refl M)) (Ux.refl M)) (Ux.refl M)
theorem Ux_poL : ∀ k, k ≤ x → Ux M (poL M n k) x
  | 0, _ => Ux.refl M
  | k + 1, hk => (Ux_poL k (by omega)).trans (Ux_poS (by omega))
theorem Ux_po (h : n ≤ x) : Ux M (poF M n) x := Ux_poL n h
theorem Ux_mkL : ∀ (l V : List Nat) (N : sM) (T : Nat), Ux N (mkL M o p l V N T) x
  | y :: l, v :: V, N, T => by
    show Ux N (if 0 < v then mkL M o p l V (dbF N T (oB M o) (dbM M o y) (dbS M o y) p (io v)) (dbT (oB M o) T) else mkL M o p l V N T) x
    exact Ux_i (Ux_db.trans (Ux_mkL l V _ _)) (Ux_mkL l V N T)
  | [], _, N, T => Ux.refl N
  | _ :: _, [], N, T => Ux.refl N
theorem Ux_flL : ∀ (l V : List Nat) (N : sM), ¬ x ∈ l → Ux N (flL l V N) x
  | y :: l, v :: V, N, h => by
    have h1 : ¬ x = y := fun e => h (by rw [e]; exact List.mem_cons_self)
    exact (Ux_i (Ux_fl h1) (Ux.refl N)).trans (Ux_flL l V _ (fun g => h (List.mem_cons_of_mem y g)))
  | [], _, N, _ => Ux.refl N
  | _ :: _, [], N, _ => Ux.refl N
theorem Ux_flS : ∀ (l : List Nat) (N : sM), ¬ x ∈ l → Ux N (flS sz l N) x
  | [], N, _ => Ux.refl N
  | y :: l, N, h => by
    have h1 : ¬ x = y := fun e => h (by rw [e]; exact List.mem_cons_self)
    exact (Ux_fl h1).trans (Ux_flS l _ (fun g => h (List.mem_cons_of_mem y g)))
theorem Ux_mlG : ∀ (l : List Nat) (k m : Nat) (N : sM) (T : Nat), Ux N (mlG M o sz z V k m l N T) x
  | [], _, _, N, _ => Ux.refl N
  | y :: l, k, m, N, T => by
    refine Ux.trans (M' := tlM M o sz z V k m y N T) ?_ (Ux_mlG l _ _ _ _)
    unfold tlM
    cases V.2.2.1 y with
    | none => exact Ux.refl N
    | some d => exact Ux_mk
theorem Ux_rfL (h : n ≤ x) : ∀ (l : List Nat) (N : sM), Ux N (rfL M n l N) x
  | [], N => Ux.refl N
  | y :: l, N => (Ux_re h).trans (Ux_rfL h l _)
theorem Ux_own : ∀ (l : List Nat) (N : sM), ¬ x ∈ l → Ux N (ownF m l N) x
  | [], N, _ => Ux.refl N
  | y :: l, N, h => by
    have h1 : ¬ x = y := fun e => h (by rw [e]; exact List.mem_cons_self)
    exact (Ux_c (Ux_cn h1) (Ux.refl N)).trans (Ux_own l _ (fun g => h (List.mem_cons_of_mem y g)))
theorem Ux_csh {V : List Nat} (h : n ≤ x) (hL : ¬ x ∈ L) (ho : ¬ x = o) : Ux M (cshF M n T o p L V) x := (Ux_mkL L V M T).trans ((Ux_flL L V _ hL).trans ((Ux_tk ho).trans (Ux_re h)))
theorem Ux_way (h : n ≤ x) (hL : ¬ x ∈ L) (ho : ¬ x = o) : Ux M (wayF M n T o p L V) x := (Ux_mlG L _ _ M T).trans ((Ux_flS L _ hL).trans ((Ux_tk ho).trans ((Ux_re h).trans (Ux_rfL h L _))))
theorem Ux_tr (h : n ≤ x) (hL : ¬ x ∈ L) (ho : ¬ x = o) : Ux M (trF M n o w p L) x := by
  unfold trF
  exact Ux_i (Ux_csh h hL ho) (Ux_way h hL ho)
theorem Ux_stp {Lg : List (Nat × Int32)} {tr : sM} (hL : ¬ x ∈ L) (ht : Ux M tr x) : Ux M (stpM M n o p L Lg tr) x := by
  unfold stpM
  refine Ux_c (Ux.refl M) (Ux_c (Ux_own L M hL) ?_)
  cases obF M n Lg Lg.length with
  | none => exact ht
  | some c => exact Ux_A (Or.inl (Or.inl (by decide)))
theorem leg_lt (hJ : Jv M n) (hR : Ri M n) (ho : o < n) (hw : bwF M n (oB M o) (mB M 3 o) = some w) (hx : n ≤ x) : ¬ x ∈ legL M n o w := fun g => by
  have h1 := ((leg_Gd hJ hR ho hw).2.1 x g).1
  omega
theorem Ux_cs (hJ : Jv M n) (hR : Ri M n) (ho : o < n) (hx : n ≤ x) : Ux M (csM M n o) x := by
  unfold csM
  cases hw : bwF M n (oB M o) (mB M 3 o) with
  | none => exact Ux.refl M
  | some w => exact Ux_stp (leg_lt hJ hR ho hw hx) (Ux_tr hx (leg_lt hJ hR ho hw hx) (by omega))
theorem Ux_mt (ho : o < n) (hx : n ≤ x) : ∀ (f : Nat) (M : sM), Jv M n → Ri M n → mA M 19 o = 4 → (∃ T, mI M 801 = io T ∧ T < 4096) → Ux M (mtF n o f M) x
  | 0, M, _, _, _, _ => Ux.refl M
  | f + 1, M, hJ, hR, h4, hT => by
    by_cases g : lfN M o = 0 ∨ 1500 ≤ tN M
    · rw [mtF_stop g]; exact Ux.refl M
    · rw [mtF_go g]
      have h1 := Ux_cs hJ hR ho hx
      refine Ux_c (h1.trans ?_) h1
      obtain ⟨T, hT1, hT2⟩ := hT
      have hl1 : 1 ≤ lfN M o := by omega
      have etn : tN M = T := by unfold tN; rw [hT1]; exact nn_io (by omega)
      obtain ⟨c1, c2, _⟩ := cs_J hJ hR ho h4 hl1 (fun b s _ => Cl_ex hJ b s)
      obtain ⟨T', t1, t2, t3⟩ := cs_T hJ hR ho hT1 (by omega)
      exact Ux_mt ho hx f _ c1 (cs_R hJ hR ho) c2 ⟨T', t1, by omega⟩
theorem Ux_fin (h : ¬ x = o) : Ux M (finF M o) x := Ux_c ((Ux_A (Or.inr h)).trans (Ux_A (Or.inr h))) (Ux.refl M)
theorem Ux_se (h : ¬ x = o) : Ux M (seF M o) x := Ux_c (Ux_c (Ux_cn h) (Ux_rs h)) (Ux.refl M)
theorem Ux_mtR (hK : Kv M n) (ho : o < n) (hs : mA M 19 o = 0 ∨ mA M 19 o = 4) (hx : n ≤ x) : Ux M (mtR M n o) x := by
  have h1 : Ux M (mAw M 19 o 4) x := Ux_A (Or.inr (by omega))
  obtain ⟨T, hT, hT4⟩ := hK.2.2.2.2
  exact Ux_c (h1.trans (Ux_mt ho hx 305 _ (Jv_4 hK.1 ho hs) (Ri_19 hK.2.1) w4_19 ⟨T, hT, hT4⟩)) h1
theorem Ux_com (hK : Kv M n) (ho : o < n) (hs : mA M 19 o = 0 ∨ mA M 19 o = 4) (hx : n ≤ x) : Ux M (comF M n o) x :=
  (Ux_mtR hK ho hs hx).trans ((Ux_fin (by omega)).trans ((Ux_se (by omega)).trans (Ux_po hx)))
theorem Ux_fol (hx : n ≤ x) : ∀ (f : Nat) (M : sM), Kv M n → Ux M (folF n f M) x
  | 0, M, _ => Ux.refl M
  | f + 1, M, hK => by
    cases h : lrF M n with
    | none => rw [fol_n h]; exact Ux.refl M
    | some o =>
      rw [fol_s h]
      obtain ⟨ho, h0⟩ := lrF_s h
      exact (Ux_com hK ho (Or.inl h0) hx).trans (Ux_fol hx f _ (com_all hK ho (Or.inl h0)).1)
/-! the bound -/
theorem b_bsL {n' : Nat} {g : Option Nat} : ∀ k, bsL M n' b s g k = bsL M n b s g k
  | 0 => rfl
  | k + 1 => by
    show bsS M n' b s k (bsL M n' b s g k) = bsS M n b s k (bsL M n b s g k)
    rw [b_bsL k]; rfl
theorem b_bs (h4 : mA M 19 n = 4) : bsF M (n + 1) b s = bsF M n b s := by
  have e : bsF M (n + 1) b s = bsS M (n + 1) b s n (bsL M (n + 1) b s none n) := rfl
  rw [e, b_bsL (n := n)]
  unfold bsS
  rw [h4]
  rfl
theorem b_lgF (h4 : mA M 19 n = 4) : ∀ l : List (Nat × Bool), lgF M (n + 1) s l = lgF M n s l
  | [] => rfl
  | q :: r => by
    show (bif ((decide ((mA M 0 q.1) = 2)) && (!((bsF M (n + 1) q.1 (!(xor q.2 s))).isNone))) then (lgF M (n + 1) s r).map (fun l => ovD (bsF M (n + 1) q.1 (!(xor q.2 s))) :: l) else none) = (bif ((decide ((mA M 0 q.1) = 2)) && (!((bsF M n q.1 (!(xor q.2 s))).isNone))) then (lgF M n s r).map (fun l => ovD (bsF M n q.1 (!(xor q.2 s))) :: l) else none)
    rw [b_lgF h4 r, b_bs h4]
theorem b_lgO (h4 : mA M 19 n = 4) : lgO M (n + 1) b s w = lgO M n b s w := by
  unfold lgO
  cases lgs b w with
  | none => rfl
  | some l => exact b_lgF h4 l
theorem b_wok (h4 : mA M 19 n = 4) : wokF M (n + 1) b s w = wokF M n b s w := by unfold wokF; rw [b_lgO h4]
theorem b_wpr (h4 : mA M 19 n = 4) : wprF M (n + 1) b s w = wprF M n b s w := by unfold wprF; rw [b_lgO h4]
theorem b_bw (h4 : mA M 19 n = 4) : bwF M (n + 1) b s = bwF M n b s := by
  unfold bwF
  simp only [b_wok h4, b_wpr h4]
theorem b_rst (h4 : mA M 19 n = 4) : rst M (n + 1) b s x ↔ rst M n b s x := by
  unfold rst
  constructor
  · rintro ⟨h1, h2, h3⟩
    have : ¬ x = n := fun e => by rw [e, h4] at h2; exact absurd h2 (by decide)
    exact ⟨by omega, h2, h3⟩
  · rintro ⟨h1, h2⟩
    exact ⟨by omega, h2⟩
theorem b_leg (h4 : mA M 19 n = 4) : legL M (n + 1) o w = legL M n o w := by
  unfold legL
  rw [b_bs h4, b_lgO h4]
  have e : Lv M (n + 1) (oB M o) (!(mB M 3 o)) (mA M 14 (ovD (bsF M n (oB M o) (!(mB M 3 o))))) = Lv M n (oB M o) (!(mB M 3 o)) (mA M 14 (ovD (bsF M n (oB M o) (!(mB M 3 o))))) := by
    funext L
    unfold Lv
    simp only [b_rst h4]
  rw [e]
theorem b_obL {n' : Nat} {Lg : List (Nat × Int32)} {g : Option Nat} : ∀ k, obL M n' Lg g k = obL M n Lg g k
  | 0 => rfl
  | k + 1 => by
    show obS M n' Lg k (obL M n' Lg g k) = obS M n Lg k (obL M n Lg g k)
    rw [b_obL k]; rfl
theorem b_reL {n' : Nat} : ∀ k, reL M n' b p k = reL M n b p k
  | 0 => rfl
  | k + 1 => by
    show reS (reL M n' b p k) n' b p k = reS (reL M n b p k) n b p k
    rw [b_reL k]; rfl
theorem b_re (h4 : mA M 19 n = 4) : reF M (n + 1) b p = reF M n b p := by
  have e : reF M (n + 1) b p = reS (reL M (n + 1) b p n) (n + 1) b p n := rfl
  have h5 : mA (reL M n b p n) 19 n = 4 := ((Ux_reL n (Nat.le_refl n)).1 19 (by decide) (by decide)).trans h4
  rw [e, b_reL (n := n)]
  show mBw (reL M n b p n) 6 n _ = reL M n b p n
  refine bw_id ?_
  rw [h5]
  simp
theorem b_poL {n' : Nat} : ∀ k, poL M n' k = poL M n k
  | 0 => rfl
  | k + 1 => by
    show poS (poL M n' k) n' k = poS (poL M n k) n k
    rw [b_poL k]; rfl
theorem b_po (h4 : mA M 19 n = 4) : poF M (n + 1) = poF M n := by
  have e : poF M (n + 1) = poS (poL M (n + 1) n) (n + 1) n := rfl
  have h5 : mA (poL M n n) 19 n = 4 := ((Ux_poL n (Nat.le_refl n)).1 19 (by decide) (by decide)).trans h4
  rw [e, b_poL (n := n)]
  show poS (poL M n n) (n + 1) n = poL M n n
  unfold poS
  rw [h5, show decide ((4 : Int32) = 1) = false by decide]
  cases (decide (0 < mA (poL M n n) 8 (oM (poL M n n) n)) && decide (mA (poL M n n) 8 (oM (poL M n n) n) < mA (poL M n n) 26 (oM (poL M n n) n))) <;> cases mB (poL M n n) 4 n <;> rfl
theorem b_rfL : ∀ (l : List Nat) (N : sM), mA N 19 n = 4 → rfL M (n + 1) l N = rfL M n l N
  | [], _, _ => rfl
  | y :: l, N, h4 => by
    show rfL M (n + 1) l (reF N (n + 1) (oB M y) (mA M 14 y)) = rfL M n l (reF N n (oB M y) (mA M 14 y))
    rw [b_re h4]
    exact b_rfL l _ (((Ux_re (Nat.le_refl n)).1 19 (by decide) (by decide)).trans h4)
theorem u4 (h : Ux M N n) (h4 : mA M 19 n = 4) : mA N 19 n = 4 := (h.1 19 (by decide) (by decide)).trans h4
theorem b_csh {V : List Nat} (h4 : mA M 19 n = 4) (hL : ¬ n ∈ L) (ho : ¬ n = o) : cshF M (n + 1) T o p L V = cshF M n T o p L V :=
  b_re (u4 ((Ux_mkL L V M T).trans ((Ux_flL L V _ hL).trans (Ux_tk ho))) h4)
theorem b_way (h4 : mA M 19 n = 4) (hL : ¬ n ∈ L) (ho : ¬ n = o) : wayF M (n + 1) T o p L V = wayF M n T o p L V := by
  have h5 : Ux M (tkF (flS (szF M L (mA M 15 o)) L (mlG M o (szF M L (mA M 15 o)) ((snd (oB M o)).isSome) V 0 (oM M o) L M T)) o (szF M L (mA M 15 o))) n := (Ux_mlG L _ _ M T).trans ((Ux_flS L _ hL).trans (Ux_tk ho))
  unfold wayF
  rw [b_re (u4 h5 h4)]
  exact b_rfL L _ (u4 (h5.trans (Ux_re (Nat.le_refl n))) h4)
theorem b_tr (h4 : mA M 19 n = 4) (hL : ¬ n ∈ L) (ho : ¬ n = o) : trF M (n + 1) o w p L = trF M n o w p L := by
  unfold trF
  rw [b_csh h4 hL ho, b_way h4 hL ho]
theorem b_cs (hJ : Jv M n) (hR : Ri M n) (ho : o < n) (h4 : mA M 19 n = 4) : csM M (n + 1) o = csM M n o := by
  unfold csM
  rw [b_bw h4]
  cases hw : bwF M n (oB M o) (mB M 3 o) with
  | none => rfl
  | some w =>
    show stpM M (n + 1) o (wprF M (n + 1) (oB M o) (mB M 3 o) w) (legL M (n + 1) o w) (LgF M (oB M o) w (wprF M (n + 1) (oB M o) (mB M 3 o) w) (legL M (n + 1) o w)) (trF M (n + 1) o w (wprF M (n + 1) (oB M o) (mB M 3 o) w) (legL M (n + 1) o w)) = _
    rw [b_wpr h4, b_leg h4, b_tr h4 (leg_lt hJ hR ho hw (Nat.le_refl n)) (by omega)]
    unfold stpM
    rw [show ∀ Lg : List (Nat × Int32), obF M (n + 1) Lg Lg.length = obF M n Lg Lg.length from fun Lg => b_obL _]
theorem b_csZ (h4 : mA M 19 n = 4) : csZ M (n + 1) o = csZ M n o := by
  unfold csZ
  rw [b_bw h4]
  cases hw : bwF M n (oB M o) (mB M 3 o) with
  | none => rfl
  | some w =>
    show stpZ M (n + 1) o (wprF M (n + 1) (oB M o) (mB M 3 o) w) (legL M (n + 1) o w) (LgF M (oB M o) w (wprF M (n + 1) (oB M o) (mB M 3 o) w) (legL M (n + 1) o w)) = _
    rw [b_wpr h4, b_leg h4]
    unfold stpZ
    rw [show ∀ Lg : List (Nat × Int32), obF M (n + 1) Lg Lg.length = obF M n Lg Lg.length from fun Lg => b_obL _]
theorem b_mt (ho : o < n) : ∀ (f : Nat) (M : sM), Jv M n → Ri M n → mA M 19 o = 4 → (∃ T, mI M 801 = io T ∧ T < 4096) → mA M 19 n = 4 → mtF (n + 1) o f M = mtF n o f M
  | 0, M, _, _, _, _, _ => rfl
  | f + 1, M, hJ, hR, h4, hT, h5 => by
    by_cases g : lfN M o = 0 ∨ 1500 ≤ tN M
    · rw [mtF_stop g, mtF_stop g]
    · rw [mtF_go g, mtF_go g, b_csZ h5, b_cs hJ hR ho h5]
      obtain ⟨T, hT1, hT2⟩ := hT
      have hl1 : 1 ≤ lfN M o := by omega
      have etn : tN M = T := by unfold tN; rw [hT1]; exact nn_io (by omega)
      obtain ⟨c1, c2, _⟩ := cs_J hJ hR ho h4 hl1 (fun b s _ => Cl_ex hJ b s)
      obtain ⟨T', t1, t2, t3⟩ := cs_T hJ hR ho hT1 (by omega)
      rw [b_mt ho f _ c1 (cs_R hJ hR ho) c2 ⟨T', t1, by omega⟩ (u4 (Ux_cs hJ hR ho (Nat.le_refl n)) h5)]
theorem b_com (hK : Kv M n) (ho : o < n) (hs : mA M 19 o = 0 ∨ mA M 19 o = 4) (h4 : mA M 19 n = 4) : comF M (n + 1) o = comF M n o := by
  obtain ⟨T, hT, hT4⟩ := hK.2.2.2.2
  have h5 : mA (mAw M 19 o 4) 19 n = 4 := (aw_o (by omega)).trans h4
  have e1 : mtR M (n + 1) o = mtR M n o := by
    unfold mtR
    rw [b_mt ho 305 _ (Jv_4 hK.1 ho hs) (Ri_19 hK.2.1) w4_19 ⟨T, hT, hT4⟩ h5]
  have h6 : Ux M (seF (finF (mtR M n o) o) o) n := (Ux_mtR hK ho hs (Nat.le_refl n)).trans ((Ux_fin (by omega)).trans (Ux_se (by omega)))
  unfold comF
  rw [e1, b_po (u4 h6 h4)]
theorem b_lr : ∀ d k, k + d = n → ¬ mA M 19 n = 0 → lrG M (d + 1) k = lrG M d k
  | 0, k, hk, h => by
    have e : k = n := by omega
    subst e
    show (bif (decide (mA M 19 k = 0) && mB M 6 k) then some k else none) = none
    rw [decide_eq_false h]; rfl
  | d + 1, k, hk, h => by
    show (bif (decide (mA M 19 k = 0) && mB M 6 k) then some k else lrG M (d + 1) (k + 1)) = (bif (decide (mA M 19 k = 0) && mB M 6 k) then some k else lrG M d (k + 1))
    rw [b_lr d (k + 1) (by omega) h]
theorem b_fol : ∀ (f : Nat) (M : sM), Kv M n → mA M 19 n = 4 → folF (n + 1) f M = folF n f M
  | 0, _, _, _ => rfl
  | f + 1, M, hK, h4 => by
    have e : lrF M (n + 1) = lrF M n := b_lr (n := n) n 0 (Nat.zero_add n) (by rw [h4]; decide)
    cases h : lrF M n with
    | none => rw [fol_n h, fol_n (e.trans h)]
    | some o =>
      obtain ⟨ho, h0⟩ := lrF_s h
      rw [fol_s h, fol_s (e.trans h), b_com hK ho (Or.inl h0) h4]
      exact b_fol f _ (com_all hK ho (Or.inl h0)).1 (u4 (Ux_com hK ho (Or.inl h0) (Nat.le_refl n)) h4)
end S99b
