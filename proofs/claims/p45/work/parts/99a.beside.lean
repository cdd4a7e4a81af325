/-! a number that no function looks at (a throw's note, the count of orders) goes beside them all -/
section S100
variable {M M' M0 M1 N : sM} {n T b c m o k x K w f v F G e : Nat} {p a h d sz : Int32} {s z : Bool} {L l : List Nat} {V : TV} {j : Int32}
theorem jw_c {w : Int32} (h : ¬ G = F) : mIw (mIw M F j) G w = mIw (mIw M G w) F j := by
  refine Prod.ext rfl (Prod.ext rfl (funext fun x => ?_))
  show (if x = G then w else if x = F then j else mI M x) = (if x = F then j else if x = G then w else mI M x)
  by_cases e : x = G
  · rw [if_pos e, if_neg (fun g => h (e.symm.trans g)), if_pos e]
  · rw [if_neg e, if_neg e]
theorem jI (h : ¬ G = F) : mI (mIw M F j) G = mI M G := if_neg h
theorem cJ {A B A' B' : sM} {z : Bool} (h1 : A' = mIw A F j) (h2 : B' = mIw B F j) : (bif z then A' else B') = mIw (bif z then A else B) F j := by cases z; exact h2; exact h1
theorem aw_iwn {X : sM} {q G x : Nat} {w w' : Int32} : mAw (mIw X G w) q x w' = mIw (mAw X q x w') G w := Eq.trans (Eq.refl _) (Eq.refl _)
theorem bw_iwn {X : sM} {q G x : Nat} {w : Int32} {z : Bool} : mBw (mIw X G w) q x z = mIw (mBw X q x z) G w := Eq.trans (Eq.refl _) (Eq.refl _)
theorem A_In {X : sM} {G : Nat} {w : Int32} : mA (mIw X G w) = mA X := Eq.trans (Eq.refl _) (Eq.refl _)
theorem j_mk (h : ¬ 801 = F) : mkF (mIw M F j) T c m o p a s = mIw (mkF M T c m o p a s) F j := by
  unfold mkF
  simp only [aw_iwn, bw_iwn, A_In]
  exact jw_c h
theorem j_db (h : ¬ 801 = F) : dbF (mIw M F j) T b m o p a = mIw (dbF M T b m o p a) F j := by
  unfold dbF
  cases snd b with
  | none => exact j_mk h
  | some d =>
    show mkF (mkF (mIw M F j) T d o m (mA M 1 d) a false) (T + 1) (fst b) m o ((mA M 1 d) + p) a false = _
    rw [j_mk h, j_mk h]
theorem j_sh (h : ¬ 800 = F) : shF (mIw M F j) k s = mIw (shF M k s) F j := by
  cases s with
  | false => rfl
  | true =>
    have e : mI (mIw M F j) 800 = mI M 800 := jI h
    show mAw (mIw (mAw (mIw M F j) 17 k (mnc (mA M 16 k) (mA M 15 k))) 800 ((mI (mIw M F j) 800) + 1)) 18 k ((mI (mIw M F j) 800) + 1) = _
    rw [e]
    exact congrArg (fun X => mAw X 18 k ((mI M 800) + 1)) (jw_c (M := mAw M 17 k (mnc (mA M 16 k) (mA M 15 k))) h)
theorem j_of : ofF (mIw M F j) k a = mIw (ofF M k a) F j := cJ (z := decide (((mA M 15 k) - a) = 0)) rfl rfl
theorem j_cn : cnF (mIw M F j) k = mIw (cnF M k) F j := rfl
theorem j_rs (h : ¬ 800 = F) : rsF (mIw M F j) k = mIw (rsF M k) F j := j_sh (M := mAw M 19 k 1) h
theorem j_fl (h : ¬ 800 = F) : flF (mIw M F j) k a = mIw (flF M k a) F j := by
  have e : ofF (mAw (mIw M F j) 17 k ((mA (mIw M F j) 17 k) - a)) k a = mIw (ofF (mAw M 17 k ((mA M 17 k) - a)) k a) F j := j_of (M := mAw M 17 k ((mA M 17 k) - a))
  unfold flF
  rw [e]
  generalize ofF (mAw M 17 k ((mA M 17 k) - a)) k a = X
  exact cJ (z := decide (0 < mA X 15 k)) (cJ (z := decide (mA X 17 k = 0)) (j_sh h) rfl) rfl
theorem j_tk : tkF (mIw M F j) k a = mIw (tkF M k a) F j := rfl
theorem j_reL : ∀ k, reL (mIw M F j) n b p k = mIw (reL M n b p k) F j
  | 0 => rfl
  | k + 1 => by
    show reS (reL (mIw M F j) n b p k) n b p k = mIw (reS (reL M n b p k) n b p k) F j
    rw [j_reL k]; rfl
theorem j_re : reF (mIw M F j) n b p = mIw (reF M n b p) F j := j_reL n
theorem j_poS : poS (mIw M F j) n k = mIw (poS M n k) F j :=
  cJ (z := ((decide (0 < (mA M 8 (oM M k)))) && (decide ((mA M 8 (oM M k)) < (mA M 26 (oM M k)))))) (cJ (z := mB M 4 k) (cJ (z := decide ((mA M 19 k) = 1)) rfl rfl) rfl) rfl
theorem j_poL : ∀ k, poL (mIw M F j) n k = mIw (poL M n k) F j
  | 0 => rfl
  | k + 1 => by
    show poS (poL (mIw M F j) n k) n k = mIw (poS (poL M n k) n k) F j
    rw [j_poL k]; exact j_poS
theorem j_po : poF (mIw M F j) n = mIw (poF M n) F j := j_poL n
theorem j_mkL (h : ¬ 801 = F) : ∀ (l V : List Nat) (N : sM) (T : Nat), mkL (mIw M F j) o p l V (mIw N F j) T = mIw (mkL M o p l V N T) F j
  | x :: l, v :: V, N, T => by
    show (if 0 < v then mkL (mIw M F j) o p l V (dbF (mIw N F j) T (oB M o) (dbM M o x) (dbS M o x) p (io v)) (dbT (oB M o) T) else mkL (mIw M F j) o p l V (mIw N F j) T) = mIw (if 0 < v then mkL M o p l V (dbF N T (oB M o) (dbM M o x) (dbS M o x) p (io v)) (dbT (oB M o) T) else mkL M o p l V N T) F j
    by_cases e : 0 < v
    · rw [if_pos e, if_pos e, j_db h]; exact j_mkL h l V _ _
    · rw [if_neg e, if_neg e]; exact j_mkL h l V N T
  | [], _, N, T => rfl
  | _ :: _, [], N, T => rfl
theorem j_flL (h : ¬ 800 = F) : ∀ (l V : List Nat) (N : sM), flL l V (mIw N F j) = mIw (flL l V N) F j
  | x :: l, v :: V, N => by
    show flL l V (if 0 < v then flF (mIw N F j) x (io v) else mIw N F j) = mIw (flL l V (if 0 < v then flF N x (io v) else N)) F j
    by_cases e : 0 < v
    · rw [if_pos e, if_pos e, j_fl h]; exact j_flL h l V _
    · rw [if_neg e, if_neg e]; exact j_flL h l V N
  | [], _, N => rfl
  | _ :: _, [], N => rfl
theorem j_flS (h : ¬ 800 = F) : ∀ (l : List Nat) (N : sM), flS sz l (mIw N F j) = mIw (flS sz l N) F j
  | [], N => rfl
  | x :: l, N => by
    show flS sz l (flF (mIw N F j) x sz) = mIw (flS sz l (flF N x sz)) F j
    rw [j_fl h]; exact j_flS h l _
theorem j_mlG (h : ¬ 801 = F) : ∀ (l : List Nat) (k m : Nat) (N : sM) (T : Nat), mlG (mIw M F j) o sz z V k m l (mIw N F j) T = mIw (mlG M o sz z V k m l N T) F j
  | [], _, _, N, _ => rfl
  | x :: l, k, m, N, T => by
    have e : tlM (mIw M F j) o sz z V k m x (mIw N F j) T = mIw (tlM M o sz z V k m x N T) F j := by
      unfold tlM
      cases V.2.2.1 x with
      | none => rfl
      | some d => exact j_mk h
    show mlG (mIw M F j) o sz z V (k + 1) (bif z then m else oM M x) l (tlM (mIw M F j) o sz z V k m x (mIw N F j) T) (tlT V x T) = mIw (mlG M o sz z V (k + 1) (bif z then m else oM M x) l (tlM M o sz z V k m x N T) (tlT V x T)) F j
    rw [e]; exact j_mlG h l _ _ _ _
theorem j_rfL : ∀ (l : List Nat) (N : sM), rfL (mIw M F j) n l (mIw N F j) = mIw (rfL M n l N) F j
  | [], N => rfl
  | x :: l, N => by
    show rfL (mIw M F j) n l (reF (mIw N F j) n (oB M x) (mA M 14 x)) = mIw (rfL M n l (reF N n (oB M x) (mA M 14 x))) F j
    rw [j_re]; exact j_rfL l _
theorem j_own : ∀ (l : List Nat) (N : sM), ownF m l (mIw N F j) = mIw (ownF m l N) F j
  | [], N => rfl
  | x :: l, N => by
    show ownF m l (bif decide (oM N x = m) then cnF (mIw N F j) x else mIw N F j) = mIw (ownF m l (bif decide (oM N x = m) then cnF N x else N)) F j
    have e := cJ (j := j) (F := F) (z := decide (oM N x = m)) (A := cnF N x) (B := N) (A' := cnF (mIw N F j) x) (B' := mIw N F j) rfl rfl
    rw [e]; exact j_own l _
theorem j_sz : ∀ (l : List Nat) (s : Int32), szF (mIw M F j) l s = szF M l s
  | [], _ => rfl
  | x :: l, s => j_sz l (mnc (mA M 17 x) s)
theorem j_obL {Lg : List (Nat × Int32)} {g : Option Nat} : ∀ k, obL (mIw M F j) n Lg g k = obL M n Lg g k
  | 0 => rfl
  | k + 1 => by
    show obS (mIw M F j) n Lg k (obL (mIw M F j) n Lg g k) = obS M n Lg k (obL M n Lg g k)
    rw [j_obL k]; rfl
theorem j_ob {Lg : List (Nat × Int32)} : obF (mIw M F j) n Lg K = obF M n Lg K := j_obL K
theorem j_pcV : ∀ (l : List Nat) (c : Nat) (p : Int32) (V : TV), pcV (mIw M F j) c p l V = pcV M c p l V
  | [], _, _, _ => rfl
  | x :: l, c, p, V => by
    show (match snd (oB M x) with
      | none => pcV (mIw M F j) c p l (V.1, sU1 V.2.1 x p, sU1 V.2.2.1 x (some c), V.2.2.2)
      | some i => pcV (mIw M F j) (bif decide (fst (oB M x) = c) then i else fst (oB M x)) (p + (bif decide (fst (oB M x) = c) then (-(mA M 14 x)) else (mA M 14 x))) l (V.1, sU1 V.2.1 x p, sU1 V.2.2.1 x (some c), V.2.2.2)) = (match snd (oB M x) with
      | none => pcV M c p l (V.1, sU1 V.2.1 x p, sU1 V.2.2.1 x (some c), V.2.2.2)
      | some i => pcV M (bif decide (fst (oB M x) = c) then i else fst (oB M x)) (p + (bif decide (fst (oB M x) = c) then (-(mA M 14 x)) else (mA M 14 x))) l (V.1, sU1 V.2.1 x p, sU1 V.2.2.1 x (some c), V.2.2.2))
    cases snd (oB M x) with
    | none => exact j_pcV l _ _ _
    | some i => exact j_pcV l _ _ _
theorem j_psV : ∀ (l : List Nat) (k : Nat) (V : TV), psV (mIw M F j) b z k l V = psV M b z k l V
  | [], _, _ => rfl
  | x :: l, k, V => j_psV l (k + 1) _
theorem j_plV : plV (mIw M F j) b z p L V = plV M b z p L V := by
  unfold plV
  cases snd b with
  | none => exact j_pcV L _ _ _
  | some i => exact j_psV L _ _
theorem j_lgF : ∀ l : List (Nat × Bool), lgF (mIw M F j) n s l = lgF M n s l
  | [] => rfl
  | q :: r => by
    show (bif ((decide ((mA M 0 q.1) = 2)) && (!((bsF (mIw M F j) n q.1 (!(xor q.2 s))).isNone))) then (lgF (mIw M F j) n s r).map (fun l => ovD (bsF (mIw M F j) n q.1 (!(xor q.2 s))) :: l) else none) = (bif ((decide ((mA M 0 q.1) = 2)) && (!((bsF M n q.1 (!(xor q.2 s))).isNone))) then (lgF M n s r).map (fun l => ovD (bsF M n q.1 (!(xor q.2 s))) :: l) else none)
    rw [j_lgF r, bsF_m]
theorem j_lgO : lgO (mIw M F j) n b s w = lgO M n b s w := by
  unfold lgO
  cases lgs b w with
  | none => rfl
  | some l => exact j_lgF l
theorem j_prS : ∀ (r : List (Nat × Bool)) (a : Int32) (l : List Nat), prS (mIw M F j) a r l = prS M a r l
  | q :: r, a, o :: l => j_prS r _ l
  | [], _, _ => rfl
  | _ :: _, _, [] => rfl
theorem j_wok : wokF (mIw M F j) n b s w = wokF M n b s w := by unfold wokF; rw [j_lgO]
theorem j_wpr : wprF (mIw M F j) n b s w = wprF M n b s w := by
  unfold wprF prF
  rw [j_lgO, j_prS]
  rfl
theorem j_bw : bwF (mIw M F j) n b s = bwF M n b s := by
  unfold bwF
  simp only [j_wok, j_wpr]
theorem j_leg : legL (mIw M F j) n o w = legL M n o w := by
  show (bif (Nat.beq w 0 && mB M 0 (oB M o)) then Classical.epsilon (Lv M n (oB M o) (!(mB M 3 o)) (mA M 14 (ovD (bsF (mIw M F j) n (oB M o) (!(mB M 3 o)))))) else (lgO (mIw M F j) n (oB M o) (mB M 3 o) w).getD []) = _
  rw [bsF_m, j_lgO]; rfl
theorem j_csh (h : ¬ 800 = F) (h1 : ¬ 801 = F) {V : List Nat} : cshF (mIw M F j) n T o p L V = mIw (cshF M n T o p L V) F j := by
  unfold cshF
  rw [j_mkL h1, j_flL h, j_tk]
  exact j_re
theorem j_way (h : ¬ 800 = F) (h1 : ¬ 801 = F) : wayF (mIw M F j) n T o p L V = mIw (wayF M n T o p L V) F j := by
  unfold wayF
  rw [j_sz]
  have e : mA (mIw M F j) 15 o = mA M 15 o := rfl
  have e2 : oB (mIw M F j) o = oB M o := rfl
  have e3 : oM (mIw M F j) o = oM M o := rfl
  rw [e, e2, e3, j_mlG h1, j_flS h, j_tk, j_re, j_rfL]
theorem j_tr (h : ¬ 800 = F) (h1 : ¬ 801 = F) : trF (mIw M F j) n o w p L = mIw (trF M n o w p L) F j := by
  have e : tN (mIw M F j) = tN M := by unfold tN; rw [jI h1]
  unfold trF
  rw [e, j_plV]
  by_cases g : w = 0
  · rw [if_pos g, if_pos g]; exact j_csh h h1
  · rw [if_neg g, if_neg g]; exact j_way h h1
theorem j_stp {Lg : List (Nat × Int32)} {tr : sM} : stpM (mIw M F j) n o p L Lg (mIw tr F j) = mIw (stpM M n o p L Lg tr) F j := by
  unfold stpM
  refine cJ (z := badP M o p) rfl (cJ (z := ownB M (oM M o) L) (j_own L M) ?_)
  rw [j_ob]
  cases obF M n Lg Lg.length <;> rfl
theorem j_stpZ {Lg : List (Nat × Int32)} : stpZ (mIw M F j) n o p L Lg = stpZ M n o p L Lg := by
  unfold stpZ
  rw [j_ob]
  rfl
theorem j_Lg : LgF (mIw M F j) b w p L = LgF M b w p L := rfl
theorem j_cs (h : ¬ 800 = F) (h1 : ¬ 801 = F) : csM (mIw M F j) n o = mIw (csM M n o) F j := by
  have e2 : oB (mIw M F j) o = oB M o := rfl
  have e3 : mB (mIw M F j) 3 o = mB M 3 o := rfl
  unfold csM
  rw [e2, e3, j_bw]
  cases bwF M n (oB M o) (mB M 3 o) with
  | none => rfl
  | some w =>
    show stpM (mIw M F j) n o (wprF (mIw M F j) n (oB M o) (mB M 3 o) w) (legL (mIw M F j) n o w) (LgF (mIw M F j) (oB M o) w (wprF (mIw M F j) n (oB M o) (mB M 3 o) w) (legL (mIw M F j) n o w)) (trF (mIw M F j) n o w (wprF (mIw M F j) n (oB M o) (mB M 3 o) w) (legL (mIw M F j) n o w)) = _
    rw [j_wpr, j_leg, j_Lg, j_tr h h1, j_stp]
theorem j_csZ : csZ (mIw M F j) n o = csZ M n o := by
  have e2 : oB (mIw M F j) o = oB M o := rfl
  have e3 : mB (mIw M F j) 3 o = mB M 3 o := rfl
  unfold csZ
  rw [e2, e3, j_bw]
  cases bwF M n (oB M o) (mB M 3 o) with
  | none => rfl
  | some w =>
    show stpZ (mIw M F j) n o (wprF (mIw M F j) n (oB M o) (mB M 3 o) w) (legL (mIw M F j) n o w) (LgF (mIw M F j) (oB M o) w (wprF (mIw M F j) n (oB M o) (mB M 3 o) w) (legL (mIw M F j) n o w)) = _
    rw [j_wpr, j_leg, j_Lg, j_stpZ]
theorem j_mt (h : ¬ 800 = F) (h1 : ¬ 801 = F) : ∀ (f : Nat) (M : sM), mtF n o f (mIw M F j) = mIw (mtF n o f M) F j
  | 0, M => rfl
  | f + 1, M => by
    have e : tN (mIw M F j) = tN M := by unfold tN; rw [jI h1]
    show (if lfN M o = 0 ∨ 1500 ≤ tN (mIw M F j) then mIw M F j else bif csZ (mIw M F j) n o then mtF n o f (csM (mIw M F j) n o) else csM (mIw M F j) n o) = mIw (if lfN M o = 0 ∨ 1500 ≤ tN M then M else bif csZ M n o then mtF n o f (csM M n o) else csM M n o) F j
    rw [e, j_csZ, j_cs h h1]
    by_cases g : lfN M o = 0 ∨ 1500 ≤ tN M
    · rw [if_pos g, if_pos g]
    · rw [if_neg g, if_neg g]
      cases csZ M n o with
      | false => rfl
      | true => exact j_mt h h1 f _
theorem j_fin : finF (mIw M F j) o = mIw (finF M o) F j := cJ (z := decide (mA M 15 o = 0)) rfl rfl
theorem j_se (h : ¬ 800 = F) : seF (mIw M F j) o = mIw (seF M o) F j := cJ (z := decide (0 < mA M 15 o)) (cJ (z := mB M 5 o) rfl (j_rs h)) rfl
theorem j_mtR (h : ¬ 800 = F) (h1 : ¬ 801 = F) : mtR (mIw M F j) n o = mIw (mtR M n o) F j := cJ (z := decide (mA M 0 (oB M o) = 2)) (j_mt h h1 305 (mAw M 19 o 4)) rfl
/-- an order that comes -/
theorem j_com (h : ¬ 800 = F) (h1 : ¬ 801 = F) : comF (mIw M F j) n o = mIw (comF M n o) F j := by
  unfold comF
  rw [j_mtR h h1, j_fin, j_se h, j_po]
theorem j_lr : ∀ d k, lrG (mIw M F j) d k = lrG M d k
  | 0, _ => rfl
  | d + 1, k => by
    show (bif (decide (mA M 19 k = 0) && mB M 6 k) then some k else lrG (mIw M F j) d (k + 1)) = (bif (decide (mA M 19 k = 0) && mB M 6 k) then some k else lrG M d (k + 1))
    rw [j_lr d (k + 1)]
/-- all that follows -/
theorem j_fol (h : ¬ 800 = F) (h1 : ¬ 801 = F) : ∀ (f : Nat) (M : sM), folF n f (mIw M F j) = mIw (folF n f M) F j
  | 0, _ => rfl
  | f + 1, M => by
    show (match lrF (mIw M F j) n with | none => mIw M F j | some o => folF n f (comF (mIw M F j) n o)) = mIw (match lrF M n with | none => M | some o => folF n f (comF M n o)) F j
    rw [show lrF (mIw M F j) n = lrF M n from j_lr n 0]
    cases lrF M n with
    | none => rfl
    | some o =>
      show folF n f (comF (mIw M F j) n o) = mIw (folF n f (comF M n o)) F j
      rw [j_com h h1]; exact j_fol h h1 f _
theorem iw_id (h : mI M F = j) : mIw M F j = M := by
  refine sM_ext (fun _ _ => rfl) (fun _ _ => rfl) (fun x => ?_)
  show (if x = F then j else mI M x) = mI M x
  by_cases e : x = F
  · rw [if_pos e, e, h]
  · rw [if_neg e]
/-- so they leave it -/
theorem com_I (h : ¬ 800 = F) (h1 : ¬ 801 = F) : mI (comF M n o) F = mI M F := by
  have e := j_com (M := M) (n := n) (o := o) (j := mI M F) h h1
  rw [iw_id rfl] at e
  rw [e]; exact if_pos rfl
theorem fol_I (h : ¬ 800 = F) (h1 : ¬ 801 = F) : mI (folF n f M) F = mI M F := by
  have e := j_fol (n := n) (j := mI M F) h h1 f M
  rw [iw_id rfl] at e
  rw [e]; exact if_pos rfl
end S100
