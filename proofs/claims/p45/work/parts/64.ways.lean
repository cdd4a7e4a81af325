/-! steps by ways: the class's trades by legs, and the reference's steps, in the same words -/
section S64
variable {t t' : sT} {M M' M0 N : sM} {n T b c m o k x y K w : Nat} {p a d sz : Int32} {s z : Bool} {L L' l : List Nat} {V V0 : TV} {Q : sRs → sT → Prop}
/-- trades of the legs alone; takes of the legs alone; their books' triggers -/
def mlG (M0 : sM) (o : Nat) (sz : Int32) (z : Bool) (V : TV) : Nat → Nat → List Nat → sM → Nat → sM
  | _, _, [], M, _ => M
  | k, m, x :: l, M, T => mlG M0 o sz z V (k + 1) (bif z then m else oM M0 x) l (tlM M0 o sz z V k m x M T) (tlT V x T)
def flS (sz : Int32) : List Nat → sM → sM
  | [], M => M
  | x :: l, M => flS sz l (flF M x sz)
def rfL (M0 : sM) (n : Nat) : List Nat → sM → sM
  | [], M => M
  | x :: l, M => rfL M0 n l (reF M n (oB M0 x) (mA M0 14 x))
def clG (M0 : sM) (n : Nat) (sz : Int32) : List Nat → sM → sM
  | [], M => M
  | x :: l, M => clG M0 n sz l (flF (reF M n (oB M0 x) (mA M0 14 x)) x sz)
theorem pt1_tlM : tlM M0 o sz z V k m x (pt1 M N) T = pt1 M (tlM M0 o sz z V k m x N T) := by
  unfold tlM
  cases V.2.2.1 x with
  | none => rfl
  | some e => exact pt1_mk
theorem tlG_pt : ∀ (l : List Nat) (k m : Nat) (M N : sM) (T : Nat), tlG M0 n o sz z V k m l (pt1 M N) T = pt1 (clG M0 n sz l M) (mlG M0 o sz z V k m l N T)
  | [], _, _, _, _, _ => rfl
  | x :: l, k, m, M, N, T => by
    show tlG M0 n o sz z V (k + 1) (bif z then m else oM M0 x) l (flF (crF (tlM M0 o sz z V k m x (pt1 M N) T) n (oB M0 x) (mA M0 14 x)) x sz) (tlT V x T) = pt1 (clG M0 n sz l (flF (reF M n (oB M0 x) (mA M0 14 x)) x sz)) (mlG M0 o sz z V (k + 1) (bif z then m else oM M0 x) l (tlM M0 o sz z V k m x N T) (tlT V x T))
    rw [cr_re, pt1_tlM, pt1_re, pt1_fl]
    exact tlG_pt l (k + 1) _ _ _ _
theorem mlG_pt : ∀ (l : List Nat) (k m : Nat) (M N : sM) (T : Nat), mlG M0 o sz z V k m l (pt1 M N) T = pt1 M (mlG M0 o sz z V k m l N T)
  | [], _, _, _, _, _ => rfl
  | x :: l, k, m, M, N, T => by
    show mlG M0 o sz z V (k + 1) (bif z then m else oM M0 x) l (tlM M0 o sz z V k m x (pt1 M N) T) (tlT V x T) = pt1 M (mlG M0 o sz z V (k + 1) (bif z then m else oM M0 x) l (tlM M0 o sz z V k m x N T) (tlT V x T))
    rw [pt1_tlM]
    exact mlG_pt l (k + 1) _ _ _ _
theorem mlG_self (l : List Nat) (k m : Nat) (M : sM) (T : Nat) : mlG M0 o sz z V k m l M T = pt1 M (mlG M0 o sz z V k m l M T) := by
  have h := mlG_pt (M0 := M0) (o := o) (sz := sz) (z := z) (V := V) l k m M M T
  rw [pt1_self] at h
  exact h
theorem flS_re : ∀ (l : List Nat) (M : sM), (∀ x, x ∈ l → mA M 19 x = 1) → l.Nodup → flS sz l (reF M n b d) = reF (flS sz l M) n b d
  | [], _, _, _ => rfl
  | x :: l, M, hx, hN => by
    have hN2 := List.nodup_cons.mp hN
    have h2 := hx x List.mem_cons_self
    show flS sz l (flF (reF M n b d) x sz) = reF (flS sz l (flF M x sz)) n b d
    rw [re_fl h2]
    exact flS_re l _ (fun y hy => (st_flF (fun e => hN2.1 (by rw [← e]; exact hy))).trans (hx y (List.mem_cons_of_mem x hy))) hN2.2
theorem flS_tk : ∀ (l : List Nat) (M : sM), (∀ x, x ∈ l → ¬ x = o ∧ mA M 19 x = 1) → l.Nodup → flS sz l (tkF M o d) = tkF (flS sz l M) o d
  | [], _, _, _ => rfl
  | x :: l, M, hx, hN => by
    have hN2 := List.nodup_cons.mp hN
    obtain ⟨h1, h2⟩ := hx x List.mem_cons_self
    show flS sz l (flF (tkF M o d) x sz) = tkF (flS sz l (flF M x sz)) o d
    rw [tk_fl h1 h2]
    exact flS_tk l _ (fun y hy => ⟨(hx y (List.mem_cons_of_mem x hy)).1, (st_flF (fun e => hN2.1 (by rw [← e]; exact hy))).trans (hx y (List.mem_cons_of_mem x hy)).2⟩) hN2.2
theorem flS_pt : ∀ (l : List Nat) (M N : sM), flS sz l (pt1 M N) = pt1 (flS sz l M) N
  | [], _, _ => rfl
  | x :: l, M, N => by
    show flS sz l (flF (pt1 M N) x sz) = pt1 (flS sz l (flF M x sz)) N
    rw [pt1_fl]
    exact flS_pt l _ _
theorem rfL_pt : ∀ (l : List Nat) (M N : sM), rfL M0 n l (pt1 M N) = pt1 (rfL M0 n l M) N
  | [], _, _ => rfl
  | x :: l, M, N => by
    show rfL M0 n l (reF (pt1 M N) n (oB M0 x) (mA M0 14 x)) = pt1 (rfL M0 n l (reF M n (oB M0 x) (mA M0 14 x))) N
    rw [pt1_re]
    exact rfL_pt l _ _
theorem clG_eq : ∀ (l : List Nat) (M : sM), (∀ x, x ∈ l → mA M 19 x = 1) → l.Nodup → clG M0 n sz l M = rfL M0 n l (flS sz l M)
  | [], _, _, _ => rfl
  | x :: l, M, hx, hN => by
    have hN2 := List.nodup_cons.mp hN
    have h2 := hx x List.mem_cons_self
    have hl : ∀ y, y ∈ l → mA (flF M x sz) 19 y = 1 := fun y hy => (st_flF (fun e => hN2.1 (by rw [← e]; exact hy))).trans (hx y (List.mem_cons_of_mem x hy))
    show clG M0 n sz l (flF (reF M n (oB M0 x) (mA M0 14 x)) x sz) = rfL M0 n l (reF (flS sz l (flF M x sz)) n (oB M0 x) (mA M0 14 x))
    rw [re_fl h2, clG_eq l _ (fun y hy => (congrFun re_st y).trans (hl y hy)) hN2.2, flS_re l _ hl hN2.2]
/-- what the class's trades by legs leave: the order is still coming -/
def wayF (M : sM) (n T o : Nat) (p : Int32) (L : List Nat) (V : TV) : sM := rfL M n L (reF (tkF (flS (szF M L (mA M 15 o)) L (mlG M o (szF M L (mA M 15 o)) ((snd (oB M o)).isSome) V 0 (oM M o) L M T)) o (szF M L (mA M 15 o))) n (oB M o) p)
theorem tl_way (hx : ∀ x, x ∈ L → ¬ x = o ∧ mA M 19 x = 1) (hN : L.Nodup) : tlG M n o (szF M L (mA M 15 o)) ((snd (oB M o)).isSome) V 0 (oM M o) L (tkF (crF M n (oB M o) p) o (szF M L (mA M 15 o))) T = wayF M n T o p L V := by
  unfold wayF
  generalize szF M L (mA M 15 o) = sz
  have e1 : tkF (crF M n (oB M o) p) o sz = pt1 (reF (tkF M o sz) n (oB M o) p) M := by
    have h : tkF (reF (pt1 M M) n (oB M o) p) o sz = pt1 (tkF (reF M n (oB M o) p) o sz) M := by rw [pt1_re, pt1_tk]
    rw [pt1_self, re_tk] at h
    rw [cr_re, re_tk]
    exact h
  rw [e1, tlG_pt, clG_eq L (reF (tkF M o sz) n (oB M o) p) (fun x h => (congrFun re_st x).trans (show mA (tkF M o sz) 19 x = 1 from (hx x h).2)) hN, flS_re L (tkF M o sz) (fun x h => (hx x h).2) hN, flS_tk L M hx hN]
  rw [mlG_self L 0 (oM M o) M T, flS_pt, pt1_tk, pt1_re, rfL_pt, ← mlG_self]
theorem fin_rfL : ∀ (l : List Nat) (M : sM), mA M 19 o = 4 → finF (rfL M0 n l M) o = rfL M0 n l (finF M o)
  | [], _, _ => rfl
  | x :: l, M, h => by
    show finF (rfL M0 n l (reF M n (oB M0 x) (mA M0 14 x))) o = rfL M0 n l (reF (finF M o) n (oB M0 x) (mA M0 14 x))
    rw [fin_rfL l _ ((congrFun re_st o).trans h), fin_re h]
theorem flS_st : ∀ {l : List Nat} {M : sM}, ¬ y ∈ l → mA (flS sz l M) 19 y = mA M 19 y
  | [], _, _ => rfl
  | x :: l, M, h => (flS_st (l := l) (fun e => h (List.mem_cons_of_mem x e))).trans (st_flF (fun e => h (by rw [e]; exact List.mem_cons_self)))
theorem mlG_st (l : List Nat) (k m : Nat) : mA (mlG M0 o sz z V k m l M T) 19 = mA M 19 := by rw [mlG_self]; exact funext fun q => pt1_rA rfl
theorem way_fin (h19 : mA M 19 o = 4) (ho : ¬ o ∈ L) : finF (wayF M n T o p L V) o = rfL M n L (reF (ofF (flS (szF M L (mA M 15 o)) L (mlG M o (szF M L (mA M 15 o)) ((snd (oB M o)).isSome) V 0 (oM M o) L M T)) o (szF M L (mA M 15 o))) n (oB M o) p) := by
  have e : mA (flS (szF M L (mA M 15 o)) L (mlG M o (szF M L (mA M 15 o)) ((snd (oB M o)).isSome) V 0 (oM M o) L M T)) 19 o = 4 := by rw [flS_st ho, mlG_st]; exact h19
  unfold wayF
  generalize flS (szF M L (mA M 15 o)) L (mlG M o (szF M L (mA M 15 o)) ((snd (oB M o)).isSome) V 0 (oM M o) L M T) = N2 at e ⊢
  generalize szF M L (mA M 15 o) = sz
  have e2 : mA (tkF N2 o sz) 19 o = 4 := e
  rw [fin_rfL L (reF (tkF N2 o sz) n (oB M o) p) ((congrFun re_st o).trans e2), fin_re e2, fin_tk]
/-! a step: what is left, and whether it goes on -/
def stpM (M : sM) (n o : Nat) (p : Int32) (L : List Nat) (Lg : List (Nat × Int32)) (tr : sM) : sM := bif badP M o p then M else bif ownB M (oM M o) L then ownF (oM M o) L M else match obF M n Lg Lg.length with
  | none => tr
  | some c => mAw M 0 c 3
def stpZ (M : sM) (n o : Nat) (p : Int32) (L : List Nat) (Lg : List (Nat × Int32)) : Bool := bif badP M o p then false else bif ownB M (oM M o) L then true else match obF M n Lg Lg.length with
  | none => true
  | some c => !(decide (c = oB M o)) && L.any (fun x => decide (oB M x = c))
theorem ownF_15 : ∀ {l : List Nat} {M : sM}, mA (ownF m l M) 15 = mA M 15
  | [], _ => rfl
  | x :: l, M => by
    show mA (ownF m l (bif decide (oM M x = m) then cnF M x else M)) 15 = mA M 15
    rw [ownF_15]
    cases decide (oM M x = m) <;> rfl
theorem fin_no (h : ¬ mA M 15 o = 0) : finF M o = M := by unfold finF; rw [decide_eq_false h]; rfl
theorem bif_same {α : Type} {z : Bool} {u : α} : (bif z then u else u) = u := by cases z <;> rfl
theorem sU1_s2 {α : Type} {f : Nat → α} {x y : Nat} {u v : α} (h : ¬ x = y) : sU1 (sU1 f x u) y v x = u := (if_neg h).trans (if_pos rfl)
theorem sU1_s3 {α : Type} {f : Nat → α} {x y w : Nat} {u v r : α} (h : ¬ x = y) (h2 : ¬ x = w) : sU1 (sU1 (sU1 f x u) y v) w r x = u := (if_neg h2).trans ((if_neg h).trans (if_pos rfl))
theorem mb_tl {e : Nat} {q : Int32} (h1 : V.2.2.1 x = some e) (h2 : V.2.1 x = q) (hz : tlB M0 o z k = s) : tlM M0 o sz z V k m x N T = mbF N T e s m (oM M0 x) q sz true := by
  unfold tlM
  rw [h1, h2, hz]
  rfl
theorem tlT_s {e : Nat} (h1 : V.2.2.1 x = some e) : tlT V x T = T + 1 := by unfold tlT; rw [h1]
end S64
