/-! the reference's ways (printed by refgen.py) -/
/-- the legs of a way of a book: their books, and whether the side is that of the order that comes -/
def lgs (b w : Nat) : Option (List (Nat × Bool)) :=
  match b, w with
  | 0, 0 => some [(0, false)]
  | 0, 1 => some [(3, false), (1, false)]
  | 0, 2 => some [(3, false), (4, false), (2, false)]
  | 1, 0 => some [(1, false)]
  | 1, 1 => some [(4, false), (2, false)]
  | 1, 2 => some [(3, true), (0, false)]
  | 2, 0 => some [(2, false)]
  | 2, 1 => some [(4, true), (1, false)]
  | 2, 2 => some [(4, true), (3, true), (0, false)]
  | 3, 0 => some [(3, false)]
  | 3, 1 => some [(0, false), (1, true)]
  | 4, 0 => some [(4, false)]
  | 4, 1 => some [(1, false), (2, true)]
  | _, _ => none
def zok (M : sM) (n b : Nat) (x : Bool) : Bool := ((decide ((mA M 0 b) = 2)) && (!((bsF M n b x).isNone)))
def lgF (M : sM) (n : Nat) (s : Bool) : List (Nat × Bool) → Option (List Nat)
  | [] => some []
  | q :: r => bif zok M n q.1 (!(xor q.2 s)) then (lgF M n s r).map (fun l => ovD (bsF M n q.1 (!(xor q.2 s))) :: l) else none
def lgO (M : sM) (n b : Nat) (s : Bool) (w : Nat) : Option (List Nat) := match lgs b w with
  | none => none
  | some l => lgF M n s l
def prS (M : sM) : Int32 → List (Nat × Bool) → List Nat → Int32
  | a, q :: r, o :: l => prS M (a + (bif q.2 then (-(mA M 14 o)) else (mA M 14 o))) r l
  | a, _, _ => a
def prF (M : sM) (b w : Nat) (L : List Nat) : Int32 := bif (Nat.ble 3 b && Nat.beq w 1) then (mA M 14 (L.getD 0 0)) - (mA M 14 (L.getD 1 0)) else prS M 0 ((lgs b w).getD []) L
def wokF (M : sM) (n b : Nat) (s : Bool) (w : Nat) : Bool := (lgO M n b s w).isSome
def wprF (M : sM) (n b : Nat) (s : Bool) (w : Nat) : Int32 := prF M b w ((lgO M n b s w).getD [])
/-- the orders that are noted down as taken -/
def Tka (t : sT) : Nat → List Nat → Prop
  | _, [] => True
  | i, o :: l => sA t 21 27 i = io o ∧ Tka t (i + 1) l
def Tk (t : sT) (L : List Nat) : Prop := sI t 811 0 = io L.length ∧ Tka t 0 L
section S42
variable {t t' : sT} {M : sM} {n b : Nat} {s tb : Bool} {r : List (Nat × Bool)} {L : List Nat}
theorem bsS_lt {k : Nat} {f : Option Nat} (hk : k < n) (hf : ∀ j, f = some j → j < n) : ∀ j, bsS M n b s k f = some j → j < n := obd_c (obd_c (obd_s hk) (obd_c (obd_s hk) hf)) hf
theorem bsL_lt {f : Option Nat} (hf : ∀ j, f = some j → j < n) : ∀ k, k ≤ n → ∀ j, bsL M n b s f k = some j → j < n
  | 0, _ => hf
  | k + 1, h => bsS_lt (by omega) (bsL_lt hf k (by omega))
theorem bsF_lt : ∀ j, bsF M n b s = some j → j < n := bsL_lt obd_n n (Nat.le_refl n)
theorem an_n {z : Bool} {r : Option Nat} (h : (z && (!r.isNone)) = true) : r.isNone = false := by
  cases z <;> cases hr : r.isNone <;> rw [hr] at h <;> first | rfl | cases h
theorem lgF_s (h : zok M n b (!(xor tb s)) = true) : (lgF M n s ((b, tb) :: r)).isSome = (lgF M n s r).isSome := by
  show (bif zok M n b (!(xor tb s)) then _ else none : Option (List Nat)).isSome = _
  rw [h]
  show ((lgF M n s r).map _).isSome = _
  cases lgF M n s r <;> rfl
theorem lgF_n (h : zok M n b (!(xor tb s)) = false) : (lgF M n s ((b, tb) :: r)).isSome = false := by
  show (bif zok M n b (!(xor tb s)) then _ else none : Option (List Nat)).isSome = _
  rw [h]; rfl
theorem lgF_1 : (lgF M n s [(b, tb)]).isSome = zok M n b (!(xor tb s)) := by
  cases h : zok M n b (!(xor tb s)) with
  | false => exact lgF_n h
  | true => exact lgF_s h
theorem lgF_i (h : lgF M n s ((b, tb) :: r) = some L) : ∃ l, zok M n b (!(xor tb s)) = true ∧ lgF M n s r = some l ∧ ovD (bsF M n b (!(xor tb s))) < n ∧ L = ovD (bsF M n b (!(xor tb s))) :: l := by
  cases hz : zok M n b (!(xor tb s)) with
  | false =>
    have h1 := lgF_n (r := r) hz
    rw [h] at h1; cases h1
  | true =>
    have h : (bif zok M n b (!(xor tb s)) then (lgF M n s r).map (fun l => ovD (bsF M n b (!(xor tb s))) :: l) else none) = some L := h
    rw [hz] at h
    have h : (lgF M n s r).map (fun l => ovD (bsF M n b (!(xor tb s))) :: l) = some L := h
    cases hr : lgF M n s r with
    | none => rw [hr] at h; cases h
    | some l =>
      rw [hr] at h
      exact ⟨l, rfl, rfl, ov_lt (an_n hz) bsF_lt, (Option.some.inj h).symm⟩
theorem lgF_nil (h : lgF M n s [] = some L) : L = [] := (Option.some.inj h).symm
theorem gsome {α : Type} {r : Option α} {d : α} (h : r.isSome = true) : r = some (r.getD d) := by
  cases r with
  | none => cases h
  | some x => rfl
theorem Tka_sp (h : sp t' = sp t) : ∀ (l : List Nat) (i : Nat), Tka t i l → Tka t' i l
  | [], _, _ => trivial
  | _ :: l, i, k => ⟨(sA_sp h rfl).trans k.1, Tka_sp h l (i + 1) k.2⟩
theorem Tk_sp (h : sp t' = sp t) (k : Tk t L) : Tk t' L := ⟨(sI_sp h).trans k.1, Tka_sp h L 0 k.2⟩
end S42
set_option maxHeartbeats 4000000 in
set_option maxRecDepth 10000 in
theorem r159_00 {t : sT} {Q : sRs → sT → Prop} {M : sM} {n : Nat} {s : Bool} (hM : rp t = M) (hc : Cn t) (hR : Ri M n)
    (q : ∀ t', rp t' = M → cp t' = cp t → (∀ L, lgO M n 0 s 0 = some L → Tk t' L) → Q (.inl (some (.inl (bz (lgO M n 0 s 0).isSome)))) t') :
    X 159 0 [.inr (.inr (12, (some 0))), .inl 0, .inl (bz s), .inl 0, sJk, sJk, sJk] [] t Q := by
  refine x_iload_n (pc' := 1) rfl rfl rfl ?_
  refine x_iload_n (pc' := 2) rfl rfl rfl ?_
  refine x_iconst (pc' := 3) rfl rfl ?_
  refine x_cs (ls0 := [_, _, _, sJk, sJk, sJk]) (rest := []) rfl rfl rfl rfl ?_
  refine x_getstatic (pc' := 3) rfl rfl (show 1 < sC t 28 from gst1 hc) ?_
  refine x_iconst (pc' := 4) rfl rfl ?_
  refine x_iload_n (pc' := 5) rfl rfl rfl ?_
  refine x_imul (pc' := 6) (z := 0) rfl rfl (by decide) ?_
  refine x_iload_n (pc' := 7) rfl rfl rfl ?_
  refine x_iadd (pc' := 8) (z := 0) rfl rfl (by decide) ?_
  refine x_iald (pc' := 9) (N := 15) (x := 1) rfl rfl rfl (kN_28_1 hc) (io_in (p := 0) (N := 15) (by decide) (by decide)) (Eq.trans (congrArg (sA t 28 1) (nn_io (p := 0) (by decide))) ((hc.2.2.2.2.2 0).2.trans rfl)) ?_
  refine x_istore_n (pc' := 10) (ls' := [_, _, _, _, _, _]) rfl rfl rfl rfl ?_
  refine x_iload_n (pc' := 11) rfl rfl rfl ?_
  refine x_bipush (pc' := 13) rfl rfl ?_
  refine x_icmp (a' := 20) (pc' := 16) (z := true) rfl rfl rfl (by decide) (fun _ => ?_) (fun h => by cases h)
  refine x_iload_n (pc' := 21) rfl rfl rfl ?_
  refine x_bipush (pc' := 23) rfl rfl ?_
  refine x_icmp (a' := 30) (pc' := 26) (z := true) rfl rfl rfl (by decide) (fun _ => ?_) (fun h => by cases h)
  refine x_iload_n (pc' := 31) rfl rfl rfl ?_
  refine x_if (a' := 38) (pc' := 34) (z := false) rfl rfl rfl (by decide) (fun h => by cases h) (fun _ => ?_)
  refine x_iconst (pc' := 35) rfl rfl ?_
  refine x_goto (pc' := 39) rfl rfl ?_
  refine x_istore (pc' := 41) (ls' := [_, _, _, _, _, _]) rfl rfl rfl rfl ?_
  refine x_iload (pc' := 43) rfl rfl rfl ?_
  refine x_iload_n (pc' := 44) rfl rfl rfl ?_
  refine x_isub (pc' := 45) (z := 1) rfl rfl (by decide) ?_
  refine x_istore (pc' := 47) (ls' := [_, _, _, _, _, _]) rfl rfl rfl rfl ?_
  refine x_iload (pc' := 49) rfl rfl rfl ?_
  refine x_if (a' := 56) (pc' := 52) (z := true) rfl rfl rfl (by decide) (fun _ => ?_) (fun h => by cases h)
  refine x_iload (pc' := 58) rfl rfl rfl ?_
  refine x_iconst (pc' := 59) rfl rfl ?_
  refine x_icmp (a' := 69) (pc' := 62) (z := true) rfl rfl rfl (by decide) (fun _ => ?_) (fun h => by cases h)
  refine x_iload (pc' := 71) rfl rfl rfl ?_
  refine x_iconst (pc' := 72) rfl rfl ?_
  refine x_icmp (a' := 85) (pc' := 75) (z := true) rfl rfl rfl (by decide) (fun _ => ?_) (fun h => by cases h)
  refine x_iload_n (pc' := 86) rfl rfl rfl ?_
  refine x_bipush (pc' := 88) rfl rfl ?_
  refine x_irem (pc' := 89) (z := 1) rfl rfl (by decide) (by decide +kernel) ?_
  refine x_iconst (pc' := 90) rfl rfl ?_
  refine x_isub (pc' := 91) (z := 0) rfl rfl (by decide) ?_
  refine x_reti rfl rfl ?_
  refine sK_i (pc' := 6) rfl ?_
  refine x_iconst (pc' := 7) rfl rfl ?_
  refine x_icmp (a' := 14) (pc' := 10) (z := false) rfl rfl rfl (by decide) (fun h => by cases h) (fun _ => ?_)
  refine x_iconst (pc' := 11) rfl rfl ?_
  refine x_goto (pc' := 15) rfl rfl ?_
  refine x_istore (pc' := 17) (ls' := [_, _, _, _, _, _, _]) rfl rfl rfl rfl ?_
  refine x_aload_n (pc' := 18) rfl rfl rfl rfl rfl ?_
  refine x_iconst (pc' := 19) rfl rfl ?_
  refine x_pI (pc' := 22) rfl rfl rfl ?_
  refine x_iconst (pc' := 23) rfl rfl ?_
  refine x_istore (pc' := 25) (ls' := [_, _, _, _, _, _, _]) rfl rfl rfl rfl ?_
  refine x_iload (pc' := 27) rfl rfl rfl ?_
  refine x_iconst (pc' := 28) rfl rfl ?_
  refine x_icmp (a' := 129) (pc' := 31) (z := false) rfl rfl rfl (by decide) (fun h => by cases h) (fun _ => ?_)
  refine x_iload (pc' := 33) rfl rfl rfl ?_
  refine x_if (a' := 129) (pc' := 36) (z := false) rfl rfl rfl (by decide) (fun h => by cases h) (fun _ => ?_)
  refine x_iload_n (pc' := 37) rfl rfl rfl ?_
  refine x_iload_n (pc' := 38) rfl rfl rfl ?_
  refine x_iload (pc' := 40) rfl rfl rfl ?_
  refine x_cs (ls0 := [_, _, _, sJk, sJk, sJk]) (rest := []) rfl rfl rfl rfl ?_
  refine x_getstatic (pc' := 3) rfl rfl (show 1 < sC t 28 from gst1 hc) ?_
  refine x_iconst (pc' := 4) rfl rfl ?_
  refine x_iload_n (pc' := 5) rfl rfl rfl ?_
  refine x_imul (pc' := 6) (z := 0) rfl rfl (by decide) ?_
  refine x_iload_n (pc' := 7) rfl rfl rfl ?_
  refine x_iadd (pc' := 8) (z := 0) rfl rfl (by decide) ?_
  refine x_iald (pc' := 9) (N := 15) (x := 1) rfl rfl rfl (Eq.trans rdNI (kN_28_1 hc)) (io_in (p := 0) (N := 15) (by decide) (by decide)) (Eq.trans (congrArg (sA (sIw t 811 0 0) 28 1) (nn_io (p := 0) (by decide))) (Eq.trans (b := sA t 28 1 0) rfl ((hc.2.2.2.2.2 0).2.trans rfl))) ?_
  refine x_istore_n (pc' := 10) (ls' := [_, _, _, _, _, _]) rfl rfl rfl rfl ?_
  refine x_iload_n (pc' := 11) rfl rfl rfl ?_
  refine x_bipush (pc' := 13) rfl rfl ?_
  refine x_icmp (a' := 20) (pc' := 16) (z := true) rfl rfl rfl (by decide) (fun _ => ?_) (fun h => by cases h)
  refine x_iload_n (pc' := 21) rfl rfl rfl ?_
  refine x_bipush (pc' := 23) rfl rfl ?_
  refine x_icmp (a' := 30) (pc' := 26) (z := true) rfl rfl rfl (by decide) (fun _ => ?_) (fun h => by cases h)
  refine x_iload_n (pc' := 31) rfl rfl rfl ?_
  refine x_if (a' := 38) (pc' := 34) (z := false) rfl rfl rfl (by decide) (fun h => by cases h) (fun _ => ?_)
  refine x_iconst (pc' := 35) rfl rfl ?_
  refine x_goto (pc' := 39) rfl rfl ?_
  refine x_istore (pc' := 41) (ls' := [_, _, _, _, _, _]) rfl rfl rfl rfl ?_
  refine x_iload (pc' := 43) rfl rfl rfl ?_
  refine x_iload_n (pc' := 44) rfl rfl rfl ?_
  refine x_isub (pc' := 45) (z := 1) rfl rfl (by decide) ?_
  refine x_istore (pc' := 47) (ls' := [_, _, _, _, _, _]) rfl rfl rfl rfl ?_
  refine x_iload (pc' := 49) rfl rfl rfl ?_
  refine x_if (a' := 56) (pc' := 52) (z := true) rfl rfl rfl (by decide) (fun _ => ?_) (fun h => by cases h)
  refine x_iload (pc' := 58) rfl rfl rfl ?_
  refine x_iconst (pc' := 59) rfl rfl ?_
  refine x_icmp (a' := 69) (pc' := 62) (z := true) rfl rfl rfl (by decide) (fun _ => ?_) (fun h => by cases h)
  refine x_iload (pc' := 71) rfl rfl rfl ?_
  refine x_iconst (pc' := 72) rfl rfl ?_
  refine x_icmp (a' := 85) (pc' := 75) (z := true) rfl rfl rfl (by decide) (fun _ => ?_) (fun h => by cases h)
  refine x_iload_n (pc' := 86) rfl rfl rfl ?_
  refine x_bipush (pc' := 88) rfl rfl ?_
  refine x_irem (pc' := 89) (z := 1) rfl rfl (by decide) (by decide +kernel) ?_
  refine x_iconst (pc' := 90) rfl rfl ?_
  refine x_isub (pc' := 91) (z := 0) rfl rfl (by decide) ?_
  refine x_reti rfl rfl ?_
  refine sK_i (pc' := 43) rfl ?_
  refine x_istore (pc' := 45) (ls' := [_, _, _, _, _, _, _]) rfl rfl rfl rfl ?_
  refine x_iload (pc' := 47) rfl rfl rfl ?_
  refine x_iconst (pc' := 48) rfl rfl ?_
  refine x_icmp (a' := 123) (pc' := 51) (z := false) rfl rfl rfl (by decide) (fun h => by cases h) (fun _ => ?_)
  refine x_aload_n (pc' := 52) rfl rfl rfl rfl rfl ?_
  refine x_gR (pc' := 55) (r := (some 27)) rfl rfl rfl (Eq.trans (b := sR t 809 0) rfl (kR_809_0 hc)) ?_
  refine x_aload_n (pc' := 56) rfl rfl rfl rfl rfl ?_
  refine x_gI (pc' := 59) (x := 0) rfl rfl rfl sI_s ?_
  refine x_aload_n (pc' := 60) rfl rfl rfl rfl rfl ?_
  refine x_iload (pc' := 62) rfl rfl rfl ?_
  refine x_iload_n (pc' := 63) rfl rfl rfl ?_
  refine x_iload_n (pc' := 64) rfl rfl rfl ?_
  refine x_iload (pc' := 66) rfl rfl rfl ?_
  refine x_cs (ls0 := [_, _, _, sJk]) (rest := [_, _, _, _]) rfl rfl rfl rfl ?_
  refine x_iload_n (pc' := 1) rfl rfl rfl ?_
  refine x_iload_n (pc' := 2) rfl rfl rfl ?_
  refine x_iload_n (pc' := 3) rfl rfl rfl ?_
  refine x_cs (ls0 := [_, _, _, sJk, sJk, sJk]) (rest := []) rfl rfl rfl rfl ?_
  refine x_getstatic (pc' := 3) rfl rfl (show 1 < sC t 28 from gst1 hc) ?_
  refine x_iconst (pc' := 4) rfl rfl ?_
  refine x_iload_n (pc' := 5) rfl rfl rfl ?_
  refine x_imul (pc' := 6) (z := 0) rfl rfl (by decide) ?_
  refine x_iload_n (pc' := 7) rfl rfl rfl ?_
  refine x_iadd (pc' := 8) (z := 0) rfl rfl (by decide) ?_
  refine x_iald (pc' := 9) (N := 15) (x := 1) rfl rfl rfl (Eq.trans rdNI (kN_28_1 hc)) (io_in (p := 0) (N := 15) (by decide) (by decide)) (Eq.trans (congrArg (sA (sIw t 811 0 0) 28 1) (nn_io (p := 0) (by decide))) (Eq.trans (b := sA t 28 1 0) rfl ((hc.2.2.2.2.2 0).2.trans rfl))) ?_
  refine x_istore_n (pc' := 10) (ls' := [_, _, _, _, _, _]) rfl rfl rfl rfl ?_
  refine x_iload_n (pc' := 11) rfl rfl rfl ?_
  refine x_bipush (pc' := 13) rfl rfl ?_
  refine x_icmp (a' := 20) (pc' := 16) (z := true) rfl rfl rfl (by decide) (fun _ => ?_) (fun h => by cases h)
  refine x_iload_n (pc' := 21) rfl rfl rfl ?_
  refine x_bipush (pc' := 23) rfl rfl ?_
  refine x_icmp (a' := 30) (pc' := 26) (z := true) rfl rfl rfl (by decide) (fun _ => ?_) (fun h => by cases h)
  refine x_iload_n (pc' := 31) rfl rfl rfl ?_
  refine x_if (a' := 38) (pc' := 34) (z := false) rfl rfl rfl (by decide) (fun h => by cases h) (fun _ => ?_)
  refine x_iconst (pc' := 35) rfl rfl ?_
  refine x_goto (pc' := 39) rfl rfl ?_
  refine x_istore (pc' := 41) (ls' := [_, _, _, _, _, _]) rfl rfl rfl rfl ?_
  refine x_iload (pc' := 43) rfl rfl rfl ?_
  refine x_iload_n (pc' := 44) rfl rfl rfl ?_
  refine x_isub (pc' := 45) (z := 1) rfl rfl (by decide) ?_
  refine x_istore (pc' := 47) (ls' := [_, _, _, _, _, _]) rfl rfl rfl rfl ?_
  refine x_iload (pc' := 49) rfl rfl rfl ?_
  refine x_if (a' := 56) (pc' := 52) (z := true) rfl rfl rfl (by decide) (fun _ => ?_) (fun h => by cases h)
  refine x_iload (pc' := 58) rfl rfl rfl ?_
  refine x_iconst (pc' := 59) rfl rfl ?_
  refine x_icmp (a' := 69) (pc' := 62) (z := true) rfl rfl rfl (by decide) (fun _ => ?_) (fun h => by cases h)
  refine x_iload (pc' := 71) rfl rfl rfl ?_
  refine x_iconst (pc' := 72) rfl rfl ?_
  refine x_icmp (a' := 85) (pc' := 75) (z := true) rfl rfl rfl (by decide) (fun _ => ?_) (fun h => by cases h)
  refine x_iload_n (pc' := 86) rfl rfl rfl ?_
  refine x_bipush (pc' := 88) rfl rfl ?_
  refine x_irem (pc' := 89) (z := 1) rfl rfl (by decide) (by decide +kernel) ?_
  refine x_iconst (pc' := 90) rfl rfl ?_
  refine x_isub (pc' := 91) (z := 0) rfl rfl (by decide) ?_
  refine x_reti rfl rfl ?_
  refine sK_i (pc' := 6) rfl ?_
  refine x_istore_n (pc' := 7) (ls' := [_, _, _, _]) rfl rfl rfl rfl ?_
  refine x_iload_n (pc' := 8) rfl rfl rfl ?_
  refine x_iconst (pc' := 9) rfl rfl ?_
  refine x_icmp (a' := 31) (pc' := 12) (z := false) rfl rfl rfl (by decide) (fun h => by cases h) (fun _ => ?_)
  refine x_iload_n (pc' := 13) rfl rfl rfl ?_
  refine x_iconst (pc' := 14) rfl rfl ?_
  refine x_icmp (a' := 29) (pc' := 17) (z := true) rfl rfl rfl (by decide) (fun _ => ?_) (fun h => by cases h)
  refine x_iconst (pc' := 30) rfl rfl ?_
  refine x_retz (z := false) rfl rfl ?_
  refine sK_i (pc' := 69) rfl ?_
  refine x_iload_n (pc' := 70) rfl rfl rfl ?_
  have J25 : X 159 78 [.inr (.inr (12, (some 0))), .inl 0, .inl (bz s), .inl 0, .inl 1, .inl 0, .inl 0] [.inl (bz (!(xor false s))), .inl 0, .inr (.inr (12, (some 0))), .inl 0, .inr (.inr (21, (some 27)))] (sIw t 811 0 0) Q := by
    refine x_cv (ls0 := [_, _, _, sJk, sJk, sJk]) (rest := [_, _]) rfl rfl rfl rfl rfl ?_
    refine r153 (b := 0) (s := (!(xor false s))) ((rp_Ic rfl).trans hM) (Cn_cp (cp_I rfl) hc) (Fr.ri (Fr.refl _) hR) (show 0 < 5 by decide) (fun b1 => ?_)
    refine sK_i (pc' := 81) rfl ?_
    refine x_iast (pc' := 82) (N := 200) (p := 0) rfl rfl rfl (Eq.trans rdNI (kN_21_27 hc)) (io_in (p := 0) (N := 200) (by decide) (by decide)) (nn_io (p := 0) (by decide)) ?_
    refine x_aload_n (pc' := 83) rfl rfl rfl rfl rfl ?_
    refine x_gR (pc' := 86) (r := (some 0)) rfl rfl rfl (Eq.trans (b := sR t 769 0) rfl (kR_769_0 hc)) ?_
    refine x_iload (pc' := 88) rfl rfl rfl ?_
    refine x_iald (pc' := 89) (N := 5) (x := (mA M 0 0)) rfl rfl rfl (Eq.trans rdNA (Eq.trans rdNI (kN_21_0 hc))) (io_in (p := 0) (N := 5) (by decide) (by decide)) (Eq.trans (congrArg (sA (sAw (sIw t 811 0 0) 21 27 0 (ov (bsF M n 0 (!(xor false s))))) 21 0) (nn_io (p := 0) (by decide))) (Eq.trans (b := sA t 21 0 0) rfl (gA hM rfl))) ?_
    refine x_iconst (pc' := 90) rfl rfl ?_
    have J28 : X 159 111 [.inr (.inr (12, (some 0))), .inl 0, .inl (bz s), .inl 0, .inl 1, .inl 0, .inl 0] [.inl (bz ((decide ((mA M 0 0) = 2)) && (!((bsF M n 0 (!(xor false s))).isNone))))] (sAw (sIw t 811 0 0) 21 27 0 (ov (bsF M n 0 (!(xor false s))))) Q := by
      refine x_istore (pc' := 113) (ls' := [_, _, _, _, _, _, _]) rfl rfl rfl rfl ?_
      refine x_aload_n (pc' := 114) rfl rfl rfl rfl rfl ?_
      refine x_dup (pc' := 115) rfl rfl rfl ?_
      refine x_gI (pc' := 118) (x := 0) rfl rfl rfl (Eq.trans rdIA sI_s) ?_
      refine x_iconst (pc' := 119) rfl rfl ?_
      refine x_iadd (pc' := 120) (z := 1) rfl rfl (by decide) ?_
      refine x_pI (pc' := 123) rfl rfl rfl ?_
      refine x_iinc (pc' := 126) (y := 1) (ls' := [_, _, _, _, _, _, _]) rfl rfl rfl rfl rfl ?_
      refine x_goto (pc' := 25) rfl rfl ?_
      refine x_iload (pc' := 27) rfl rfl rfl ?_
      refine x_iconst (pc' := 28) rfl rfl ?_
      refine x_icmp (a' := 129) (pc' := 31) (z := false) rfl rfl rfl (by decide) (fun h => by cases h) (fun _ => ?_)
      refine x_iload (pc' := 33) rfl rfl rfl ?_
      have J44 : X 159 129 [.inr (.inr (12, (some 0))), .inl 0, .inl (bz s), .inl 0, .inl (bz ((decide ((mA M 0 0) = 2)) && (!((bsF M n 0 (!(xor false s))).isNone)))), .inl (bif ((decide ((mA M 0 0) = 2)) && (!((bsF M n 0 (!(xor false s))).isNone))) then 3 else 1), .inl (bif ((decide ((mA M 0 0) = 2)) && (!((bsF M n 0 (!(xor false s))).isNone))) then (-1) else 0)] [] (sIw (sAw (sIw t 811 0 0) 21 27 0 (ov (bsF M n 0 (!(xor false s))))) 811 0 1) Q := by
        refine x_iload (pc' := 131) rfl rfl rfl ?_
        refine x_retz (z := ((decide ((mA M 0 0) = 2)) && (!((bsF M n 0 (!(xor false s))).isNone)))) rfl rfl ?_
        exact qv (congrArg (fun z : Bool => (.inl (some (.inl (bz z))) : sRs)) lgF_1.symm) (q _ ((rp_Ic rfl).trans ((rp_As rfl).trans ((rp_Ic rfl).trans hM))) ((cp_I rfl).trans (cp_A.trans (cp_I rfl))) (fun L hL => by obtain ⟨l0, z0, h0, j0, rfl⟩ := lgF_i hL; cases lgF_nil h0; exact ⟨rfl, ov_io (an_n z0), trivial⟩))
      refine x_ifeq_z (a' := 129) (pc' := 36) (z := ((decide ((mA M 0 0) = 2)) && (!((bsF M n 0 (!(xor false s))).isNone)))) rfl rfl rfl (fun q31 => ?_) (fun q31 => ?_)
      · ((try rw [q31] at J44); (try rw [q31]); (try simp only [cd_t, cd_f, nt_t, nt_f, an_t, an_f, or_t, or_f] at J44); (try simp only [cd_t, cd_f, nt_t, nt_f, an_t, an_f, or_t, or_f]); exact J44)
      · refine x_iload_n (pc' := 37) rfl rfl rfl ?_
        refine x_iload_n (pc' := 38) rfl rfl rfl ?_
        refine x_iload (pc' := 40) rfl rfl rfl ?_
        refine x_cs (ls0 := [_, _, _, sJk, sJk, sJk]) (rest := []) rfl rfl rfl rfl ?_
        refine x_getstatic (pc' := 3) rfl rfl (show 1 < sC t 28 from gst1 hc) ?_
        refine x_iconst (pc' := 4) rfl rfl ?_
        refine x_iload_n (pc' := 5) rfl rfl rfl ?_
        refine x_imul (pc' := 6) (z := 0) rfl rfl (by decide) ?_
        refine x_iload_n (pc' := 7) rfl rfl rfl ?_
        refine x_iadd (pc' := 8) (z := 0) rfl rfl (by decide) ?_
        refine x_iald (pc' := 9) (N := 15) (x := 1) rfl rfl rfl (Eq.trans rdNI (Eq.trans rdNA (Eq.trans rdNI (kN_28_1 hc)))) (io_in (p := 0) (N := 15) (by decide) (by decide)) (Eq.trans (congrArg (sA (sIw (sAw (sIw t 811 0 0) 21 27 0 (ov (bsF M n 0 (!(xor false s))))) 811 0 1) 28 1) (nn_io (p := 0) (by decide))) (Eq.trans (b := sA t 28 1 0) rfl ((hc.2.2.2.2.2 0).2.trans rfl))) ?_
        refine x_istore_n (pc' := 10) (ls' := [_, _, _, _, _, _]) rfl rfl rfl rfl ?_
        refine x_iload_n (pc' := 11) rfl rfl rfl ?_
        refine x_bipush (pc' := 13) rfl rfl ?_
        refine x_icmp (a' := 20) (pc' := 16) (z := true) rfl rfl rfl (by decide) (fun _ => ?_) (fun h => by cases h)
        refine x_iload_n (pc' := 21) rfl rfl rfl ?_
        refine x_bipush (pc' := 23) rfl rfl ?_
        refine x_icmp (a' := 30) (pc' := 26) (z := true) rfl rfl rfl (by decide) (fun _ => ?_) (fun h => by cases h)
        refine x_iload_n (pc' := 31) rfl rfl rfl ?_
        refine x_if (a' := 38) (pc' := 34) (z := false) rfl rfl rfl (by decide) (fun h => by cases h) (fun _ => ?_)
        refine x_iconst (pc' := 35) rfl rfl ?_
        refine x_goto (pc' := 39) rfl rfl ?_
        refine x_istore (pc' := 41) (ls' := [_, _, _, _, _, _]) rfl rfl rfl rfl ?_
        refine x_iload (pc' := 43) rfl rfl rfl ?_
        refine x_iload_n (pc' := 44) rfl rfl rfl ?_
        refine x_isub (pc' := 45) (z := 0) rfl rfl (by decide) ?_
        refine x_istore (pc' := 47) (ls' := [_, _, _, _, _, _]) rfl rfl rfl rfl ?_
        refine x_iload (pc' := 49) rfl rfl rfl ?_
        refine x_if (a' := 56) (pc' := 52) (z := false) rfl rfl rfl (by decide) (fun h => by cases h) (fun _ => ?_)
        refine x_iconst (pc' := 53) rfl rfl ?_
        refine x_goto (pc' := 91) rfl rfl ?_
        refine x_reti rfl rfl ?_
        refine sK_i (pc' := 43) rfl ?_
        refine x_istore (pc' := 45) (ls' := [_, _, _, _, _, _, _]) rfl rfl rfl rfl ?_
        refine x_iload (pc' := 47) rfl rfl rfl ?_
        refine x_iconst (pc' := 48) rfl rfl ?_
        refine x_icmp (a' := 123) (pc' := 51) (z := true) rfl rfl rfl (by decide) (fun _ => ?_) (fun h => by cases h)
        refine x_iinc (pc' := 126) (y := 2) (ls' := [_, _, _, _, _, _, _]) rfl rfl rfl rfl rfl ?_
        refine x_goto (pc' := 25) rfl rfl ?_
        refine x_iload (pc' := 27) rfl rfl rfl ?_
        refine x_iconst (pc' := 28) rfl rfl ?_
        refine x_icmp (a' := 129) (pc' := 31) (z := false) rfl rfl rfl (by decide) (fun h => by cases h) (fun _ => ?_)
        refine x_iload (pc' := 33) rfl rfl rfl ?_
        refine x_ifeq_z (a' := 129) (pc' := 36) (z := ((decide ((mA M 0 0) = 2)) && (!((bsF M n 0 (!(xor false s))).isNone)))) rfl rfl rfl (fun h => zz_no q31 h) (fun _ => ?_)
        refine x_iload_n (pc' := 37) rfl rfl rfl ?_
        refine x_iload_n (pc' := 38) rfl rfl rfl ?_
        refine x_iload (pc' := 40) rfl rfl rfl ?_
        refine x_cs (ls0 := [_, _, _, sJk, sJk, sJk]) (rest := []) rfl rfl rfl rfl ?_
        refine x_getstatic (pc' := 3) rfl rfl (show 1 < sC t 28 from gst1 hc) ?_
        refine x_iconst (pc' := 4) rfl rfl ?_
        refine x_iload_n (pc' := 5) rfl rfl rfl ?_
        refine x_imul (pc' := 6) (z := 0) rfl rfl (by decide) ?_
        refine x_iload_n (pc' := 7) rfl rfl rfl ?_
        refine x_iadd (pc' := 8) (z := 0) rfl rfl (by decide) ?_
        refine x_iald (pc' := 9) (N := 15) (x := 1) rfl rfl rfl (Eq.trans rdNI (Eq.trans rdNA (Eq.trans rdNI (kN_28_1 hc)))) (io_in (p := 0) (N := 15) (by decide) (by decide)) (Eq.trans (congrArg (sA (sIw (sAw (sIw t 811 0 0) 21 27 0 (ov (bsF M n 0 (!(xor false s))))) 811 0 1) 28 1) (nn_io (p := 0) (by decide))) (Eq.trans (b := sA t 28 1 0) rfl ((hc.2.2.2.2.2 0).2.trans rfl))) ?_
        refine x_istore_n (pc' := 10) (ls' := [_, _, _, _, _, _]) rfl rfl rfl rfl ?_
        refine x_iload_n (pc' := 11) rfl rfl rfl ?_
        refine x_bipush (pc' := 13) rfl rfl ?_
        refine x_icmp (a' := 20) (pc' := 16) (z := true) rfl rfl rfl (by decide) (fun _ => ?_) (fun h => by cases h)
        refine x_iload_n (pc' := 21) rfl rfl rfl ?_
        refine x_bipush (pc' := 23) rfl rfl ?_
        refine x_icmp (a' := 30) (pc' := 26) (z := true) rfl rfl rfl (by decide) (fun _ => ?_) (fun h => by cases h)
        refine x_iload_n (pc' := 31) rfl rfl rfl ?_
        refine x_if (a' := 38) (pc' := 34) (z := false) rfl rfl rfl (by decide) (fun h => by cases h) (fun _ => ?_)
        refine x_iconst (pc' := 35) rfl rfl ?_
        refine x_goto (pc' := 39) rfl rfl ?_
        refine x_istore (pc' := 41) (ls' := [_, _, _, _, _, _]) rfl rfl rfl rfl ?_
        refine x_iload (pc' := 43) rfl rfl rfl ?_
        refine x_iload_n (pc' := 44) rfl rfl rfl ?_
        refine x_isub (pc' := 45) (z := (-1)) rfl rfl (by decide) ?_
        refine x_istore (pc' := 47) (ls' := [_, _, _, _, _, _]) rfl rfl rfl rfl ?_
        refine x_iload (pc' := 49) rfl rfl rfl ?_
        refine x_if (a' := 56) (pc' := 52) (z := false) rfl rfl rfl (by decide) (fun h => by cases h) (fun _ => ?_)
        refine x_iconst (pc' := 53) rfl rfl ?_
        refine x_goto (pc' := 91) rfl rfl ?_
        refine x_reti rfl rfl ?_
        refine sK_i (pc' := 43) rfl ?_
        refine x_istore (pc' := 45) (ls' := [_, _, _, _, _, _, _]) rfl rfl rfl rfl ?_
        refine x_iload (pc' := 47) rfl rfl rfl ?_
        refine x_iconst (pc' := 48) rfl rfl ?_
        refine x_icmp (a' := 123) (pc' := 51) (z := true) rfl rfl rfl (by decide) (fun _ => ?_) (fun h => by cases h)
        refine x_iinc (pc' := 126) (y := 3) (ls' := [_, _, _, _, _, _, _]) rfl rfl rfl rfl rfl ?_
        refine x_goto (pc' := 25) rfl rfl ?_
        refine x_iload (pc' := 27) rfl rfl rfl ?_
        refine x_iconst (pc' := 28) rfl rfl ?_
        refine x_icmp (a' := 129) (pc' := 31) (z := true) rfl rfl rfl (by decide) (fun _ => ?_) (fun h => by cases h)
        ((try rw [q31] at J44); (try rw [q31]); (try simp only [cd_t, cd_f, nt_t, nt_f, an_t, an_f, or_t, or_f] at J44); (try simp only [cd_t, cd_f, nt_t, nt_f, an_t, an_f, or_t, or_f]); exact J44)
    refine x_icmp_n (a' := 110) (pc' := 93) (z := decide ((mA M 0 0) = 2)) rfl rfl rfl (ik_ne _ _) (fun q27 => ?_) (fun q27 => ?_)
    · refine x_iconst (pc' := 111) rfl rfl ?_
      ((try rw [q27] at J28); (try rw [q27]); (try simp only [cd_t, cd_f, nt_t, nt_f, an_t, an_f, or_t, or_f] at J28); (try simp only [cd_t, cd_f, nt_t, nt_f, an_t, an_f, or_t, or_f]); exact J28)
    · refine x_aload_n (pc' := 94) rfl rfl rfl rfl rfl ?_
      refine x_gR (pc' := 97) (r := (some 27)) rfl rfl rfl (Eq.trans (b := sR t 809 0) rfl (kR_809_0 hc)) ?_
      refine x_aload_n (pc' := 98) rfl rfl rfl rfl rfl ?_
      refine x_gI (pc' := 101) (x := 0) rfl rfl rfl (Eq.trans rdIA sI_s) ?_
      refine x_iald (pc' := 102) (N := 200) (x := (ov (bsF M n 0 (!(xor false s))))) rfl rfl rfl (Eq.trans rdNA (Eq.trans rdNI (kN_21_27 hc))) (io_in (p := 0) (N := 200) (by decide) (by decide)) (Eq.trans (congrArg (sA (sAw (sIw t 811 0 0) 21 27 0 (ov (bsF M n 0 (!(xor false s))))) 21 27) (nn_io (p := 0) (by decide))) sA_s) ?_
      refine x_iconst (pc' := 103) rfl rfl ?_
      refine x_icmp (a' := 110) (pc' := 106) (z := (bsF M n 0 (!(xor false s))).isNone) rfl rfl rfl (ov_eq (ov_31 (N := n) b1 (Nat.le_of_lt (gn31 hR)))) (fun q28 => ?_) (fun q28 => ?_)
      · refine x_iconst (pc' := 111) rfl rfl ?_
        ((try rw [q28] at J28); (try rw [q28]); (try rw [q27] at J28); (try rw [q27]); (try simp only [cd_t, cd_f, nt_t, nt_f, an_t, an_f, or_t, or_f] at J28); (try simp only [cd_t, cd_f, nt_t, nt_f, an_t, an_f, or_t, or_f]); exact J28)
      · refine x_iconst (pc' := 107) rfl rfl ?_
        refine x_goto (pc' := 111) rfl rfl ?_
        ((try rw [q28] at J28); (try rw [q28]); (try rw [q27] at J28); (try rw [q27]); (try simp only [cd_t, cd_f, nt_t, nt_f, an_t, an_f, or_t, or_f] at J28); (try simp only [cd_t, cd_f, nt_t, nt_f, an_t, an_f, or_t, or_f]); exact J28)
  refine x_icmp (a' := 77) (pc' := 73) (z := (xor false s)) rfl rfl rfl (bz_neb _ _) (fun q25 => ?_) (fun q25 => ?_)
  · refine x_iconst (pc' := 78) rfl rfl ?_
    ((try rw [q25] at J25); (try rw [q25]); (try simp only [cd_t, cd_f, nt_t, nt_f, an_t, an_f, or_t, or_f] at J25); (try simp only [cd_t, cd_f, nt_t, nt_f, an_t, an_f, or_t, or_f]); exact J25)
  · refine x_iconst (pc' := 74) rfl rfl ?_
    refine x_goto (pc' := 78) rfl rfl ?_
    ((try rw [q25] at J25); (try rw [q25]); (try simp only [cd_t, cd_f, nt_t, nt_f, an_t, an_f, or_t, or_f] at J25); (try simp only [cd_t, cd_f, nt_t, nt_f, an_t, an_f, or_t, or_f]); exact J25)
set_option maxHeartbeats 4000000 in
set_option maxRecDepth 10000 in
theorem r160_00 {t : sT} {Q : sRs → sT → Prop} {M : sM} {n : Nat} {o0 : Nat}
    (hM : rp t = M)
    (hc : Cn t)
    (hR : Ri M n)
    (ho0 : o0 < n)
    (hq : sI t 811 0 = 1)
    (hk0 : sA t 21 27 0 = io o0)
    (q : Q (.inl (some (.inl (prF M 0 0 [o0])))) t) :
    X 160 0 [.inr (.inr (12, (some 0))), .inl 0, .inl 0, sJk, sJk] [] t Q := by
  refine x_iload_n (pc' := 1) rfl rfl rfl ?_
  refine x_iconst (pc' := 2) rfl rfl ?_
  refine x_icmp (a' := 34) (pc' := 5) (z := true) rfl rfl rfl (by decide) (fun _ => ?_) (fun h => by cases h)
  refine x_iconst (pc' := 35) rfl rfl ?_
  refine x_istore_n (pc' := 36) (ls' := [_, _, _, _, _]) rfl rfl rfl rfl ?_
  refine x_iconst (pc' := 37) rfl rfl ?_
  refine x_istore (pc' := 39) (ls' := [_, _, _, _, _]) rfl rfl rfl rfl ?_
  refine x_iload (pc' := 41) rfl rfl rfl ?_
  refine x_aload_n (pc' := 42) rfl rfl rfl rfl rfl ?_
  refine x_gI (pc' := 45) (x := 1) rfl rfl rfl hq ?_
  refine x_icmp (a' := 95) (pc' := 48) (z := false) rfl rfl rfl (by decide) (fun h => by cases h) (fun _ => ?_)
  refine x_iload_n (pc' := 49) rfl rfl rfl ?_
  refine x_iload_n (pc' := 50) rfl rfl rfl ?_
  refine x_iload_n (pc' := 51) rfl rfl rfl ?_
  refine x_iload (pc' := 53) rfl rfl rfl ?_
  refine x_cs (ls0 := [_, _, _, sJk]) (rest := [_]) rfl rfl rfl rfl ?_
  refine x_iload_n (pc' := 1) rfl rfl rfl ?_
  refine x_iload_n (pc' := 2) rfl rfl rfl ?_
  refine x_iload_n (pc' := 3) rfl rfl rfl ?_
  refine x_cs (ls0 := [_, _, _, sJk, sJk, sJk]) (rest := []) rfl rfl rfl rfl ?_
  refine x_getstatic (pc' := 3) rfl rfl (show 1 < sC t 28 from gst1 hc) ?_
  refine x_iconst (pc' := 4) rfl rfl ?_
  refine x_iload_n (pc' := 5) rfl rfl rfl ?_
  refine x_imul (pc' := 6) (z := 0) rfl rfl (by decide) ?_
  refine x_iload_n (pc' := 7) rfl rfl rfl ?_
  refine x_iadd (pc' := 8) (z := 0) rfl rfl (by decide) ?_
  refine x_iald (pc' := 9) (N := 15) (x := 1) rfl rfl rfl (kN_28_1 hc) (io_in (p := 0) (N := 15) (by decide) (by decide)) (Eq.trans (congrArg (sA t 28 1) (nn_io (p := 0) (by decide))) ((hc.2.2.2.2.2 0).2.trans rfl)) ?_
  refine x_istore_n (pc' := 10) (ls' := [_, _, _, _, _, _]) rfl rfl rfl rfl ?_
  refine x_iload_n (pc' := 11) rfl rfl rfl ?_
  refine x_bipush (pc' := 13) rfl rfl ?_
  refine x_icmp (a' := 20) (pc' := 16) (z := true) rfl rfl rfl (by decide) (fun _ => ?_) (fun h => by cases h)
  refine x_iload_n (pc' := 21) rfl rfl rfl ?_
  refine x_bipush (pc' := 23) rfl rfl ?_
  refine x_icmp (a' := 30) (pc' := 26) (z := true) rfl rfl rfl (by decide) (fun _ => ?_) (fun h => by cases h)
  refine x_iload_n (pc' := 31) rfl rfl rfl ?_
  refine x_if (a' := 38) (pc' := 34) (z := false) rfl rfl rfl (by decide) (fun h => by cases h) (fun _ => ?_)
  refine x_iconst (pc' := 35) rfl rfl ?_
  refine x_goto (pc' := 39) rfl rfl ?_
  refine x_istore (pc' := 41) (ls' := [_, _, _, _, _, _]) rfl rfl rfl rfl ?_
  refine x_iload (pc' := 43) rfl rfl rfl ?_
  refine x_iload_n (pc' := 44) rfl rfl rfl ?_
  refine x_isub (pc' := 45) (z := 1) rfl rfl (by decide) ?_
  refine x_istore (pc' := 47) (ls' := [_, _, _, _, _, _]) rfl rfl rfl rfl ?_
  refine x_iload (pc' := 49) rfl rfl rfl ?_
  refine x_if (a' := 56) (pc' := 52) (z := true) rfl rfl rfl (by decide) (fun _ => ?_) (fun h => by cases h)
  refine x_iload (pc' := 58) rfl rfl rfl ?_
  refine x_iconst (pc' := 59) rfl rfl ?_
  refine x_icmp (a' := 69) (pc' := 62) (z := true) rfl rfl rfl (by decide) (fun _ => ?_) (fun h => by cases h)
  refine x_iload (pc' := 71) rfl rfl rfl ?_
  refine x_iconst (pc' := 72) rfl rfl ?_
  refine x_icmp (a' := 85) (pc' := 75) (z := true) rfl rfl rfl (by decide) (fun _ => ?_) (fun h => by cases h)
  refine x_iload_n (pc' := 86) rfl rfl rfl ?_
  refine x_bipush (pc' := 88) rfl rfl ?_
  refine x_irem (pc' := 89) (z := 1) rfl rfl (by decide) (by decide +kernel) ?_
  refine x_iconst (pc' := 90) rfl rfl ?_
  refine x_isub (pc' := 91) (z := 0) rfl rfl (by decide) ?_
  refine x_reti rfl rfl ?_
  refine sK_i (pc' := 6) rfl ?_
  refine x_istore_n (pc' := 7) (ls' := [_, _, _, _]) rfl rfl rfl rfl ?_
  refine x_iload_n (pc' := 8) rfl rfl rfl ?_
  refine x_iconst (pc' := 9) rfl rfl ?_
  refine x_icmp (a' := 31) (pc' := 12) (z := false) rfl rfl rfl (by decide) (fun h => by cases h) (fun _ => ?_)
  refine x_iload_n (pc' := 13) rfl rfl rfl ?_
  refine x_iconst (pc' := 14) rfl rfl ?_
  refine x_icmp (a' := 29) (pc' := 17) (z := true) rfl rfl rfl (by decide) (fun _ => ?_) (fun h => by cases h)
  refine x_iconst (pc' := 30) rfl rfl ?_
  refine x_retz (z := false) rfl rfl ?_
  refine sK_i (pc' := 56) rfl ?_
  refine x_if (a' := 75) (pc' := 59) (z := true) rfl rfl rfl (by decide) (fun _ => ?_) (fun h => by cases h)
  refine x_aload_n (pc' := 76) rfl rfl rfl rfl rfl ?_
  refine x_gR (pc' := 79) (r := (some 14)) rfl rfl rfl (kR_790_0 hc) ?_
  refine x_aload_n (pc' := 80) rfl rfl rfl rfl rfl ?_
  refine x_gR (pc' := 83) (r := (some 27)) rfl rfl rfl (kR_809_0 hc) ?_
  refine x_iload (pc' := 85) rfl rfl rfl ?_
  refine x_iald (pc' := 86) (N := 200) (x := (io o0)) rfl rfl rfl (kN_21_27 hc) (io_in (p := 0) (N := 200) (by decide) (by decide)) (Eq.trans (congrArg (sA t 21 27) (nn_io (p := 0) (by decide))) hk0) ?_
  refine x_iald (pc' := 87) (N := 200) (x := (mA M 14 o0)) rfl rfl rfl (kN_21_14 hc) (io_in (p := o0) (N := 200) (Nat.lt_of_lt_of_le ho0 (gn200 hR)) (by decide)) (Eq.trans (congrArg (sA t 21 14) (nn_io (p := o0) (Nat.lt_trans (Nat.lt_of_lt_of_le ho0 (gn200 hR)) (by decide)))) (gF14 hM (Fr.refl _))) ?_
  refine x_iadd (pc' := 88) (z := (0 + (mA M 14 o0))) rfl rfl rfl ?_
  refine x_istore_n (pc' := 89) (ls' := [_, _, _, _, _]) rfl rfl rfl rfl ?_
  refine x_iinc (pc' := 92) (y := 1) (ls' := [_, _, _, _, _]) rfl rfl rfl rfl rfl ?_
  refine x_goto (pc' := 39) rfl rfl ?_
  refine x_iload (pc' := 41) rfl rfl rfl ?_
  refine x_aload_n (pc' := 42) rfl rfl rfl rfl rfl ?_
  refine x_gI (pc' := 45) (x := 1) rfl rfl rfl hq ?_
  refine x_icmp (a' := 95) (pc' := 48) (z := true) rfl rfl rfl (by decide) (fun _ => ?_) (fun h => by cases h)
  refine x_iload_n (pc' := 96) rfl rfl rfl ?_
  refine x_reti rfl rfl ?_
  exact q
-- (0 + (mA M 14 o0))
set_option maxHeartbeats 4000000 in
set_option maxRecDepth 10000 in
theorem r159_01 {t : sT} {Q : sRs → sT → Prop} {M : sM} {n : Nat} {s : Bool} (hM : rp t = M) (hc : Cn t) (hR : Ri M n)
    (q : ∀ t', rp t' = M → cp t' = cp t → (∀ L, lgO M n 0 s 1 = some L → Tk t' L) → Q (.inl (some (.inl (bz (lgO M n 0 s 1).isSome)))) t') :
    X 159 0 [.inr (.inr (12, (some 0))), .inl 0, .inl (bz s), .inl 1, sJk, sJk, sJk] [] t Q := by
  refine x_iload_n (pc' := 1) rfl rfl rfl ?_
  refine x_iload_n (pc' := 2) rfl rfl rfl ?_
  refine x_iconst (pc' := 3) rfl rfl ?_
  refine x_cs (ls0 := [_, _, _, sJk, sJk, sJk]) (rest := []) rfl rfl rfl rfl ?_
  refine x_getstatic (pc' := 3) rfl rfl (show 1 < sC t 28 from gst1 hc) ?_
  refine x_iconst (pc' := 4) rfl rfl ?_
  refine x_iload_n (pc' := 5) rfl rfl rfl ?_
  refine x_imul (pc' := 6) (z := 0) rfl rfl (by decide) ?_
  refine x_iload_n (pc' := 7) rfl rfl rfl ?_
  refine x_iadd (pc' := 8) (z := 1) rfl rfl (by decide) ?_
  refine x_iald (pc' := 9) (N := 15) (x := 42) rfl rfl rfl (kN_28_1 hc) (io_in (p := 1) (N := 15) (by decide) (by decide)) (Eq.trans (congrArg (sA t 28 1) (nn_io (p := 1) (by decide))) ((hc.2.2.2.2.2 1).2.trans rfl)) ?_
  refine x_istore_n (pc' := 10) (ls' := [_, _, _, _, _, _]) rfl rfl rfl rfl ?_
  refine x_iload_n (pc' := 11) rfl rfl rfl ?_
  refine x_bipush (pc' := 13) rfl rfl ?_
  refine x_icmp (a' := 20) (pc' := 16) (z := true) rfl rfl rfl (by decide) (fun _ => ?_) (fun h => by cases h)
  refine x_iload_n (pc' := 21) rfl rfl rfl ?_
  refine x_bipush (pc' := 23) rfl rfl ?_
  refine x_icmp (a' := 30) (pc' := 26) (z := false) rfl rfl rfl (by decide) (fun h => by cases h) (fun _ => ?_)
  refine x_iconst (pc' := 27) rfl rfl ?_
  refine x_goto (pc' := 39) rfl rfl ?_
  refine x_istore (pc' := 41) (ls' := [_, _, _, _, _, _]) rfl rfl rfl rfl ?_
  refine x_iload (pc' := 43) rfl rfl rfl ?_
  refine x_iload_n (pc' := 44) rfl rfl rfl ?_
  refine x_isub (pc' := 45) (z := 2) rfl rfl (by decide) ?_
  refine x_istore (pc' := 47) (ls' := [_, _, _, _, _, _]) rfl rfl rfl rfl ?_
  refine x_iload (pc' := 49) rfl rfl rfl ?_
  refine x_if (a' := 56) (pc' := 52) (z := true) rfl rfl rfl (by decide) (fun _ => ?_) (fun h => by cases h)
  refine x_iload (pc' := 58) rfl rfl rfl ?_
  refine x_iconst (pc' := 59) rfl rfl ?_
  refine x_icmp (a' := 69) (pc' := 62) (z := true) rfl rfl rfl (by decide) (fun _ => ?_) (fun h => by cases h)
  refine x_iload (pc' := 71) rfl rfl rfl ?_
  refine x_iconst (pc' := 72) rfl rfl ?_
  refine x_icmp (a' := 85) (pc' := 75) (z := false) rfl rfl rfl (by decide) (fun h => by cases h) (fun _ => ?_)
  refine x_iload_n (pc' := 76) rfl rfl rfl ?_
  refine x_bipush (pc' := 78) rfl rfl ?_
  refine x_idiv (pc' := 79) (z := 4) rfl rfl (by decide) (by decide +kernel) ?_
  refine x_bipush (pc' := 81) rfl rfl ?_
  refine x_irem (pc' := 82) (z := 4) rfl rfl (by decide) (by decide +kernel) ?_
  refine x_goto (pc' := 89) rfl rfl ?_
  refine x_iconst (pc' := 90) rfl rfl ?_
  refine x_isub (pc' := 91) (z := 3) rfl rfl (by decide) ?_
  refine x_reti rfl rfl ?_
  refine sK_i (pc' := 6) rfl ?_
  refine x_iconst (pc' := 7) rfl rfl ?_
  refine x_icmp (a' := 14) (pc' := 10) (z := false) rfl rfl rfl (by decide) (fun h => by cases h) (fun _ => ?_)
  refine x_iconst (pc' := 11) rfl rfl ?_
  refine x_goto (pc' := 15) rfl rfl ?_
  refine x_istore (pc' := 17) (ls' := [_, _, _, _, _, _, _]) rfl rfl rfl rfl ?_
  refine x_aload_n (pc' := 18) rfl rfl rfl rfl rfl ?_
  refine x_iconst (pc' := 19) rfl rfl ?_
  refine x_pI (pc' := 22) rfl rfl rfl ?_
  refine x_iconst (pc' := 23) rfl rfl ?_
  refine x_istore (pc' := 25) (ls' := [_, _, _, _, _, _, _]) rfl rfl rfl rfl ?_
  refine x_iload (pc' := 27) rfl rfl rfl ?_
  refine x_iconst (pc' := 28) rfl rfl ?_
  refine x_icmp (a' := 129) (pc' := 31) (z := false) rfl rfl rfl (by decide) (fun h => by cases h) (fun _ => ?_)
  refine x_iload (pc' := 33) rfl rfl rfl ?_
  refine x_if (a' := 129) (pc' := 36) (z := false) rfl rfl rfl (by decide) (fun h => by cases h) (fun _ => ?_)
  refine x_iload_n (pc' := 37) rfl rfl rfl ?_
  refine x_iload_n (pc' := 38) rfl rfl rfl ?_
  refine x_iload (pc' := 40) rfl rfl rfl ?_
  refine x_cs (ls0 := [_, _, _, sJk, sJk, sJk]) (rest := []) rfl rfl rfl rfl ?_
  refine x_getstatic (pc' := 3) rfl rfl (show 1 < sC t 28 from gst1 hc) ?_
  refine x_iconst (pc' := 4) rfl rfl ?_
  refine x_iload_n (pc' := 5) rfl rfl rfl ?_
  refine x_imul (pc' := 6) (z := 0) rfl rfl (by decide) ?_
  refine x_iload_n (pc' := 7) rfl rfl rfl ?_
  refine x_iadd (pc' := 8) (z := 1) rfl rfl (by decide) ?_
  refine x_iald (pc' := 9) (N := 15) (x := 42) rfl rfl rfl (Eq.trans rdNI (kN_28_1 hc)) (io_in (p := 1) (N := 15) (by decide) (by decide)) (Eq.trans (congrArg (sA (sIw t 811 0 0) 28 1) (nn_io (p := 1) (by decide))) (Eq.trans (b := sA t 28 1 1) rfl ((hc.2.2.2.2.2 1).2.trans rfl))) ?_
  refine x_istore_n (pc' := 10) (ls' := [_, _, _, _, _, _]) rfl rfl rfl rfl ?_
  refine x_iload_n (pc' := 11) rfl rfl rfl ?_
  refine x_bipush (pc' := 13) rfl rfl ?_
  refine x_icmp (a' := 20) (pc' := 16) (z := true) rfl rfl rfl (by decide) (fun _ => ?_) (fun h => by cases h)
  refine x_iload_n (pc' := 21) rfl rfl rfl ?_
  refine x_bipush (pc' := 23) rfl rfl ?_
  refine x_icmp (a' := 30) (pc' := 26) (z := false) rfl rfl rfl (by decide) (fun h => by cases h) (fun _ => ?_)
  refine x_iconst (pc' := 27) rfl rfl ?_
  refine x_goto (pc' := 39) rfl rfl ?_
  refine x_istore (pc' := 41) (ls' := [_, _, _, _, _, _]) rfl rfl rfl rfl ?_
  refine x_iload (pc' := 43) rfl rfl rfl ?_
  refine x_iload_n (pc' := 44) rfl rfl rfl ?_
  refine x_isub (pc' := 45) (z := 2) rfl rfl (by decide) ?_
  refine x_istore (pc' := 47) (ls' := [_, _, _, _, _, _]) rfl rfl rfl rfl ?_
  refine x_iload (pc' := 49) rfl rfl rfl ?_
  refine x_if (a' := 56) (pc' := 52) (z := true) rfl rfl rfl (by decide) (fun _ => ?_) (fun h => by cases h)
  refine x_iload (pc' := 58) rfl rfl rfl ?_
  refine x_iconst (pc' := 59) rfl rfl ?_
  refine x_icmp (a' := 69) (pc' := 62) (z := true) rfl rfl rfl (by decide) (fun _ => ?_) (fun h => by cases h)
  refine x_iload (pc' := 71) rfl rfl rfl ?_
  refine x_iconst (pc' := 72) rfl rfl ?_
  refine x_icmp (a' := 85) (pc' := 75) (z := false) rfl rfl rfl (by decide) (fun h => by cases h) (fun _ => ?_)
  refine x_iload_n (pc' := 76) rfl rfl rfl ?_
  refine x_bipush (pc' := 78) rfl rfl ?_
  refine x_idiv (pc' := 79) (z := 4) rfl rfl (by decide) (by decide +kernel) ?_
  refine x_bipush (pc' := 81) rfl rfl ?_
  refine x_irem (pc' := 82) (z := 4) rfl rfl (by decide) (by decide +kernel) ?_
  refine x_goto (pc' := 89) rfl rfl ?_
  refine x_iconst (pc' := 90) rfl rfl ?_
  refine x_isub (pc' := 91) (z := 3) rfl rfl (by decide) ?_
  refine x_reti rfl rfl ?_
  refine sK_i (pc' := 43) rfl ?_
  refine x_istore (pc' := 45) (ls' := [_, _, _, _, _, _, _]) rfl rfl rfl rfl ?_
  refine x_iload (pc' := 47) rfl rfl rfl ?_
  refine x_iconst (pc' := 48) rfl rfl ?_
  refine x_icmp (a' := 123) (pc' := 51) (z := false) rfl rfl rfl (by decide) (fun h => by cases h) (fun _ => ?_)
  refine x_aload_n (pc' := 52) rfl rfl rfl rfl rfl ?_
  refine x_gR (pc' := 55) (r := (some 27)) rfl rfl rfl (Eq.trans (b := sR t 809 0) rfl (kR_809_0 hc)) ?_
  refine x_aload_n (pc' := 56) rfl rfl rfl rfl rfl ?_
  refine x_gI (pc' := 59) (x := 0) rfl rfl rfl sI_s ?_
  refine x_aload_n (pc' := 60) rfl rfl rfl rfl rfl ?_
  refine x_iload (pc' := 62) rfl rfl rfl ?_
  refine x_iload_n (pc' := 63) rfl rfl rfl ?_
  refine x_iload_n (pc' := 64) rfl rfl rfl ?_
  refine x_iload (pc' := 66) rfl rfl rfl ?_
  refine x_cs (ls0 := [_, _, _, sJk]) (rest := [_, _, _, _]) rfl rfl rfl rfl ?_
  refine x_iload_n (pc' := 1) rfl rfl rfl ?_
  refine x_iload_n (pc' := 2) rfl rfl rfl ?_
  refine x_iload_n (pc' := 3) rfl rfl rfl ?_
  refine x_cs (ls0 := [_, _, _, sJk, sJk, sJk]) (rest := []) rfl rfl rfl rfl ?_
  refine x_getstatic (pc' := 3) rfl rfl (show 1 < sC t 28 from gst1 hc) ?_
  refine x_iconst (pc' := 4) rfl rfl ?_
  refine x_iload_n (pc' := 5) rfl rfl rfl ?_
  refine x_imul (pc' := 6) (z := 0) rfl rfl (by decide) ?_
  refine x_iload_n (pc' := 7) rfl rfl rfl ?_
  refine x_iadd (pc' := 8) (z := 1) rfl rfl (by decide) ?_
  refine x_iald (pc' := 9) (N := 15) (x := 42) rfl rfl rfl (Eq.trans rdNI (kN_28_1 hc)) (io_in (p := 1) (N := 15) (by decide) (by decide)) (Eq.trans (congrArg (sA (sIw t 811 0 0) 28 1) (nn_io (p := 1) (by decide))) (Eq.trans (b := sA t 28 1 1) rfl ((hc.2.2.2.2.2 1).2.trans rfl))) ?_
  refine x_istore_n (pc' := 10) (ls' := [_, _, _, _, _, _]) rfl rfl rfl rfl ?_
  refine x_iload_n (pc' := 11) rfl rfl rfl ?_
  refine x_bipush (pc' := 13) rfl rfl ?_
  refine x_icmp (a' := 20) (pc' := 16) (z := true) rfl rfl rfl (by decide) (fun _ => ?_) (fun h => by cases h)
  refine x_iload_n (pc' := 21) rfl rfl rfl ?_
  refine x_bipush (pc' := 23) rfl rfl ?_
  refine x_icmp (a' := 30) (pc' := 26) (z := false) rfl rfl rfl (by decide) (fun h => by cases h) (fun _ => ?_)
  refine x_iconst (pc' := 27) rfl rfl ?_
  refine x_goto (pc' := 39) rfl rfl ?_
  refine x_istore (pc' := 41) (ls' := [_, _, _, _, _, _]) rfl rfl rfl rfl ?_
  refine x_iload (pc' := 43) rfl rfl rfl ?_
  refine x_iload_n (pc' := 44) rfl rfl rfl ?_
  refine x_isub (pc' := 45) (z := 2) rfl rfl (by decide) ?_
  refine x_istore (pc' := 47) (ls' := [_, _, _, _, _, _]) rfl rfl rfl rfl ?_
  refine x_iload (pc' := 49) rfl rfl rfl ?_
  refine x_if (a' := 56) (pc' := 52) (z := true) rfl rfl rfl (by decide) (fun _ => ?_) (fun h => by cases h)
  refine x_iload (pc' := 58) rfl rfl rfl ?_
  refine x_iconst (pc' := 59) rfl rfl ?_
  refine x_icmp (a' := 69) (pc' := 62) (z := true) rfl rfl rfl (by decide) (fun _ => ?_) (fun h => by cases h)
  refine x_iload (pc' := 71) rfl rfl rfl ?_
  refine x_iconst (pc' := 72) rfl rfl ?_
  refine x_icmp (a' := 85) (pc' := 75) (z := false) rfl rfl rfl (by decide) (fun h => by cases h) (fun _ => ?_)
  refine x_iload_n (pc' := 76) rfl rfl rfl ?_
  refine x_bipush (pc' := 78) rfl rfl ?_
  refine x_idiv (pc' := 79) (z := 4) rfl rfl (by decide) (by decide +kernel) ?_
  refine x_bipush (pc' := 81) rfl rfl ?_
  refine x_irem (pc' := 82) (z := 4) rfl rfl (by decide) (by decide +kernel) ?_
  refine x_goto (pc' := 89) rfl rfl ?_
  refine x_iconst (pc' := 90) rfl rfl ?_
  refine x_isub (pc' := 91) (z := 3) rfl rfl (by decide) ?_
  refine x_reti rfl rfl ?_
  refine sK_i (pc' := 6) rfl ?_
  refine x_istore_n (pc' := 7) (ls' := [_, _, _, _]) rfl rfl rfl rfl ?_
  refine x_iload_n (pc' := 8) rfl rfl rfl ?_
  refine x_iconst (pc' := 9) rfl rfl ?_
  refine x_icmp (a' := 31) (pc' := 12) (z := false) rfl rfl rfl (by decide) (fun h => by cases h) (fun _ => ?_)
  refine x_iload_n (pc' := 13) rfl rfl rfl ?_
  refine x_iconst (pc' := 14) rfl rfl ?_
  refine x_icmp (a' := 29) (pc' := 17) (z := false) rfl rfl rfl (by decide) (fun h => by cases h) (fun _ => ?_)
  refine x_iload_n (pc' := 18) rfl rfl rfl ?_
  refine x_cs (ls0 := [_]) (rest := []) rfl rfl rfl rfl ?_
  refine x_iload_n (pc' := 1) rfl rfl rfl ?_
  refine x_iconst (pc' := 2) rfl rfl ?_
  refine x_isub (pc' := 3) (z := 0) rfl rfl (by decide) ?_
  refine x_reti rfl rfl ?_
  refine sK_i (pc' := 21) rfl ?_
  refine x_iload_n (pc' := 22) rfl rfl rfl ?_
  refine x_icmp (a' := 29) (pc' := 25) (z := true) rfl rfl rfl (by decide) (fun _ => ?_) (fun h => by cases h)
  refine x_iconst (pc' := 30) rfl rfl ?_
  refine x_retz (z := false) rfl rfl ?_
  refine sK_i (pc' := 69) rfl ?_
  refine x_iload_n (pc' := 70) rfl rfl rfl ?_
  have J23 : X 159 78 [.inr (.inr (12, (some 0))), .inl 0, .inl (bz s), .inl 1, .inl 1, .inl 0, .inl 3] [.inl (bz (!(xor false s))), .inl 3, .inr (.inr (12, (some 0))), .inl 0, .inr (.inr (21, (some 27)))] (sIw t 811 0 0) Q := by
    refine x_cv (ls0 := [_, _, _, sJk, sJk, sJk]) (rest := [_, _]) rfl rfl rfl rfl rfl ?_
    refine r153 (b := 3) (s := (!(xor false s))) ((rp_Ic rfl).trans hM) (Cn_cp (cp_I rfl) hc) (Fr.ri (Fr.refl _) hR) (show 3 < 5 by decide) (fun b1 => ?_)
    refine sK_i (pc' := 81) rfl ?_
    refine x_iast (pc' := 82) (N := 200) (p := 0) rfl rfl rfl (Eq.trans rdNI (kN_21_27 hc)) (io_in (p := 0) (N := 200) (by decide) (by decide)) (nn_io (p := 0) (by decide)) ?_
    refine x_aload_n (pc' := 83) rfl rfl rfl rfl rfl ?_
    refine x_gR (pc' := 86) (r := (some 0)) rfl rfl rfl (Eq.trans (b := sR t 769 0) rfl (kR_769_0 hc)) ?_
    refine x_iload (pc' := 88) rfl rfl rfl ?_
    refine x_iald (pc' := 89) (N := 5) (x := (mA M 0 3)) rfl rfl rfl (Eq.trans rdNA (Eq.trans rdNI (kN_21_0 hc))) (io_in (p := 3) (N := 5) (by decide) (by decide)) (Eq.trans (congrArg (sA (sAw (sIw t 811 0 0) 21 27 0 (ov (bsF M n 3 (!(xor false s))))) 21 0) (nn_io (p := 3) (by decide))) (Eq.trans (b := sA t 21 0 3) rfl (gA hM rfl))) ?_
    refine x_iconst (pc' := 90) rfl rfl ?_
    have J26 : X 159 111 [.inr (.inr (12, (some 0))), .inl 0, .inl (bz s), .inl 1, .inl 1, .inl 0, .inl 3] [.inl (bz ((decide ((mA M 0 3) = 2)) && (!((bsF M n 3 (!(xor false s))).isNone))))] (sAw (sIw t 811 0 0) 21 27 0 (ov (bsF M n 3 (!(xor false s))))) Q := by
      refine x_istore (pc' := 113) (ls' := [_, _, _, _, _, _, _]) rfl rfl rfl rfl ?_
      refine x_aload_n (pc' := 114) rfl rfl rfl rfl rfl ?_
      refine x_dup (pc' := 115) rfl rfl rfl ?_
      refine x_gI (pc' := 118) (x := 0) rfl rfl rfl (Eq.trans rdIA sI_s) ?_
      refine x_iconst (pc' := 119) rfl rfl ?_
      refine x_iadd (pc' := 120) (z := 1) rfl rfl (by decide) ?_
      refine x_pI (pc' := 123) rfl rfl rfl ?_
      refine x_iinc (pc' := 126) (y := 1) (ls' := [_, _, _, _, _, _, _]) rfl rfl rfl rfl rfl ?_
      refine x_goto (pc' := 25) rfl rfl ?_
      refine x_iload (pc' := 27) rfl rfl rfl ?_
      refine x_iconst (pc' := 28) rfl rfl ?_
      refine x_icmp (a' := 129) (pc' := 31) (z := false) rfl rfl rfl (by decide) (fun h => by cases h) (fun _ => ?_)
      refine x_iload (pc' := 33) rfl rfl rfl ?_
      refine x_ifeq_z (a' := 129) (pc' := 36) (z := ((decide ((mA M 0 3) = 2)) && (!((bsF M n 3 (!(xor false s))).isNone)))) rfl rfl rfl (fun q29 => ?_) (fun q29 => ?_)
      · refine x_iload (pc' := 131) rfl rfl rfl ?_
        refine x_retz (z := ((decide ((mA M 0 3) = 2)) && (!((bsF M n 3 (!(xor false s))).isNone)))) rfl rfl ?_
        exact qv (congrArg (fun z : Bool => (.inl (some (.inl (bz z))) : sRs)) (Eq.trans (lgF_n q29) q29.symm).symm) (q _ ((rp_Ic rfl).trans ((rp_As rfl).trans ((rp_Ic rfl).trans hM))) ((cp_I rfl).trans (cp_A.trans (cp_I rfl))) (fun L hL => by obtain ⟨l0, z0, h0, j0, rfl⟩ := lgF_i hL; exact zz_no z0 q29))
      · refine x_iload_n (pc' := 37) rfl rfl rfl ?_
        refine x_iload_n (pc' := 38) rfl rfl rfl ?_
        refine x_iload (pc' := 40) rfl rfl rfl ?_
        refine x_cs (ls0 := [_, _, _, sJk, sJk, sJk]) (rest := []) rfl rfl rfl rfl ?_
        refine x_getstatic (pc' := 3) rfl rfl (show 1 < sC t 28 from gst1 hc) ?_
        refine x_iconst (pc' := 4) rfl rfl ?_
        refine x_iload_n (pc' := 5) rfl rfl rfl ?_
        refine x_imul (pc' := 6) (z := 0) rfl rfl (by decide) ?_
        refine x_iload_n (pc' := 7) rfl rfl rfl ?_
        refine x_iadd (pc' := 8) (z := 1) rfl rfl (by decide) ?_
        refine x_iald (pc' := 9) (N := 15) (x := 42) rfl rfl rfl (Eq.trans rdNI (Eq.trans rdNA (Eq.trans rdNI (kN_28_1 hc)))) (io_in (p := 1) (N := 15) (by decide) (by decide)) (Eq.trans (congrArg (sA (sIw (sAw (sIw t 811 0 0) 21 27 0 (ov (bsF M n 3 (!(xor false s))))) 811 0 1) 28 1) (nn_io (p := 1) (by decide))) (Eq.trans (b := sA t 28 1 1) rfl ((hc.2.2.2.2.2 1).2.trans rfl))) ?_
        refine x_istore_n (pc' := 10) (ls' := [_, _, _, _, _, _]) rfl rfl rfl rfl ?_
        refine x_iload_n (pc' := 11) rfl rfl rfl ?_
        refine x_bipush (pc' := 13) rfl rfl ?_
        refine x_icmp (a' := 20) (pc' := 16) (z := true) rfl rfl rfl (by decide) (fun _ => ?_) (fun h => by cases h)
        refine x_iload_n (pc' := 21) rfl rfl rfl ?_
        refine x_bipush (pc' := 23) rfl rfl ?_
        refine x_icmp (a' := 30) (pc' := 26) (z := false) rfl rfl rfl (by decide) (fun h => by cases h) (fun _ => ?_)
        refine x_iconst (pc' := 27) rfl rfl ?_
        refine x_goto (pc' := 39) rfl rfl ?_
        refine x_istore (pc' := 41) (ls' := [_, _, _, _, _, _]) rfl rfl rfl rfl ?_
        refine x_iload (pc' := 43) rfl rfl rfl ?_
        refine x_iload_n (pc' := 44) rfl rfl rfl ?_
        refine x_isub (pc' := 45) (z := 1) rfl rfl (by decide) ?_
        refine x_istore (pc' := 47) (ls' := [_, _, _, _, _, _]) rfl rfl rfl rfl ?_
        refine x_iload (pc' := 49) rfl rfl rfl ?_
        refine x_if (a' := 56) (pc' := 52) (z := true) rfl rfl rfl (by decide) (fun _ => ?_) (fun h => by cases h)
        refine x_iload (pc' := 58) rfl rfl rfl ?_
        refine x_iconst (pc' := 59) rfl rfl ?_
        refine x_icmp (a' := 69) (pc' := 62) (z := true) rfl rfl rfl (by decide) (fun _ => ?_) (fun h => by cases h)
        refine x_iload (pc' := 71) rfl rfl rfl ?_
        refine x_iconst (pc' := 72) rfl rfl ?_
        refine x_icmp (a' := 85) (pc' := 75) (z := true) rfl rfl rfl (by decide) (fun _ => ?_) (fun h => by cases h)
        refine x_iload_n (pc' := 86) rfl rfl rfl ?_
        refine x_bipush (pc' := 88) rfl rfl ?_
        refine x_irem (pc' := 89) (z := 2) rfl rfl (by decide) (by decide +kernel) ?_
        refine x_iconst (pc' := 90) rfl rfl ?_
        refine x_isub (pc' := 91) (z := 1) rfl rfl (by decide) ?_
        refine x_reti rfl rfl ?_
        refine sK_i (pc' := 43) rfl ?_
        refine x_istore (pc' := 45) (ls' := [_, _, _, _, _, _, _]) rfl rfl rfl rfl ?_
        refine x_iload (pc' := 47) rfl rfl rfl ?_
        refine x_iconst (pc' := 48) rfl rfl ?_
        refine x_icmp (a' := 123) (pc' := 51) (z := false) rfl rfl rfl (by decide) (fun h => by cases h) (fun _ => ?_)
        refine x_aload_n (pc' := 52) rfl rfl rfl rfl rfl ?_
        refine x_gR (pc' := 55) (r := (some 27)) rfl rfl rfl (Eq.trans (b := sR t 809 0) rfl (kR_809_0 hc)) ?_
        refine x_aload_n (pc' := 56) rfl rfl rfl rfl rfl ?_
        refine x_gI (pc' := 59) (x := 1) rfl rfl rfl sI_s ?_
        refine x_aload_n (pc' := 60) rfl rfl rfl rfl rfl ?_
        refine x_iload (pc' := 62) rfl rfl rfl ?_
        refine x_iload_n (pc' := 63) rfl rfl rfl ?_
        refine x_iload_n (pc' := 64) rfl rfl rfl ?_
        refine x_iload (pc' := 66) rfl rfl rfl ?_
        refine x_cs (ls0 := [_, _, _, sJk]) (rest := [_, _, _, _]) rfl rfl rfl rfl ?_
        refine x_iload_n (pc' := 1) rfl rfl rfl ?_
        refine x_iload_n (pc' := 2) rfl rfl rfl ?_
        refine x_iload_n (pc' := 3) rfl rfl rfl ?_
        refine x_cs (ls0 := [_, _, _, sJk, sJk, sJk]) (rest := []) rfl rfl rfl rfl ?_
        refine x_getstatic (pc' := 3) rfl rfl (show 1 < sC t 28 from gst1 hc) ?_
        refine x_iconst (pc' := 4) rfl rfl ?_
        refine x_iload_n (pc' := 5) rfl rfl rfl ?_
        refine x_imul (pc' := 6) (z := 0) rfl rfl (by decide) ?_
        refine x_iload_n (pc' := 7) rfl rfl rfl ?_
        refine x_iadd (pc' := 8) (z := 1) rfl rfl (by decide) ?_
        refine x_iald (pc' := 9) (N := 15) (x := 42) rfl rfl rfl (Eq.trans rdNI (Eq.trans rdNA (Eq.trans rdNI (kN_28_1 hc)))) (io_in (p := 1) (N := 15) (by decide) (by decide)) (Eq.trans (congrArg (sA (sIw (sAw (sIw t 811 0 0) 21 27 0 (ov (bsF M n 3 (!(xor false s))))) 811 0 1) 28 1) (nn_io (p := 1) (by decide))) (Eq.trans (b := sA t 28 1 1) rfl ((hc.2.2.2.2.2 1).2.trans rfl))) ?_
        refine x_istore_n (pc' := 10) (ls' := [_, _, _, _, _, _]) rfl rfl rfl rfl ?_
        refine x_iload_n (pc' := 11) rfl rfl rfl ?_
        refine x_bipush (pc' := 13) rfl rfl ?_
        refine x_icmp (a' := 20) (pc' := 16) (z := true) rfl rfl rfl (by decide) (fun _ => ?_) (fun h => by cases h)
        refine x_iload_n (pc' := 21) rfl rfl rfl ?_
        refine x_bipush (pc' := 23) rfl rfl ?_
        refine x_icmp (a' := 30) (pc' := 26) (z := false) rfl rfl rfl (by decide) (fun h => by cases h) (fun _ => ?_)
        refine x_iconst (pc' := 27) rfl rfl ?_
        refine x_goto (pc' := 39) rfl rfl ?_
        refine x_istore (pc' := 41) (ls' := [_, _, _, _, _, _]) rfl rfl rfl rfl ?_
        refine x_iload (pc' := 43) rfl rfl rfl ?_
        refine x_iload_n (pc' := 44) rfl rfl rfl ?_
        refine x_isub (pc' := 45) (z := 1) rfl rfl (by decide) ?_
        refine x_istore (pc' := 47) (ls' := [_, _, _, _, _, _]) rfl rfl rfl rfl ?_
        refine x_iload (pc' := 49) rfl rfl rfl ?_
        refine x_if (a' := 56) (pc' := 52) (z := true) rfl rfl rfl (by decide) (fun _ => ?_) (fun h => by cases h)
        refine x_iload (pc' := 58) rfl rfl rfl ?_
        refine x_iconst (pc' := 59) rfl rfl ?_
        refine x_icmp (a' := 69) (pc' := 62) (z := true) rfl rfl rfl (by decide) (fun _ => ?_) (fun h => by cases h)
        refine x_iload (pc' := 71) rfl rfl rfl ?_
        refine x_iconst (pc' := 72) rfl rfl ?_
        refine x_icmp (a' := 85) (pc' := 75) (z := true) rfl rfl rfl (by decide) (fun _ => ?_) (fun h => by cases h)
        refine x_iload_n (pc' := 86) rfl rfl rfl ?_
        refine x_bipush (pc' := 88) rfl rfl ?_
        refine x_irem (pc' := 89) (z := 2) rfl rfl (by decide) (by decide +kernel) ?_
        refine x_iconst (pc' := 90) rfl rfl ?_
        refine x_isub (pc' := 91) (z := 1) rfl rfl (by decide) ?_
        refine x_reti rfl rfl ?_
        refine sK_i (pc' := 6) rfl ?_
        refine x_istore_n (pc' := 7) (ls' := [_, _, _, _]) rfl rfl rfl rfl ?_
        refine x_iload_n (pc' := 8) rfl rfl rfl ?_
        refine x_iconst (pc' := 9) rfl rfl ?_
        refine x_icmp (a' := 31) (pc' := 12) (z := false) rfl rfl rfl (by decide) (fun h => by cases h) (fun _ => ?_)
        refine x_iload_n (pc' := 13) rfl rfl rfl ?_
        refine x_iconst (pc' := 14) rfl rfl ?_
        refine x_icmp (a' := 29) (pc' := 17) (z := true) rfl rfl rfl (by decide) (fun _ => ?_) (fun h => by cases h)
        refine x_iconst (pc' := 30) rfl rfl ?_
        refine x_retz (z := false) rfl rfl ?_
        refine sK_i (pc' := 69) rfl ?_
        refine x_iload_n (pc' := 70) rfl rfl rfl ?_
        have J43 : X 159 78 [.inr (.inr (12, (some 0))), .inl 0, .inl (bz s), .inl 1, .inl (bz ((decide ((mA M 0 3) = 2)) && (!((bsF M n 3 (!(xor false s))).isNone)))), .inl 1, .inl 1] [.inl (bz (!(xor false s))), .inl 1, .inr (.inr (12, (some 0))), .inl 1, .inr (.inr (21, (some 27)))] (sIw (sAw (sIw t 811 0 0) 21 27 0 (ov (bsF M n 3 (!(xor false s))))) 811 0 1) Q := by
          refine x_cv (ls0 := [_, _, _, sJk, sJk, sJk]) (rest := [_, _]) rfl rfl rfl rfl rfl ?_
          refine r153 (b := 1) (s := (!(xor false s))) ((rp_Ic rfl).trans ((rp_As rfl).trans ((rp_Ic rfl).trans hM))) (Cn_cp ((cp_I rfl).trans (cp_A.trans (cp_I rfl))) hc) (Fr.ri (Fr.refl _) hR) (show 1 < 5 by decide) (fun b3 => ?_)
          refine sK_i (pc' := 81) rfl ?_
          refine x_iast (pc' := 82) (N := 200) (p := 1) rfl rfl rfl (Eq.trans rdNI (Eq.trans rdNA (Eq.trans rdNI (kN_21_27 hc)))) (io_in (p := 1) (N := 200) (by decide) (by decide)) (nn_io (p := 1) (by decide)) ?_
          refine x_aload_n (pc' := 83) rfl rfl rfl rfl rfl ?_
          refine x_gR (pc' := 86) (r := (some 0)) rfl rfl rfl (Eq.trans (b := sR t 769 0) rfl (kR_769_0 hc)) ?_
          refine x_iload (pc' := 88) rfl rfl rfl ?_
          refine x_iald (pc' := 89) (N := 5) (x := (mA M 0 1)) rfl rfl rfl (Eq.trans rdNA (Eq.trans rdNI (Eq.trans rdNA (Eq.trans rdNI (kN_21_0 hc))))) (io_in (p := 1) (N := 5) (by decide) (by decide)) (Eq.trans (congrArg (sA (sAw (sIw (sAw (sIw t 811 0 0) 21 27 0 (ov (bsF M n 3 (!(xor false s))))) 811 0 1) 21 27 1 (ov (bsF M n 1 (!(xor false s))))) 21 0) (nn_io (p := 1) (by decide))) (Eq.trans (b := sA t 21 0 1) rfl (gA hM rfl))) ?_
          refine x_iconst (pc' := 90) rfl rfl ?_
          have J46 : X 159 111 [.inr (.inr (12, (some 0))), .inl 0, .inl (bz s), .inl 1, .inl (bz ((decide ((mA M 0 3) = 2)) && (!((bsF M n 3 (!(xor false s))).isNone)))), .inl 1, .inl 1] [.inl (bz ((decide ((mA M 0 1) = 2)) && (!((bsF M n 1 (!(xor false s))).isNone))))] (sAw (sIw (sAw (sIw t 811 0 0) 21 27 0 (ov (bsF M n 3 (!(xor false s))))) 811 0 1) 21 27 1 (ov (bsF M n 1 (!(xor false s))))) Q := by
            refine x_istore (pc' := 113) (ls' := [_, _, _, _, _, _, _]) rfl rfl rfl rfl ?_
            refine x_aload_n (pc' := 114) rfl rfl rfl rfl rfl ?_
            refine x_dup (pc' := 115) rfl rfl rfl ?_
            refine x_gI (pc' := 118) (x := 1) rfl rfl rfl (Eq.trans rdIA sI_s) ?_
            refine x_iconst (pc' := 119) rfl rfl ?_
            refine x_iadd (pc' := 120) (z := 2) rfl rfl (by decide) ?_
            refine x_pI (pc' := 123) rfl rfl rfl ?_
            refine x_iinc (pc' := 126) (y := 2) (ls' := [_, _, _, _, _, _, _]) rfl rfl rfl rfl rfl ?_
            refine x_goto (pc' := 25) rfl rfl ?_
            refine x_iload (pc' := 27) rfl rfl rfl ?_
            refine x_iconst (pc' := 28) rfl rfl ?_
            refine x_icmp (a' := 129) (pc' := 31) (z := false) rfl rfl rfl (by decide) (fun h => by cases h) (fun _ => ?_)
            refine x_iload (pc' := 33) rfl rfl rfl ?_
            have J54 : X 159 129 [.inr (.inr (12, (some 0))), .inl 0, .inl (bz s), .inl 1, .inl (bz ((decide ((mA M 0 1) = 2)) && (!((bsF M n 1 (!(xor false s))).isNone)))), .inl (bif ((decide ((mA M 0 1) = 2)) && (!((bsF M n 1 (!(xor false s))).isNone))) then 3 else 2), .inl (bif ((decide ((mA M 0 1) = 2)) && (!((bsF M n 1 (!(xor false s))).isNone))) then (-1) else 1)] [] (sIw (sAw (sIw (sAw (sIw t 811 0 0) 21 27 0 (ov (bsF M n 3 (!(xor false s))))) 811 0 1) 21 27 1 (ov (bsF M n 1 (!(xor false s))))) 811 0 2) Q := by
              refine x_iload (pc' := 131) rfl rfl rfl ?_
              refine x_retz (z := ((decide ((mA M 0 1) = 2)) && (!((bsF M n 1 (!(xor false s))).isNone)))) rfl rfl ?_
              exact qv (congrArg (fun z : Bool => (.inl (some (.inl (bz z))) : sRs)) (Eq.trans (lgF_s q29) lgF_1).symm) (q _ ((rp_Ic rfl).trans ((rp_As rfl).trans ((rp_Ic rfl).trans ((rp_As rfl).trans ((rp_Ic rfl).trans hM))))) ((cp_I rfl).trans (cp_A.trans ((cp_I rfl).trans (cp_A.trans (cp_I rfl))))) (fun L hL => by obtain ⟨l0, z0, h0, j0, rfl⟩ := lgF_i hL; obtain ⟨l1, z1, h1, j1, rfl⟩ := lgF_i h0; cases lgF_nil h1; exact ⟨rfl, ov_io (an_n z0), ov_io (an_n z1), trivial⟩))
            refine x_ifeq_z (a' := 129) (pc' := 36) (z := ((decide ((mA M 0 1) = 2)) && (!((bsF M n 1 (!(xor false s))).isNone)))) rfl rfl rfl (fun q49 => ?_) (fun q49 => ?_)
            · ((try rw [q49] at J54); (try rw [q49]); (try simp only [cd_t, cd_f, nt_t, nt_f, an_t, an_f, or_t, or_f] at J54); (try simp only [cd_t, cd_f, nt_t, nt_f, an_t, an_f, or_t, or_f]); exact J54)
            · refine x_iload_n (pc' := 37) rfl rfl rfl ?_
              refine x_iload_n (pc' := 38) rfl rfl rfl ?_
              refine x_iload (pc' := 40) rfl rfl rfl ?_
              refine x_cs (ls0 := [_, _, _, sJk, sJk, sJk]) (rest := []) rfl rfl rfl rfl ?_
              refine x_getstatic (pc' := 3) rfl rfl (show 1 < sC t 28 from gst1 hc) ?_
              refine x_iconst (pc' := 4) rfl rfl ?_
              refine x_iload_n (pc' := 5) rfl rfl rfl ?_
              refine x_imul (pc' := 6) (z := 0) rfl rfl (by decide) ?_
              refine x_iload_n (pc' := 7) rfl rfl rfl ?_
              refine x_iadd (pc' := 8) (z := 1) rfl rfl (by decide) ?_
              refine x_iald (pc' := 9) (N := 15) (x := 42) rfl rfl rfl (Eq.trans rdNI (Eq.trans rdNA (Eq.trans rdNI (Eq.trans rdNA (Eq.trans rdNI (kN_28_1 hc)))))) (io_in (p := 1) (N := 15) (by decide) (by decide)) (Eq.trans (congrArg (sA (sIw (sAw (sIw (sAw (sIw t 811 0 0) 21 27 0 (ov (bsF M n 3 (!(xor false s))))) 811 0 1) 21 27 1 (ov (bsF M n 1 (!(xor false s))))) 811 0 2) 28 1) (nn_io (p := 1) (by decide))) (Eq.trans (b := sA t 28 1 1) rfl ((hc.2.2.2.2.2 1).2.trans rfl))) ?_
              refine x_istore_n (pc' := 10) (ls' := [_, _, _, _, _, _]) rfl rfl rfl rfl ?_
              refine x_iload_n (pc' := 11) rfl rfl rfl ?_
              refine x_bipush (pc' := 13) rfl rfl ?_
              refine x_icmp (a' := 20) (pc' := 16) (z := true) rfl rfl rfl (by decide) (fun _ => ?_) (fun h => by cases h)
              refine x_iload_n (pc' := 21) rfl rfl rfl ?_
              refine x_bipush (pc' := 23) rfl rfl ?_
              refine x_icmp (a' := 30) (pc' := 26) (z := false) rfl rfl rfl (by decide) (fun h => by cases h) (fun _ => ?_)
              refine x_iconst (pc' := 27) rfl rfl ?_
              refine x_goto (pc' := 39) rfl rfl ?_
              refine x_istore (pc' := 41) (ls' := [_, _, _, _, _, _]) rfl rfl rfl rfl ?_
              refine x_iload (pc' := 43) rfl rfl rfl ?_
              refine x_iload_n (pc' := 44) rfl rfl rfl ?_
              refine x_isub (pc' := 45) (z := 0) rfl rfl (by decide) ?_
              refine x_istore (pc' := 47) (ls' := [_, _, _, _, _, _]) rfl rfl rfl rfl ?_
              refine x_iload (pc' := 49) rfl rfl rfl ?_
              refine x_if (a' := 56) (pc' := 52) (z := false) rfl rfl rfl (by decide) (fun h => by cases h) (fun _ => ?_)
              refine x_iconst (pc' := 53) rfl rfl ?_
              refine x_goto (pc' := 91) rfl rfl ?_
              refine x_reti rfl rfl ?_
              refine sK_i (pc' := 43) rfl ?_
              refine x_istore (pc' := 45) (ls' := [_, _, _, _, _, _, _]) rfl rfl rfl rfl ?_
              refine x_iload (pc' := 47) rfl rfl rfl ?_
              refine x_iconst (pc' := 48) rfl rfl ?_
              refine x_icmp (a' := 123) (pc' := 51) (z := true) rfl rfl rfl (by decide) (fun _ => ?_) (fun h => by cases h)
              refine x_iinc (pc' := 126) (y := 3) (ls' := [_, _, _, _, _, _, _]) rfl rfl rfl rfl rfl ?_
              refine x_goto (pc' := 25) rfl rfl ?_
              refine x_iload (pc' := 27) rfl rfl rfl ?_
              refine x_iconst (pc' := 28) rfl rfl ?_
              refine x_icmp (a' := 129) (pc' := 31) (z := true) rfl rfl rfl (by decide) (fun _ => ?_) (fun h => by cases h)
              ((try rw [q49] at J54); (try rw [q49]); (try simp only [cd_t, cd_f, nt_t, nt_f, an_t, an_f, or_t, or_f] at J54); (try simp only [cd_t, cd_f, nt_t, nt_f, an_t, an_f, or_t, or_f]); exact J54)
          refine x_icmp_n (a' := 110) (pc' := 93) (z := decide ((mA M 0 1) = 2)) rfl rfl rfl (ik_ne _ _) (fun q45 => ?_) (fun q45 => ?_)
          · refine x_iconst (pc' := 111) rfl rfl ?_
            ((try rw [q45] at J46); (try rw [q45]); (try simp only [cd_t, cd_f, nt_t, nt_f, an_t, an_f, or_t, or_f] at J46); (try simp only [cd_t, cd_f, nt_t, nt_f, an_t, an_f, or_t, or_f]); exact J46)
          · refine x_aload_n (pc' := 94) rfl rfl rfl rfl rfl ?_
            refine x_gR (pc' := 97) (r := (some 27)) rfl rfl rfl (Eq.trans (b := sR t 809 0) rfl (kR_809_0 hc)) ?_
            refine x_aload_n (pc' := 98) rfl rfl rfl rfl rfl ?_
            refine x_gI (pc' := 101) (x := 1) rfl rfl rfl (Eq.trans rdIA sI_s) ?_
            refine x_iald (pc' := 102) (N := 200) (x := (ov (bsF M n 1 (!(xor false s))))) rfl rfl rfl (Eq.trans rdNA (Eq.trans rdNI (Eq.trans rdNA (Eq.trans rdNI (kN_21_27 hc))))) (io_in (p := 1) (N := 200) (by decide) (by decide)) (Eq.trans (congrArg (sA (sAw (sIw (sAw (sIw t 811 0 0) 21 27 0 (ov (bsF M n 3 (!(xor false s))))) 811 0 1) 21 27 1 (ov (bsF M n 1 (!(xor false s))))) 21 27) (nn_io (p := 1) (by decide))) sA_s) ?_
            refine x_iconst (pc' := 103) rfl rfl ?_
            refine x_icmp (a' := 110) (pc' := 106) (z := (bsF M n 1 (!(xor false s))).isNone) rfl rfl rfl (ov_eq (ov_31 (N := n) b3 (Nat.le_of_lt (gn31 hR)))) (fun q46 => ?_) (fun q46 => ?_)
            · refine x_iconst (pc' := 111) rfl rfl ?_
              ((try rw [q46] at J46); (try rw [q46]); (try rw [q45] at J46); (try rw [q45]); (try simp only [cd_t, cd_f, nt_t, nt_f, an_t, an_f, or_t, or_f] at J46); (try simp only [cd_t, cd_f, nt_t, nt_f, an_t, an_f, or_t, or_f]); exact J46)
            · refine x_iconst (pc' := 107) rfl rfl ?_
              refine x_goto (pc' := 111) rfl rfl ?_
              ((try rw [q46] at J46); (try rw [q46]); (try rw [q45] at J46); (try rw [q45]); (try simp only [cd_t, cd_f, nt_t, nt_f, an_t, an_f, or_t, or_f] at J46); (try simp only [cd_t, cd_f, nt_t, nt_f, an_t, an_f, or_t, or_f]); exact J46)
        refine x_icmp (a' := 77) (pc' := 73) (z := (xor false s)) rfl rfl rfl (bz_neb _ _) (fun q43 => ?_) (fun q43 => ?_)
        · refine x_iconst (pc' := 78) rfl rfl ?_
          ((try rw [q43] at J43); (try rw [q43]); (try simp only [cd_t, cd_f, nt_t, nt_f, an_t, an_f, or_t, or_f] at J43); (try simp only [cd_t, cd_f, nt_t, nt_f, an_t, an_f, or_t, or_f]); exact J43)
        · refine x_iconst (pc' := 74) rfl rfl ?_
          refine x_goto (pc' := 78) rfl rfl ?_
          ((try rw [q43] at J43); (try rw [q43]); (try simp only [cd_t, cd_f, nt_t, nt_f, an_t, an_f, or_t, or_f] at J43); (try simp only [cd_t, cd_f, nt_t, nt_f, an_t, an_f, or_t, or_f]); exact J43)
    refine x_icmp_n (a' := 110) (pc' := 93) (z := decide ((mA M 0 3) = 2)) rfl rfl rfl (ik_ne _ _) (fun q25 => ?_) (fun q25 => ?_)
    · refine x_iconst (pc' := 111) rfl rfl ?_
      ((try rw [q25] at J26); (try rw [q25]); (try simp only [cd_t, cd_f, nt_t, nt_f, an_t, an_f, or_t, or_f] at J26); (try simp only [cd_t, cd_f, nt_t, nt_f, an_t, an_f, or_t, or_f]); exact J26)
    · refine x_aload_n (pc' := 94) rfl rfl rfl rfl rfl ?_
      refine x_gR (pc' := 97) (r := (some 27)) rfl rfl rfl (Eq.trans (b := sR t 809 0) rfl (kR_809_0 hc)) ?_
      refine x_aload_n (pc' := 98) rfl rfl rfl rfl rfl ?_
      refine x_gI (pc' := 101) (x := 0) rfl rfl rfl (Eq.trans rdIA sI_s) ?_
      refine x_iald (pc' := 102) (N := 200) (x := (ov (bsF M n 3 (!(xor false s))))) rfl rfl rfl (Eq.trans rdNA (Eq.trans rdNI (kN_21_27 hc))) (io_in (p := 0) (N := 200) (by decide) (by decide)) (Eq.trans (congrArg (sA (sAw (sIw t 811 0 0) 21 27 0 (ov (bsF M n 3 (!(xor false s))))) 21 27) (nn_io (p := 0) (by decide))) sA_s) ?_
      refine x_iconst (pc' := 103) rfl rfl ?_
      refine x_icmp (a' := 110) (pc' := 106) (z := (bsF M n 3 (!(xor false s))).isNone) rfl rfl rfl (ov_eq (ov_31 (N := n) b1 (Nat.le_of_lt (gn31 hR)))) (fun q26 => ?_) (fun q26 => ?_)
      · refine x_iconst (pc' := 111) rfl rfl ?_
        ((try rw [q26] at J26); (try rw [q26]); (try rw [q25] at J26); (try rw [q25]); (try simp only [cd_t, cd_f, nt_t, nt_f, an_t, an_f, or_t, or_f] at J26); (try simp only [cd_t, cd_f, nt_t, nt_f, an_t, an_f, or_t, or_f]); exact J26)
      · refine x_iconst (pc' := 107) rfl rfl ?_
        refine x_goto (pc' := 111) rfl rfl ?_
        ((try rw [q26] at J26); (try rw [q26]); (try rw [q25] at J26); (try rw [q25]); (try simp only [cd_t, cd_f, nt_t, nt_f, an_t, an_f, or_t, or_f] at J26); (try simp only [cd_t, cd_f, nt_t, nt_f, an_t, an_f, or_t, or_f]); exact J26)
  refine x_icmp (a' := 77) (pc' := 73) (z := (xor false s)) rfl rfl rfl (bz_neb _ _) (fun q23 => ?_) (fun q23 => ?_)
  · refine x_iconst (pc' := 78) rfl rfl ?_
    ((try rw [q23] at J23); (try rw [q23]); (try simp only [cd_t, cd_f, nt_t, nt_f, an_t, an_f, or_t, or_f] at J23); (try simp only [cd_t, cd_f, nt_t, nt_f, an_t, an_f, or_t, or_f]); exact J23)
  · refine x_iconst (pc' := 74) rfl rfl ?_
    refine x_goto (pc' := 78) rfl rfl ?_
    ((try rw [q23] at J23); (try rw [q23]); (try simp only [cd_t, cd_f, nt_t, nt_f, an_t, an_f, or_t, or_f] at J23); (try simp only [cd_t, cd_f, nt_t, nt_f, an_t, an_f, or_t, or_f]); exact J23)
set_option maxHeartbeats 4000000 in
set_option maxRecDepth 10000 in
theorem r160_01 {t : sT} {Q : sRs → sT → Prop} {M : sM} {n : Nat} {o0 o1 : Nat}
    (hM : rp t = M)
    (hc : Cn t)
    (hR : Ri M n)
    (ho0 : o0 < n)
    (ho1 : o1 < n)
    (hq : sI t 811 0 = 2)
    (hk0 : sA t 21 27 0 = io o0)
    (hk1 : sA t 21 27 1 = io o1)
    (q : Q (.inl (some (.inl (prF M 0 1 [o0, o1])))) t) :
    X 160 0 [.inr (.inr (12, (some 0))), .inl 0, .inl 1, sJk, sJk] [] t Q := by
  refine x_iload_n (pc' := 1) rfl rfl rfl ?_
  refine x_iconst (pc' := 2) rfl rfl ?_
  refine x_icmp (a' := 34) (pc' := 5) (z := true) rfl rfl rfl (by decide) (fun _ => ?_) (fun h => by cases h)
  refine x_iconst (pc' := 35) rfl rfl ?_
  refine x_istore_n (pc' := 36) (ls' := [_, _, _, _, _]) rfl rfl rfl rfl ?_
  refine x_iconst (pc' := 37) rfl rfl ?_
  refine x_istore (pc' := 39) (ls' := [_, _, _, _, _]) rfl rfl rfl rfl ?_
  refine x_iload (pc' := 41) rfl rfl rfl ?_
  refine x_aload_n (pc' := 42) rfl rfl rfl rfl rfl ?_
  refine x_gI (pc' := 45) (x := 2) rfl rfl rfl hq ?_
  refine x_icmp (a' := 95) (pc' := 48) (z := false) rfl rfl rfl (by decide) (fun h => by cases h) (fun _ => ?_)
  refine x_iload_n (pc' := 49) rfl rfl rfl ?_
  refine x_iload_n (pc' := 50) rfl rfl rfl ?_
  refine x_iload_n (pc' := 51) rfl rfl rfl ?_
  refine x_iload (pc' := 53) rfl rfl rfl ?_
  refine x_cs (ls0 := [_, _, _, sJk]) (rest := [_]) rfl rfl rfl rfl ?_
  refine x_iload_n (pc' := 1) rfl rfl rfl ?_
  refine x_iload_n (pc' := 2) rfl rfl rfl ?_
  refine x_iload_n (pc' := 3) rfl rfl rfl ?_
  refine x_cs (ls0 := [_, _, _, sJk, sJk, sJk]) (rest := []) rfl rfl rfl rfl ?_
  refine x_getstatic (pc' := 3) rfl rfl (show 1 < sC t 28 from gst1 hc) ?_
  refine x_iconst (pc' := 4) rfl rfl ?_
  refine x_iload_n (pc' := 5) rfl rfl rfl ?_
  refine x_imul (pc' := 6) (z := 0) rfl rfl (by decide) ?_
  refine x_iload_n (pc' := 7) rfl rfl rfl ?_
  refine x_iadd (pc' := 8) (z := 1) rfl rfl (by decide) ?_
  refine x_iald (pc' := 9) (N := 15) (x := 42) rfl rfl rfl (kN_28_1 hc) (io_in (p := 1) (N := 15) (by decide) (by decide)) (Eq.trans (congrArg (sA t 28 1) (nn_io (p := 1) (by decide))) ((hc.2.2.2.2.2 1).2.trans rfl)) ?_
  refine x_istore_n (pc' := 10) (ls' := [_, _, _, _, _, _]) rfl rfl rfl rfl ?_
  refine x_iload_n (pc' := 11) rfl rfl rfl ?_
  refine x_bipush (pc' := 13) rfl rfl ?_
  refine x_icmp (a' := 20) (pc' := 16) (z := true) rfl rfl rfl (by decide) (fun _ => ?_) (fun h => by cases h)
  refine x_iload_n (pc' := 21) rfl rfl rfl ?_
  refine x_bipush (pc' := 23) rfl rfl ?_
  refine x_icmp (a' := 30) (pc' := 26) (z := false) rfl rfl rfl (by decide) (fun h => by cases h) (fun _ => ?_)
  refine x_iconst (pc' := 27) rfl rfl ?_
  refine x_goto (pc' := 39) rfl rfl ?_
  refine x_istore (pc' := 41) (ls' := [_, _, _, _, _, _]) rfl rfl rfl rfl ?_
  refine x_iload (pc' := 43) rfl rfl rfl ?_
  refine x_iload_n (pc' := 44) rfl rfl rfl ?_
  refine x_isub (pc' := 45) (z := 2) rfl rfl (by decide) ?_
  refine x_istore (pc' := 47) (ls' := [_, _, _, _, _, _]) rfl rfl rfl rfl ?_
  refine x_iload (pc' := 49) rfl rfl rfl ?_
  refine x_if (a' := 56) (pc' := 52) (z := true) rfl rfl rfl (by decide) (fun _ => ?_) (fun h => by cases h)
  refine x_iload (pc' := 58) rfl rfl rfl ?_
  refine x_iconst (pc' := 59) rfl rfl ?_
  refine x_icmp (a' := 69) (pc' := 62) (z := true) rfl rfl rfl (by decide) (fun _ => ?_) (fun h => by cases h)
  refine x_iload (pc' := 71) rfl rfl rfl ?_
  refine x_iconst (pc' := 72) rfl rfl ?_
  refine x_icmp (a' := 85) (pc' := 75) (z := false) rfl rfl rfl (by decide) (fun h => by cases h) (fun _ => ?_)
  refine x_iload_n (pc' := 76) rfl rfl rfl ?_
  refine x_bipush (pc' := 78) rfl rfl ?_
  refine x_idiv (pc' := 79) (z := 4) rfl rfl (by decide) (by decide +kernel) ?_
  refine x_bipush (pc' := 81) rfl rfl ?_
  refine x_irem (pc' := 82) (z := 4) rfl rfl (by decide) (by decide +kernel) ?_
  refine x_goto (pc' := 89) rfl rfl ?_
  refine x_iconst (pc' := 90) rfl rfl ?_
  refine x_isub (pc' := 91) (z := 3) rfl rfl (by decide) ?_
  refine x_reti rfl rfl ?_
  refine sK_i (pc' := 6) rfl ?_
  refine x_istore_n (pc' := 7) (ls' := [_, _, _, _]) rfl rfl rfl rfl ?_
  refine x_iload_n (pc' := 8) rfl rfl rfl ?_
  refine x_iconst (pc' := 9) rfl rfl ?_
  refine x_icmp (a' := 31) (pc' := 12) (z := false) rfl rfl rfl (by decide) (fun h => by cases h) (fun _ => ?_)
  refine x_iload_n (pc' := 13) rfl rfl rfl ?_
  refine x_iconst (pc' := 14) rfl rfl ?_
  refine x_icmp (a' := 29) (pc' := 17) (z := false) rfl rfl rfl (by decide) (fun h => by cases h) (fun _ => ?_)
  refine x_iload_n (pc' := 18) rfl rfl rfl ?_
  refine x_cs (ls0 := [_]) (rest := []) rfl rfl rfl rfl ?_
  refine x_iload_n (pc' := 1) rfl rfl rfl ?_
  refine x_iconst (pc' := 2) rfl rfl ?_
  refine x_isub (pc' := 3) (z := 0) rfl rfl (by decide) ?_
  refine x_reti rfl rfl ?_
  refine sK_i (pc' := 21) rfl ?_
  refine x_iload_n (pc' := 22) rfl rfl rfl ?_
  refine x_icmp (a' := 29) (pc' := 25) (z := true) rfl rfl rfl (by decide) (fun _ => ?_) (fun h => by cases h)
  refine x_iconst (pc' := 30) rfl rfl ?_
  refine x_retz (z := false) rfl rfl ?_
  refine sK_i (pc' := 56) rfl ?_
  refine x_if (a' := 75) (pc' := 59) (z := true) rfl rfl rfl (by decide) (fun _ => ?_) (fun h => by cases h)
  refine x_aload_n (pc' := 76) rfl rfl rfl rfl rfl ?_
  refine x_gR (pc' := 79) (r := (some 14)) rfl rfl rfl (kR_790_0 hc) ?_
  refine x_aload_n (pc' := 80) rfl rfl rfl rfl rfl ?_
  refine x_gR (pc' := 83) (r := (some 27)) rfl rfl rfl (kR_809_0 hc) ?_
  refine x_iload (pc' := 85) rfl rfl rfl ?_
  refine x_iald (pc' := 86) (N := 200) (x := (io o0)) rfl rfl rfl (kN_21_27 hc) (io_in (p := 0) (N := 200) (by decide) (by decide)) (Eq.trans (congrArg (sA t 21 27) (nn_io (p := 0) (by decide))) hk0) ?_
  refine x_iald (pc' := 87) (N := 200) (x := (mA M 14 o0)) rfl rfl rfl (kN_21_14 hc) (io_in (p := o0) (N := 200) (Nat.lt_of_lt_of_le ho0 (gn200 hR)) (by decide)) (Eq.trans (congrArg (sA t 21 14) (nn_io (p := o0) (Nat.lt_trans (Nat.lt_of_lt_of_le ho0 (gn200 hR)) (by decide)))) (gF14 hM (Fr.refl _))) ?_
  refine x_iadd (pc' := 88) (z := (0 + (mA M 14 o0))) rfl rfl rfl ?_
  refine x_istore_n (pc' := 89) (ls' := [_, _, _, _, _]) rfl rfl rfl rfl ?_
  refine x_iinc (pc' := 92) (y := 1) (ls' := [_, _, _, _, _]) rfl rfl rfl rfl rfl ?_
  refine x_goto (pc' := 39) rfl rfl ?_
  refine x_iload (pc' := 41) rfl rfl rfl ?_
  refine x_aload_n (pc' := 42) rfl rfl rfl rfl rfl ?_
  refine x_gI (pc' := 45) (x := 2) rfl rfl rfl hq ?_
  refine x_icmp (a' := 95) (pc' := 48) (z := false) rfl rfl rfl (by decide) (fun h => by cases h) (fun _ => ?_)
  refine x_iload_n (pc' := 49) rfl rfl rfl ?_
  refine x_iload_n (pc' := 50) rfl rfl rfl ?_
  refine x_iload_n (pc' := 51) rfl rfl rfl ?_
  refine x_iload (pc' := 53) rfl rfl rfl ?_
  refine x_cs (ls0 := [_, _, _, sJk]) (rest := [_]) rfl rfl rfl rfl ?_
  refine x_iload_n (pc' := 1) rfl rfl rfl ?_
  refine x_iload_n (pc' := 2) rfl rfl rfl ?_
  refine x_iload_n (pc' := 3) rfl rfl rfl ?_
  refine x_cs (ls0 := [_, _, _, sJk, sJk, sJk]) (rest := []) rfl rfl rfl rfl ?_
  refine x_getstatic (pc' := 3) rfl rfl (show 1 < sC t 28 from gst1 hc) ?_
  refine x_iconst (pc' := 4) rfl rfl ?_
  refine x_iload_n (pc' := 5) rfl rfl rfl ?_
  refine x_imul (pc' := 6) (z := 0) rfl rfl (by decide) ?_
  refine x_iload_n (pc' := 7) rfl rfl rfl ?_
  refine x_iadd (pc' := 8) (z := 1) rfl rfl (by decide) ?_
  refine x_iald (pc' := 9) (N := 15) (x := 42) rfl rfl rfl (kN_28_1 hc) (io_in (p := 1) (N := 15) (by decide) (by decide)) (Eq.trans (congrArg (sA t 28 1) (nn_io (p := 1) (by decide))) ((hc.2.2.2.2.2 1).2.trans rfl)) ?_
  refine x_istore_n (pc' := 10) (ls' := [_, _, _, _, _, _]) rfl rfl rfl rfl ?_
  refine x_iload_n (pc' := 11) rfl rfl rfl ?_
  refine x_bipush (pc' := 13) rfl rfl ?_
  refine x_icmp (a' := 20) (pc' := 16) (z := true) rfl rfl rfl (by decide) (fun _ => ?_) (fun h => by cases h)
  refine x_iload_n (pc' := 21) rfl rfl rfl ?_
  refine x_bipush (pc' := 23) rfl rfl ?_
  refine x_icmp (a' := 30) (pc' := 26) (z := false) rfl rfl rfl (by decide) (fun h => by cases h) (fun _ => ?_)
  refine x_iconst (pc' := 27) rfl rfl ?_
  refine x_goto (pc' := 39) rfl rfl ?_
  refine x_istore (pc' := 41) (ls' := [_, _, _, _, _, _]) rfl rfl rfl rfl ?_
  refine x_iload (pc' := 43) rfl rfl rfl ?_
  refine x_iload_n (pc' := 44) rfl rfl rfl ?_
  refine x_isub (pc' := 45) (z := 1) rfl rfl (by decide) ?_
  refine x_istore (pc' := 47) (ls' := [_, _, _, _, _, _]) rfl rfl rfl rfl ?_
  refine x_iload (pc' := 49) rfl rfl rfl ?_
  refine x_if (a' := 56) (pc' := 52) (z := true) rfl rfl rfl (by decide) (fun _ => ?_) (fun h => by cases h)
  refine x_iload (pc' := 58) rfl rfl rfl ?_
  refine x_iconst (pc' := 59) rfl rfl ?_
  refine x_icmp (a' := 69) (pc' := 62) (z := true) rfl rfl rfl (by decide) (fun _ => ?_) (fun h => by cases h)
  refine x_iload (pc' := 71) rfl rfl rfl ?_
  refine x_iconst (pc' := 72) rfl rfl ?_
  refine x_icmp (a' := 85) (pc' := 75) (z := true) rfl rfl rfl (by decide) (fun _ => ?_) (fun h => by cases h)
  refine x_iload_n (pc' := 86) rfl rfl rfl ?_
  refine x_bipush (pc' := 88) rfl rfl ?_
  refine x_irem (pc' := 89) (z := 2) rfl rfl (by decide) (by decide +kernel) ?_
  refine x_iconst (pc' := 90) rfl rfl ?_
  refine x_isub (pc' := 91) (z := 1) rfl rfl (by decide) ?_
  refine x_reti rfl rfl ?_
  refine sK_i (pc' := 6) rfl ?_
  refine x_istore_n (pc' := 7) (ls' := [_, _, _, _]) rfl rfl rfl rfl ?_
  refine x_iload_n (pc' := 8) rfl rfl rfl ?_
  refine x_iconst (pc' := 9) rfl rfl ?_
  refine x_icmp (a' := 31) (pc' := 12) (z := false) rfl rfl rfl (by decide) (fun h => by cases h) (fun _ => ?_)
  refine x_iload_n (pc' := 13) rfl rfl rfl ?_
  refine x_iconst (pc' := 14) rfl rfl ?_
  refine x_icmp (a' := 29) (pc' := 17) (z := true) rfl rfl rfl (by decide) (fun _ => ?_) (fun h => by cases h)
  refine x_iconst (pc' := 30) rfl rfl ?_
  refine x_retz (z := false) rfl rfl ?_
  refine sK_i (pc' := 56) rfl ?_
  refine x_if (a' := 75) (pc' := 59) (z := true) rfl rfl rfl (by decide) (fun _ => ?_) (fun h => by cases h)
  refine x_aload_n (pc' := 76) rfl rfl rfl rfl rfl ?_
  refine x_gR (pc' := 79) (r := (some 14)) rfl rfl rfl (kR_790_0 hc) ?_
  refine x_aload_n (pc' := 80) rfl rfl rfl rfl rfl ?_
  refine x_gR (pc' := 83) (r := (some 27)) rfl rfl rfl (kR_809_0 hc) ?_
  refine x_iload (pc' := 85) rfl rfl rfl ?_
  refine x_iald (pc' := 86) (N := 200) (x := (io o1)) rfl rfl rfl (kN_21_27 hc) (io_in (p := 1) (N := 200) (by decide) (by decide)) (Eq.trans (congrArg (sA t 21 27) (nn_io (p := 1) (by decide))) hk1) ?_
  refine x_iald (pc' := 87) (N := 200) (x := (mA M 14 o1)) rfl rfl rfl (kN_21_14 hc) (io_in (p := o1) (N := 200) (Nat.lt_of_lt_of_le ho1 (gn200 hR)) (by decide)) (Eq.trans (congrArg (sA t 21 14) (nn_io (p := o1) (Nat.lt_trans (Nat.lt_of_lt_of_le ho1 (gn200 hR)) (by decide)))) (gF14 hM (Fr.refl _))) ?_
  refine x_iadd (pc' := 88) (z := ((0 + (mA M 14 o0)) + (mA M 14 o1))) rfl rfl rfl ?_
  refine x_istore_n (pc' := 89) (ls' := [_, _, _, _, _]) rfl rfl rfl rfl ?_
  refine x_iinc (pc' := 92) (y := 2) (ls' := [_, _, _, _, _]) rfl rfl rfl rfl rfl ?_
  refine x_goto (pc' := 39) rfl rfl ?_
  refine x_iload (pc' := 41) rfl rfl rfl ?_
  refine x_aload_n (pc' := 42) rfl rfl rfl rfl rfl ?_
  refine x_gI (pc' := 45) (x := 2) rfl rfl rfl hq ?_
  refine x_icmp (a' := 95) (pc' := 48) (z := true) rfl rfl rfl (by decide) (fun _ => ?_) (fun h => by cases h)
  refine x_iload_n (pc' := 96) rfl rfl rfl ?_
  refine x_reti rfl rfl ?_
  exact q
-- ((0 + (mA M 14 o0)) + (mA M 14 o1))
set_option maxHeartbeats 4000000 in
set_option maxRecDepth 10000 in
theorem r159_02 {t : sT} {Q : sRs → sT → Prop} {M : sM} {n : Nat} {s : Bool} (hM : rp t = M) (hc : Cn t) (hR : Ri M n)
    (q : ∀ t', rp t' = M → cp t' = cp t → (∀ L, lgO M n 0 s 2 = some L → Tk t' L) → Q (.inl (some (.inl (bz (lgO M n 0 s 2).isSome)))) t') :
    X 159 0 [.inr (.inr (12, (some 0))), .inl 0, .inl (bz s), .inl 2, sJk, sJk, sJk] [] t Q := by
  refine x_iload_n (pc' := 1) rfl rfl rfl ?_
  refine x_iload_n (pc' := 2) rfl rfl rfl ?_
  refine x_iconst (pc' := 3) rfl rfl ?_
  refine x_cs (ls0 := [_, _, _, sJk, sJk, sJk]) (rest := []) rfl rfl rfl rfl ?_
  refine x_getstatic (pc' := 3) rfl rfl (show 1 < sC t 28 from gst1 hc) ?_
  refine x_iconst (pc' := 4) rfl rfl ?_
  refine x_iload_n (pc' := 5) rfl rfl rfl ?_
  refine x_imul (pc' := 6) (z := 0) rfl rfl (by decide) ?_
  refine x_iload_n (pc' := 7) rfl rfl rfl ?_
  refine x_iadd (pc' := 8) (z := 2) rfl rfl (by decide) ?_
  refine x_iald (pc' := 9) (N := 15) (x := 453) rfl rfl rfl (kN_28_1 hc) (io_in (p := 2) (N := 15) (by decide) (by decide)) (Eq.trans (congrArg (sA t 28 1) (nn_io (p := 2) (by decide))) ((hc.2.2.2.2.2 2).2.trans rfl)) ?_
  refine x_istore_n (pc' := 10) (ls' := [_, _, _, _, _, _]) rfl rfl rfl rfl ?_
  refine x_iload_n (pc' := 11) rfl rfl rfl ?_
  refine x_bipush (pc' := 13) rfl rfl ?_
  refine x_icmp (a' := 20) (pc' := 16) (z := false) rfl rfl rfl (by decide) (fun h => by cases h) (fun _ => ?_)
  refine x_iconst (pc' := 17) rfl rfl ?_
  refine x_goto (pc' := 39) rfl rfl ?_
  refine x_istore (pc' := 41) (ls' := [_, _, _, _, _, _]) rfl rfl rfl rfl ?_
  refine x_iload (pc' := 43) rfl rfl rfl ?_
  refine x_iload_n (pc' := 44) rfl rfl rfl ?_
  refine x_isub (pc' := 45) (z := 3) rfl rfl (by decide) ?_
  refine x_istore (pc' := 47) (ls' := [_, _, _, _, _, _]) rfl rfl rfl rfl ?_
  refine x_iload (pc' := 49) rfl rfl rfl ?_
  refine x_if (a' := 56) (pc' := 52) (z := true) rfl rfl rfl (by decide) (fun _ => ?_) (fun h => by cases h)
  refine x_iload (pc' := 58) rfl rfl rfl ?_
  refine x_iconst (pc' := 59) rfl rfl ?_
  refine x_icmp (a' := 69) (pc' := 62) (z := false) rfl rfl rfl (by decide) (fun h => by cases h) (fun _ => ?_)
  refine x_iload_n (pc' := 63) rfl rfl rfl ?_
  refine x_bipush (pc' := 65) rfl rfl ?_
  refine x_idiv (pc' := 66) (z := 4) rfl rfl (by decide) (by decide +kernel) ?_
  refine x_goto (pc' := 89) rfl rfl ?_
  refine x_iconst (pc' := 90) rfl rfl ?_
  refine x_isub (pc' := 91) (z := 3) rfl rfl (by decide) ?_
  refine x_reti rfl rfl ?_
  refine sK_i (pc' := 6) rfl ?_
  refine x_iconst (pc' := 7) rfl rfl ?_
  refine x_icmp (a' := 14) (pc' := 10) (z := false) rfl rfl rfl (by decide) (fun h => by cases h) (fun _ => ?_)
  refine x_iconst (pc' := 11) rfl rfl ?_
  refine x_goto (pc' := 15) rfl rfl ?_
  refine x_istore (pc' := 17) (ls' := [_, _, _, _, _, _, _]) rfl rfl rfl rfl ?_
  refine x_aload_n (pc' := 18) rfl rfl rfl rfl rfl ?_
  refine x_iconst (pc' := 19) rfl rfl ?_
  refine x_pI (pc' := 22) rfl rfl rfl ?_
  refine x_iconst (pc' := 23) rfl rfl ?_
  refine x_istore (pc' := 25) (ls' := [_, _, _, _, _, _, _]) rfl rfl rfl rfl ?_
  refine x_iload (pc' := 27) rfl rfl rfl ?_
  refine x_iconst (pc' := 28) rfl rfl ?_
  refine x_icmp (a' := 129) (pc' := 31) (z := false) rfl rfl rfl (by decide) (fun h => by cases h) (fun _ => ?_)
  refine x_iload (pc' := 33) rfl rfl rfl ?_
  refine x_if (a' := 129) (pc' := 36) (z := false) rfl rfl rfl (by decide) (fun h => by cases h) (fun _ => ?_)
  refine x_iload_n (pc' := 37) rfl rfl rfl ?_
  refine x_iload_n (pc' := 38) rfl rfl rfl ?_
  refine x_iload (pc' := 40) rfl rfl rfl ?_
  refine x_cs (ls0 := [_, _, _, sJk, sJk, sJk]) (rest := []) rfl rfl rfl rfl ?_
  refine x_getstatic (pc' := 3) rfl rfl (show 1 < sC t 28 from gst1 hc) ?_
  refine x_iconst (pc' := 4) rfl rfl ?_
  refine x_iload_n (pc' := 5) rfl rfl rfl ?_
  refine x_imul (pc' := 6) (z := 0) rfl rfl (by decide) ?_
  refine x_iload_n (pc' := 7) rfl rfl rfl ?_
  refine x_iadd (pc' := 8) (z := 2) rfl rfl (by decide) ?_
  refine x_iald (pc' := 9) (N := 15) (x := 453) rfl rfl rfl (Eq.trans rdNI (kN_28_1 hc)) (io_in (p := 2) (N := 15) (by decide) (by decide)) (Eq.trans (congrArg (sA (sIw t 811 0 0) 28 1) (nn_io (p := 2) (by decide))) (Eq.trans (b := sA t 28 1 2) rfl ((hc.2.2.2.2.2 2).2.trans rfl))) ?_
  refine x_istore_n (pc' := 10) (ls' := [_, _, _, _, _, _]) rfl rfl rfl rfl ?_
  refine x_iload_n (pc' := 11) rfl rfl rfl ?_
  refine x_bipush (pc' := 13) rfl rfl ?_
  refine x_icmp (a' := 20) (pc' := 16) (z := false) rfl rfl rfl (by decide) (fun h => by cases h) (fun _ => ?_)
  refine x_iconst (pc' := 17) rfl rfl ?_
  refine x_goto (pc' := 39) rfl rfl ?_
  refine x_istore (pc' := 41) (ls' := [_, _, _, _, _, _]) rfl rfl rfl rfl ?_
  refine x_iload (pc' := 43) rfl rfl rfl ?_
  refine x_iload_n (pc' := 44) rfl rfl rfl ?_
  refine x_isub (pc' := 45) (z := 3) rfl rfl (by decide) ?_
  refine x_istore (pc' := 47) (ls' := [_, _, _, _, _, _]) rfl rfl rfl rfl ?_
  refine x_iload (pc' := 49) rfl rfl rfl ?_
  refine x_if (a' := 56) (pc' := 52) (z := true) rfl rfl rfl (by decide) (fun _ => ?_) (fun h => by cases h)
  refine x_iload (pc' := 58) rfl rfl rfl ?_
  refine x_iconst (pc' := 59) rfl rfl ?_
  refine x_icmp (a' := 69) (pc' := 62) (z := false) rfl rfl rfl (by decide) (fun h => by cases h) (fun _ => ?_)
  refine x_iload_n (pc' := 63) rfl rfl rfl ?_
  refine x_bipush (pc' := 65) rfl rfl ?_
  refine x_idiv (pc' := 66) (z := 4) rfl rfl (by decide) (by decide +kernel) ?_
  refine x_goto (pc' := 89) rfl rfl ?_
  refine x_iconst (pc' := 90) rfl rfl ?_
  refine x_isub (pc' := 91) (z := 3) rfl rfl (by decide) ?_
  refine x_reti rfl rfl ?_
  refine sK_i (pc' := 43) rfl ?_
  refine x_istore (pc' := 45) (ls' := [_, _, _, _, _, _, _]) rfl rfl rfl rfl ?_
  refine x_iload (pc' := 47) rfl rfl rfl ?_
  refine x_iconst (pc' := 48) rfl rfl ?_
  refine x_icmp (a' := 123) (pc' := 51) (z := false) rfl rfl rfl (by decide) (fun h => by cases h) (fun _ => ?_)
  refine x_aload_n (pc' := 52) rfl rfl rfl rfl rfl ?_
  refine x_gR (pc' := 55) (r := (some 27)) rfl rfl rfl (Eq.trans (b := sR t 809 0) rfl (kR_809_0 hc)) ?_
  refine x_aload_n (pc' := 56) rfl rfl rfl rfl rfl ?_
  refine x_gI (pc' := 59) (x := 0) rfl rfl rfl sI_s ?_
  refine x_aload_n (pc' := 60) rfl rfl rfl rfl rfl ?_
  refine x_iload (pc' := 62) rfl rfl rfl ?_
  refine x_iload_n (pc' := 63) rfl rfl rfl ?_
  refine x_iload_n (pc' := 64) rfl rfl rfl ?_
  refine x_iload (pc' := 66) rfl rfl rfl ?_
  refine x_cs (ls0 := [_, _, _, sJk]) (rest := [_, _, _, _]) rfl rfl rfl rfl ?_
  refine x_iload_n (pc' := 1) rfl rfl rfl ?_
  refine x_iload_n (pc' := 2) rfl rfl rfl ?_
  refine x_iload_n (pc' := 3) rfl rfl rfl ?_
  refine x_cs (ls0 := [_, _, _, sJk, sJk, sJk]) (rest := []) rfl rfl rfl rfl ?_
  refine x_getstatic (pc' := 3) rfl rfl (show 1 < sC t 28 from gst1 hc) ?_
  refine x_iconst (pc' := 4) rfl rfl ?_
  refine x_iload_n (pc' := 5) rfl rfl rfl ?_
  refine x_imul (pc' := 6) (z := 0) rfl rfl (by decide) ?_
  refine x_iload_n (pc' := 7) rfl rfl rfl ?_
  refine x_iadd (pc' := 8) (z := 2) rfl rfl (by decide) ?_
  refine x_iald (pc' := 9) (N := 15) (x := 453) rfl rfl rfl (Eq.trans rdNI (kN_28_1 hc)) (io_in (p := 2) (N := 15) (by decide) (by decide)) (Eq.trans (congrArg (sA (sIw t 811 0 0) 28 1) (nn_io (p := 2) (by decide))) (Eq.trans (b := sA t 28 1 2) rfl ((hc.2.2.2.2.2 2).2.trans rfl))) ?_
  refine x_istore_n (pc' := 10) (ls' := [_, _, _, _, _, _]) rfl rfl rfl rfl ?_
  refine x_iload_n (pc' := 11) rfl rfl rfl ?_
  refine x_bipush (pc' := 13) rfl rfl ?_
  refine x_icmp (a' := 20) (pc' := 16) (z := false) rfl rfl rfl (by decide) (fun h => by cases h) (fun _ => ?_)
  refine x_iconst (pc' := 17) rfl rfl ?_
  refine x_goto (pc' := 39) rfl rfl ?_
  refine x_istore (pc' := 41) (ls' := [_, _, _, _, _, _]) rfl rfl rfl rfl ?_
  refine x_iload (pc' := 43) rfl rfl rfl ?_
  refine x_iload_n (pc' := 44) rfl rfl rfl ?_
  refine x_isub (pc' := 45) (z := 3) rfl rfl (by decide) ?_
  refine x_istore (pc' := 47) (ls' := [_, _, _, _, _, _]) rfl rfl rfl rfl ?_
  refine x_iload (pc' := 49) rfl rfl rfl ?_
  refine x_if (a' := 56) (pc' := 52) (z := true) rfl rfl rfl (by decide) (fun _ => ?_) (fun h => by cases h)
  refine x_iload (pc' := 58) rfl rfl rfl ?_
  refine x_iconst (pc' := 59) rfl rfl ?_
  refine x_icmp (a' := 69) (pc' := 62) (z := false) rfl rfl rfl (by decide) (fun h => by cases h) (fun _ => ?_)
  refine x_iload_n (pc' := 63) rfl rfl rfl ?_
  refine x_bipush (pc' := 65) rfl rfl ?_
  refine x_idiv (pc' := 66) (z := 4) rfl rfl (by decide) (by decide +kernel) ?_
  refine x_goto (pc' := 89) rfl rfl ?_
  refine x_iconst (pc' := 90) rfl rfl ?_
  refine x_isub (pc' := 91) (z := 3) rfl rfl (by decide) ?_
  refine x_reti rfl rfl ?_
  refine sK_i (pc' := 6) rfl ?_
  refine x_istore_n (pc' := 7) (ls' := [_, _, _, _]) rfl rfl rfl rfl ?_
  refine x_iload_n (pc' := 8) rfl rfl rfl ?_
  refine x_iconst (pc' := 9) rfl rfl ?_
  refine x_icmp (a' := 31) (pc' := 12) (z := false) rfl rfl rfl (by decide) (fun h => by cases h) (fun _ => ?_)
  refine x_iload_n (pc' := 13) rfl rfl rfl ?_
  refine x_iconst (pc' := 14) rfl rfl ?_
  refine x_icmp (a' := 29) (pc' := 17) (z := false) rfl rfl rfl (by decide) (fun h => by cases h) (fun _ => ?_)
  refine x_iload_n (pc' := 18) rfl rfl rfl ?_
  refine x_cs (ls0 := [_]) (rest := []) rfl rfl rfl rfl ?_
  refine x_iload_n (pc' := 1) rfl rfl rfl ?_
  refine x_iconst (pc' := 2) rfl rfl ?_
  refine x_isub (pc' := 3) (z := 0) rfl rfl (by decide) ?_
  refine x_reti rfl rfl ?_
  refine sK_i (pc' := 21) rfl ?_
  refine x_iload_n (pc' := 22) rfl rfl rfl ?_
  refine x_icmp (a' := 29) (pc' := 25) (z := true) rfl rfl rfl (by decide) (fun _ => ?_) (fun h => by cases h)
  refine x_iconst (pc' := 30) rfl rfl ?_
  refine x_retz (z := false) rfl rfl ?_
  refine sK_i (pc' := 69) rfl ?_
  refine x_iload_n (pc' := 70) rfl rfl rfl ?_
  have J17 : X 159 78 [.inr (.inr (12, (some 0))), .inl 0, .inl (bz s), .inl 2, .inl 1, .inl 0, .inl 3] [.inl (bz (!(xor false s))), .inl 3, .inr (.inr (12, (some 0))), .inl 0, .inr (.inr (21, (some 27)))] (sIw t 811 0 0) Q := by
    refine x_cv (ls0 := [_, _, _, sJk, sJk, sJk]) (rest := [_, _]) rfl rfl rfl rfl rfl ?_
    refine r153 (b := 3) (s := (!(xor false s))) ((rp_Ic rfl).trans hM) (Cn_cp (cp_I rfl) hc) (Fr.ri (Fr.refl _) hR) (show 3 < 5 by decide) (fun b1 => ?_)
    refine sK_i (pc' := 81) rfl ?_
    refine x_iast (pc' := 82) (N := 200) (p := 0) rfl rfl rfl (Eq.trans rdNI (kN_21_27 hc)) (io_in (p := 0) (N := 200) (by decide) (by decide)) (nn_io (p := 0) (by decide)) ?_
    refine x_aload_n (pc' := 83) rfl rfl rfl rfl rfl ?_
    refine x_gR (pc' := 86) (r := (some 0)) rfl rfl rfl (Eq.trans (b := sR t 769 0) rfl (kR_769_0 hc)) ?_
    refine x_iload (pc' := 88) rfl rfl rfl ?_
    refine x_iald (pc' := 89) (N := 5) (x := (mA M 0 3)) rfl rfl rfl (Eq.trans rdNA (Eq.trans rdNI (kN_21_0 hc))) (io_in (p := 3) (N := 5) (by decide) (by decide)) (Eq.trans (congrArg (sA (sAw (sIw t 811 0 0) 21 27 0 (ov (bsF M n 3 (!(xor false s))))) 21 0) (nn_io (p := 3) (by decide))) (Eq.trans (b := sA t 21 0 3) rfl (gA hM rfl))) ?_
    refine x_iconst (pc' := 90) rfl rfl ?_
    have J20 : X 159 111 [.inr (.inr (12, (some 0))), .inl 0, .inl (bz s), .inl 2, .inl 1, .inl 0, .inl 3] [.inl (bz ((decide ((mA M 0 3) = 2)) && (!((bsF M n 3 (!(xor false s))).isNone))))] (sAw (sIw t 811 0 0) 21 27 0 (ov (bsF M n 3 (!(xor false s))))) Q := by
      refine x_istore (pc' := 113) (ls' := [_, _, _, _, _, _, _]) rfl rfl rfl rfl ?_
      refine x_aload_n (pc' := 114) rfl rfl rfl rfl rfl ?_
      refine x_dup (pc' := 115) rfl rfl rfl ?_
      refine x_gI (pc' := 118) (x := 0) rfl rfl rfl (Eq.trans rdIA sI_s) ?_
      refine x_iconst (pc' := 119) rfl rfl ?_
      refine x_iadd (pc' := 120) (z := 1) rfl rfl (by decide) ?_
      refine x_pI (pc' := 123) rfl rfl rfl ?_
      refine x_iinc (pc' := 126) (y := 1) (ls' := [_, _, _, _, _, _, _]) rfl rfl rfl rfl rfl ?_
      refine x_goto (pc' := 25) rfl rfl ?_
      refine x_iload (pc' := 27) rfl rfl rfl ?_
      refine x_iconst (pc' := 28) rfl rfl ?_
      refine x_icmp (a' := 129) (pc' := 31) (z := false) rfl rfl rfl (by decide) (fun h => by cases h) (fun _ => ?_)
      refine x_iload (pc' := 33) rfl rfl rfl ?_
      refine x_ifeq_z (a' := 129) (pc' := 36) (z := ((decide ((mA M 0 3) = 2)) && (!((bsF M n 3 (!(xor false s))).isNone)))) rfl rfl rfl (fun q23 => ?_) (fun q23 => ?_)
      · refine x_iload (pc' := 131) rfl rfl rfl ?_
        refine x_retz (z := ((decide ((mA M 0 3) = 2)) && (!((bsF M n 3 (!(xor false s))).isNone)))) rfl rfl ?_
        exact qv (congrArg (fun z : Bool => (.inl (some (.inl (bz z))) : sRs)) (Eq.trans (lgF_n q23) q23.symm).symm) (q _ ((rp_Ic rfl).trans ((rp_As rfl).trans ((rp_Ic rfl).trans hM))) ((cp_I rfl).trans (cp_A.trans (cp_I rfl))) (fun L hL => by obtain ⟨l0, z0, h0, j0, rfl⟩ := lgF_i hL; exact zz_no z0 q23))
      · refine x_iload_n (pc' := 37) rfl rfl rfl ?_
        refine x_iload_n (pc' := 38) rfl rfl rfl ?_
        refine x_iload (pc' := 40) rfl rfl rfl ?_
        refine x_cs (ls0 := [_, _, _, sJk, sJk, sJk]) (rest := []) rfl rfl rfl rfl ?_
        refine x_getstatic (pc' := 3) rfl rfl (show 1 < sC t 28 from gst1 hc) ?_
        refine x_iconst (pc' := 4) rfl rfl ?_
        refine x_iload_n (pc' := 5) rfl rfl rfl ?_
        refine x_imul (pc' := 6) (z := 0) rfl rfl (by decide) ?_
        refine x_iload_n (pc' := 7) rfl rfl rfl ?_
        refine x_iadd (pc' := 8) (z := 2) rfl rfl (by decide) ?_
        refine x_iald (pc' := 9) (N := 15) (x := 453) rfl rfl rfl (Eq.trans rdNI (Eq.trans rdNA (Eq.trans rdNI (kN_28_1 hc)))) (io_in (p := 2) (N := 15) (by decide) (by decide)) (Eq.trans (congrArg (sA (sIw (sAw (sIw t 811 0 0) 21 27 0 (ov (bsF M n 3 (!(xor false s))))) 811 0 1) 28 1) (nn_io (p := 2) (by decide))) (Eq.trans (b := sA t 28 1 2) rfl ((hc.2.2.2.2.2 2).2.trans rfl))) ?_
        refine x_istore_n (pc' := 10) (ls' := [_, _, _, _, _, _]) rfl rfl rfl rfl ?_
        refine x_iload_n (pc' := 11) rfl rfl rfl ?_
        refine x_bipush (pc' := 13) rfl rfl ?_
        refine x_icmp (a' := 20) (pc' := 16) (z := false) rfl rfl rfl (by decide) (fun h => by cases h) (fun _ => ?_)
        refine x_iconst (pc' := 17) rfl rfl ?_
        refine x_goto (pc' := 39) rfl rfl ?_
        refine x_istore (pc' := 41) (ls' := [_, _, _, _, _, _]) rfl rfl rfl rfl ?_
        refine x_iload (pc' := 43) rfl rfl rfl ?_
        refine x_iload_n (pc' := 44) rfl rfl rfl ?_
        refine x_isub (pc' := 45) (z := 2) rfl rfl (by decide) ?_
        refine x_istore (pc' := 47) (ls' := [_, _, _, _, _, _]) rfl rfl rfl rfl ?_
        refine x_iload (pc' := 49) rfl rfl rfl ?_
        refine x_if (a' := 56) (pc' := 52) (z := true) rfl rfl rfl (by decide) (fun _ => ?_) (fun h => by cases h)
        refine x_iload (pc' := 58) rfl rfl rfl ?_
        refine x_iconst (pc' := 59) rfl rfl ?_
        refine x_icmp (a' := 69) (pc' := 62) (z := true) rfl rfl rfl (by decide) (fun _ => ?_) (fun h => by cases h)
        refine x_iload (pc' := 71) rfl rfl rfl ?_
        refine x_iconst (pc' := 72) rfl rfl ?_
        refine x_icmp (a' := 85) (pc' := 75) (z := false) rfl rfl rfl (by decide) (fun h => by cases h) (fun _ => ?_)
        refine x_iload_n (pc' := 76) rfl rfl rfl ?_
        refine x_bipush (pc' := 78) rfl rfl ?_
        refine x_idiv (pc' := 79) (z := 45) rfl rfl (by decide) (by decide +kernel) ?_
        refine x_bipush (pc' := 81) rfl rfl ?_
        refine x_irem (pc' := 82) (z := 5) rfl rfl (by decide) (by decide +kernel) ?_
        refine x_goto (pc' := 89) rfl rfl ?_
        refine x_iconst (pc' := 90) rfl rfl ?_
        refine x_isub (pc' := 91) (z := 4) rfl rfl (by decide) ?_
        refine x_reti rfl rfl ?_
        refine sK_i (pc' := 43) rfl ?_
        refine x_istore (pc' := 45) (ls' := [_, _, _, _, _, _, _]) rfl rfl rfl rfl ?_
        refine x_iload (pc' := 47) rfl rfl rfl ?_
        refine x_iconst (pc' := 48) rfl rfl ?_
        refine x_icmp (a' := 123) (pc' := 51) (z := false) rfl rfl rfl (by decide) (fun h => by cases h) (fun _ => ?_)
        refine x_aload_n (pc' := 52) rfl rfl rfl rfl rfl ?_
        refine x_gR (pc' := 55) (r := (some 27)) rfl rfl rfl (Eq.trans (b := sR t 809 0) rfl (kR_809_0 hc)) ?_
        refine x_aload_n (pc' := 56) rfl rfl rfl rfl rfl ?_
        refine x_gI (pc' := 59) (x := 1) rfl rfl rfl sI_s ?_
        refine x_aload_n (pc' := 60) rfl rfl rfl rfl rfl ?_
        refine x_iload (pc' := 62) rfl rfl rfl ?_
        refine x_iload_n (pc' := 63) rfl rfl rfl ?_
        refine x_iload_n (pc' := 64) rfl rfl rfl ?_
        refine x_iload (pc' := 66) rfl rfl rfl ?_
        refine x_cs (ls0 := [_, _, _, sJk]) (rest := [_, _, _, _]) rfl rfl rfl rfl ?_
        refine x_iload_n (pc' := 1) rfl rfl rfl ?_
        refine x_iload_n (pc' := 2) rfl rfl rfl ?_
        refine x_iload_n (pc' := 3) rfl rfl rfl ?_
        refine x_cs (ls0 := [_, _, _, sJk, sJk, sJk]) (rest := []) rfl rfl rfl rfl ?_
        refine x_getstatic (pc' := 3) rfl rfl (show 1 < sC t 28 from gst1 hc) ?_
        refine x_iconst (pc' := 4) rfl rfl ?_
        refine x_iload_n (pc' := 5) rfl rfl rfl ?_
        refine x_imul (pc' := 6) (z := 0) rfl rfl (by decide) ?_
        refine x_iload_n (pc' := 7) rfl rfl rfl ?_
        refine x_iadd (pc' := 8) (z := 2) rfl rfl (by decide) ?_
        refine x_iald (pc' := 9) (N := 15) (x := 453) rfl rfl rfl (Eq.trans rdNI (Eq.trans rdNA (Eq.trans rdNI (kN_28_1 hc)))) (io_in (p := 2) (N := 15) (by decide) (by decide)) (Eq.trans (congrArg (sA (sIw (sAw (sIw t 811 0 0) 21 27 0 (ov (bsF M n 3 (!(xor false s))))) 811 0 1) 28 1) (nn_io (p := 2) (by decide))) (Eq.trans (b := sA t 28 1 2) rfl ((hc.2.2.2.2.2 2).2.trans rfl))) ?_
        refine x_istore_n (pc' := 10) (ls' := [_, _, _, _, _, _]) rfl rfl rfl rfl ?_
        refine x_iload_n (pc' := 11) rfl rfl rfl ?_
        refine x_bipush (pc' := 13) rfl rfl ?_
        refine x_icmp (a' := 20) (pc' := 16) (z := false) rfl rfl rfl (by decide) (fun h => by cases h) (fun _ => ?_)
        refine x_iconst (pc' := 17) rfl rfl ?_
        refine x_goto (pc' := 39) rfl rfl ?_
        refine x_istore (pc' := 41) (ls' := [_, _, _, _, _, _]) rfl rfl rfl rfl ?_
        refine x_iload (pc' := 43) rfl rfl rfl ?_
        refine x_iload_n (pc' := 44) rfl rfl rfl ?_
        refine x_isub (pc' := 45) (z := 2) rfl rfl (by decide) ?_
        refine x_istore (pc' := 47) (ls' := [_, _, _, _, _, _]) rfl rfl rfl rfl ?_
        refine x_iload (pc' := 49) rfl rfl rfl ?_
        refine x_if (a' := 56) (pc' := 52) (z := true) rfl rfl rfl (by decide) (fun _ => ?_) (fun h => by cases h)
        refine x_iload (pc' := 58) rfl rfl rfl ?_
        refine x_iconst (pc' := 59) rfl rfl ?_
        refine x_icmp (a' := 69) (pc' := 62) (z := true) rfl rfl rfl (by decide) (fun _ => ?_) (fun h => by cases h)
        refine x_iload (pc' := 71) rfl rfl rfl ?_
        refine x_iconst (pc' := 72) rfl rfl ?_
        refine x_icmp (a' := 85) (pc' := 75) (z := false) rfl rfl rfl (by decide) (fun h => by cases h) (fun _ => ?_)
        refine x_iload_n (pc' := 76) rfl rfl rfl ?_
        refine x_bipush (pc' := 78) rfl rfl ?_
        refine x_idiv (pc' := 79) (z := 45) rfl rfl (by decide) (by decide +kernel) ?_
        refine x_bipush (pc' := 81) rfl rfl ?_
        refine x_irem (pc' := 82) (z := 5) rfl rfl (by decide) (by decide +kernel) ?_
        refine x_goto (pc' := 89) rfl rfl ?_
        refine x_iconst (pc' := 90) rfl rfl ?_
        refine x_isub (pc' := 91) (z := 4) rfl rfl (by decide) ?_
        refine x_reti rfl rfl ?_
        refine sK_i (pc' := 6) rfl ?_
        refine x_istore_n (pc' := 7) (ls' := [_, _, _, _]) rfl rfl rfl rfl ?_
        refine x_iload_n (pc' := 8) rfl rfl rfl ?_
        refine x_iconst (pc' := 9) rfl rfl ?_
        refine x_icmp (a' := 31) (pc' := 12) (z := false) rfl rfl rfl (by decide) (fun h => by cases h) (fun _ => ?_)
        refine x_iload_n (pc' := 13) rfl rfl rfl ?_
        refine x_iconst (pc' := 14) rfl rfl ?_
        refine x_icmp (a' := 29) (pc' := 17) (z := false) rfl rfl rfl (by decide) (fun h => by cases h) (fun _ => ?_)
        refine x_iload_n (pc' := 18) rfl rfl rfl ?_
        refine x_cs (ls0 := [_]) (rest := []) rfl rfl rfl rfl ?_
        refine x_iload_n (pc' := 1) rfl rfl rfl ?_
        refine x_iconst (pc' := 2) rfl rfl ?_
        refine x_isub (pc' := 3) (z := 1) rfl rfl (by decide) ?_
        refine x_reti rfl rfl ?_
        refine sK_i (pc' := 21) rfl ?_
        refine x_iload_n (pc' := 22) rfl rfl rfl ?_
        refine x_icmp (a' := 29) (pc' := 25) (z := true) rfl rfl rfl (by decide) (fun _ => ?_) (fun h => by cases h)
        refine x_iconst (pc' := 30) rfl rfl ?_
        refine x_retz (z := false) rfl rfl ?_
        refine sK_i (pc' := 69) rfl ?_
        refine x_iload_n (pc' := 70) rfl rfl rfl ?_
        have J36 : X 159 78 [.inr (.inr (12, (some 0))), .inl 0, .inl (bz s), .inl 2, .inl (bz ((decide ((mA M 0 3) = 2)) && (!((bsF M n 3 (!(xor false s))).isNone)))), .inl 1, .inl 4] [.inl (bz (!(xor false s))), .inl 4, .inr (.inr (12, (some 0))), .inl 1, .inr (.inr (21, (some 27)))] (sIw (sAw (sIw t 811 0 0) 21 27 0 (ov (bsF M n 3 (!(xor false s))))) 811 0 1) Q := by
          refine x_cv (ls0 := [_, _, _, sJk, sJk, sJk]) (rest := [_, _]) rfl rfl rfl rfl rfl ?_
          refine r153 (b := 4) (s := (!(xor false s))) ((rp_Ic rfl).trans ((rp_As rfl).trans ((rp_Ic rfl).trans hM))) (Cn_cp ((cp_I rfl).trans (cp_A.trans (cp_I rfl))) hc) (Fr.ri (Fr.refl _) hR) (show 4 < 5 by decide) (fun b4 => ?_)
          refine sK_i (pc' := 81) rfl ?_
          refine x_iast (pc' := 82) (N := 200) (p := 1) rfl rfl rfl (Eq.trans rdNI (Eq.trans rdNA (Eq.trans rdNI (kN_21_27 hc)))) (io_in (p := 1) (N := 200) (by decide) (by decide)) (nn_io (p := 1) (by decide)) ?_
          refine x_aload_n (pc' := 83) rfl rfl rfl rfl rfl ?_
          refine x_gR (pc' := 86) (r := (some 0)) rfl rfl rfl (Eq.trans (b := sR t 769 0) rfl (kR_769_0 hc)) ?_
          refine x_iload (pc' := 88) rfl rfl rfl ?_
          refine x_iald (pc' := 89) (N := 5) (x := (mA M 0 4)) rfl rfl rfl (Eq.trans rdNA (Eq.trans rdNI (Eq.trans rdNA (Eq.trans rdNI (kN_21_0 hc))))) (io_in (p := 4) (N := 5) (by decide) (by decide)) (Eq.trans (congrArg (sA (sAw (sIw (sAw (sIw t 811 0 0) 21 27 0 (ov (bsF M n 3 (!(xor false s))))) 811 0 1) 21 27 1 (ov (bsF M n 4 (!(xor false s))))) 21 0) (nn_io (p := 4) (by decide))) (Eq.trans (b := sA t 21 0 4) rfl (gA hM rfl))) ?_
          refine x_iconst (pc' := 90) rfl rfl ?_
          have J39 : X 159 111 [.inr (.inr (12, (some 0))), .inl 0, .inl (bz s), .inl 2, .inl (bz ((decide ((mA M 0 3) = 2)) && (!((bsF M n 3 (!(xor false s))).isNone)))), .inl 1, .inl 4] [.inl (bz ((decide ((mA M 0 4) = 2)) && (!((bsF M n 4 (!(xor false s))).isNone))))] (sAw (sIw (sAw (sIw t 811 0 0) 21 27 0 (ov (bsF M n 3 (!(xor false s))))) 811 0 1) 21 27 1 (ov (bsF M n 4 (!(xor false s))))) Q := by
            refine x_istore (pc' := 113) (ls' := [_, _, _, _, _, _, _]) rfl rfl rfl rfl ?_
            refine x_aload_n (pc' := 114) rfl rfl rfl rfl rfl ?_
            refine x_dup (pc' := 115) rfl rfl rfl ?_
            refine x_gI (pc' := 118) (x := 1) rfl rfl rfl (Eq.trans rdIA sI_s) ?_
            refine x_iconst (pc' := 119) rfl rfl ?_
            refine x_iadd (pc' := 120) (z := 2) rfl rfl (by decide) ?_
            refine x_pI (pc' := 123) rfl rfl rfl ?_
            refine x_iinc (pc' := 126) (y := 2) (ls' := [_, _, _, _, _, _, _]) rfl rfl rfl rfl rfl ?_
            refine x_goto (pc' := 25) rfl rfl ?_
            refine x_iload (pc' := 27) rfl rfl rfl ?_
            refine x_iconst (pc' := 28) rfl rfl ?_
            refine x_icmp (a' := 129) (pc' := 31) (z := false) rfl rfl rfl (by decide) (fun h => by cases h) (fun _ => ?_)
            refine x_iload (pc' := 33) rfl rfl rfl ?_
            refine x_ifeq_z (a' := 129) (pc' := 36) (z := ((decide ((mA M 0 4) = 2)) && (!((bsF M n 4 (!(xor false s))).isNone)))) rfl rfl rfl (fun q42 => ?_) (fun q42 => ?_)
            · refine x_iload (pc' := 131) rfl rfl rfl ?_
              refine x_retz (z := ((decide ((mA M 0 4) = 2)) && (!((bsF M n 4 (!(xor false s))).isNone)))) rfl rfl ?_
              exact qv (congrArg (fun z : Bool => (.inl (some (.inl (bz z))) : sRs)) (Eq.trans (Eq.trans (lgF_s q23) (lgF_n q42)) q42.symm).symm) (q _ ((rp_Ic rfl).trans ((rp_As rfl).trans ((rp_Ic rfl).trans ((rp_As rfl).trans ((rp_Ic rfl).trans hM))))) ((cp_I rfl).trans (cp_A.trans ((cp_I rfl).trans (cp_A.trans (cp_I rfl))))) (fun L hL => by obtain ⟨l0, z0, h0, j0, rfl⟩ := lgF_i hL; obtain ⟨l1, z1, h1, j1, rfl⟩ := lgF_i h0; exact zz_no z1 q42))
            · refine x_iload_n (pc' := 37) rfl rfl rfl ?_
              refine x_iload_n (pc' := 38) rfl rfl rfl ?_
              refine x_iload (pc' := 40) rfl rfl rfl ?_
              refine x_cs (ls0 := [_, _, _, sJk, sJk, sJk]) (rest := []) rfl rfl rfl rfl ?_
              refine x_getstatic (pc' := 3) rfl rfl (show 1 < sC t 28 from gst1 hc) ?_
              refine x_iconst (pc' := 4) rfl rfl ?_
              refine x_iload_n (pc' := 5) rfl rfl rfl ?_
              refine x_imul (pc' := 6) (z := 0) rfl rfl (by decide) ?_
              refine x_iload_n (pc' := 7) rfl rfl rfl ?_
              refine x_iadd (pc' := 8) (z := 2) rfl rfl (by decide) ?_
              refine x_iald (pc' := 9) (N := 15) (x := 453) rfl rfl rfl (Eq.trans rdNI (Eq.trans rdNA (Eq.trans rdNI (Eq.trans rdNA (Eq.trans rdNI (kN_28_1 hc)))))) (io_in (p := 2) (N := 15) (by decide) (by decide)) (Eq.trans (congrArg (sA (sIw (sAw (sIw (sAw (sIw t 811 0 0) 21 27 0 (ov (bsF M n 3 (!(xor false s))))) 811 0 1) 21 27 1 (ov (bsF M n 4 (!(xor false s))))) 811 0 2) 28 1) (nn_io (p := 2) (by decide))) (Eq.trans (b := sA t 28 1 2) rfl ((hc.2.2.2.2.2 2).2.trans rfl))) ?_
              refine x_istore_n (pc' := 10) (ls' := [_, _, _, _, _, _]) rfl rfl rfl rfl ?_
              refine x_iload_n (pc' := 11) rfl rfl rfl ?_
              refine x_bipush (pc' := 13) rfl rfl ?_
              refine x_icmp (a' := 20) (pc' := 16) (z := false) rfl rfl rfl (by decide) (fun h => by cases h) (fun _ => ?_)
              refine x_iconst (pc' := 17) rfl rfl ?_
              refine x_goto (pc' := 39) rfl rfl ?_
              refine x_istore (pc' := 41) (ls' := [_, _, _, _, _, _]) rfl rfl rfl rfl ?_
              refine x_iload (pc' := 43) rfl rfl rfl ?_
              refine x_iload_n (pc' := 44) rfl rfl rfl ?_
              refine x_isub (pc' := 45) (z := 1) rfl rfl (by decide) ?_
              refine x_istore (pc' := 47) (ls' := [_, _, _, _, _, _]) rfl rfl rfl rfl ?_
              refine x_iload (pc' := 49) rfl rfl rfl ?_
              refine x_if (a' := 56) (pc' := 52) (z := true) rfl rfl rfl (by decide) (fun _ => ?_) (fun h => by cases h)
              refine x_iload (pc' := 58) rfl rfl rfl ?_
              refine x_iconst (pc' := 59) rfl rfl ?_
              refine x_icmp (a' := 69) (pc' := 62) (z := true) rfl rfl rfl (by decide) (fun _ => ?_) (fun h => by cases h)
              refine x_iload (pc' := 71) rfl rfl rfl ?_
              refine x_iconst (pc' := 72) rfl rfl ?_
              refine x_icmp (a' := 85) (pc' := 75) (z := true) rfl rfl rfl (by decide) (fun _ => ?_) (fun h => by cases h)
              refine x_iload_n (pc' := 86) rfl rfl rfl ?_
              refine x_bipush (pc' := 88) rfl rfl ?_
              refine x_irem (pc' := 89) (z := 3) rfl rfl (by decide) (by decide +kernel) ?_
              refine x_iconst (pc' := 90) rfl rfl ?_
              refine x_isub (pc' := 91) (z := 2) rfl rfl (by decide) ?_
              refine x_reti rfl rfl ?_
              refine sK_i (pc' := 43) rfl ?_
              refine x_istore (pc' := 45) (ls' := [_, _, _, _, _, _, _]) rfl rfl rfl rfl ?_
              refine x_iload (pc' := 47) rfl rfl rfl ?_
              refine x_iconst (pc' := 48) rfl rfl ?_
              refine x_icmp (a' := 123) (pc' := 51) (z := false) rfl rfl rfl (by decide) (fun h => by cases h) (fun _ => ?_)
              refine x_aload_n (pc' := 52) rfl rfl rfl rfl rfl ?_
              refine x_gR (pc' := 55) (r := (some 27)) rfl rfl rfl (Eq.trans (b := sR t 809 0) rfl (kR_809_0 hc)) ?_
              refine x_aload_n (pc' := 56) rfl rfl rfl rfl rfl ?_
              refine x_gI (pc' := 59) (x := 2) rfl rfl rfl sI_s ?_
              refine x_aload_n (pc' := 60) rfl rfl rfl rfl rfl ?_
              refine x_iload (pc' := 62) rfl rfl rfl ?_
              refine x_iload_n (pc' := 63) rfl rfl rfl ?_
              refine x_iload_n (pc' := 64) rfl rfl rfl ?_
              refine x_iload (pc' := 66) rfl rfl rfl ?_
              refine x_cs (ls0 := [_, _, _, sJk]) (rest := [_, _, _, _]) rfl rfl rfl rfl ?_
              refine x_iload_n (pc' := 1) rfl rfl rfl ?_
              refine x_iload_n (pc' := 2) rfl rfl rfl ?_
              refine x_iload_n (pc' := 3) rfl rfl rfl ?_
              refine x_cs (ls0 := [_, _, _, sJk, sJk, sJk]) (rest := []) rfl rfl rfl rfl ?_
              refine x_getstatic (pc' := 3) rfl rfl (show 1 < sC t 28 from gst1 hc) ?_
              refine x_iconst (pc' := 4) rfl rfl ?_
              refine x_iload_n (pc' := 5) rfl rfl rfl ?_
              refine x_imul (pc' := 6) (z := 0) rfl rfl (by decide) ?_
              refine x_iload_n (pc' := 7) rfl rfl rfl ?_
              refine x_iadd (pc' := 8) (z := 2) rfl rfl (by decide) ?_
              refine x_iald (pc' := 9) (N := 15) (x := 453) rfl rfl rfl (Eq.trans rdNI (Eq.trans rdNA (Eq.trans rdNI (Eq.trans rdNA (Eq.trans rdNI (kN_28_1 hc)))))) (io_in (p := 2) (N := 15) (by decide) (by decide)) (Eq.trans (congrArg (sA (sIw (sAw (sIw (sAw (sIw t 811 0 0) 21 27 0 (ov (bsF M n 3 (!(xor false s))))) 811 0 1) 21 27 1 (ov (bsF M n 4 (!(xor false s))))) 811 0 2) 28 1) (nn_io (p := 2) (by decide))) (Eq.trans (b := sA t 28 1 2) rfl ((hc.2.2.2.2.2 2).2.trans rfl))) ?_
              refine x_istore_n (pc' := 10) (ls' := [_, _, _, _, _, _]) rfl rfl rfl rfl ?_
              refine x_iload_n (pc' := 11) rfl rfl rfl ?_
              refine x_bipush (pc' := 13) rfl rfl ?_
              refine x_icmp (a' := 20) (pc' := 16) (z := false) rfl rfl rfl (by decide) (fun h => by cases h) (fun _ => ?_)
              refine x_iconst (pc' := 17) rfl rfl ?_
              refine x_goto (pc' := 39) rfl rfl ?_
              refine x_istore (pc' := 41) (ls' := [_, _, _, _, _, _]) rfl rfl rfl rfl ?_
              refine x_iload (pc' := 43) rfl rfl rfl ?_
              refine x_iload_n (pc' := 44) rfl rfl rfl ?_
              refine x_isub (pc' := 45) (z := 1) rfl rfl (by decide) ?_
              refine x_istore (pc' := 47) (ls' := [_, _, _, _, _, _]) rfl rfl rfl rfl ?_
              refine x_iload (pc' := 49) rfl rfl rfl ?_
              refine x_if (a' := 56) (pc' := 52) (z := true) rfl rfl rfl (by decide) (fun _ => ?_) (fun h => by cases h)
              refine x_iload (pc' := 58) rfl rfl rfl ?_
              refine x_iconst (pc' := 59) rfl rfl ?_
              refine x_icmp (a' := 69) (pc' := 62) (z := true) rfl rfl rfl (by decide) (fun _ => ?_) (fun h => by cases h)
              refine x_iload (pc' := 71) rfl rfl rfl ?_
              refine x_iconst (pc' := 72) rfl rfl ?_
              refine x_icmp (a' := 85) (pc' := 75) (z := true) rfl rfl rfl (by decide) (fun _ => ?_) (fun h => by cases h)
              refine x_iload_n (pc' := 86) rfl rfl rfl ?_
              refine x_bipush (pc' := 88) rfl rfl ?_
              refine x_irem (pc' := 89) (z := 3) rfl rfl (by decide) (by decide +kernel) ?_
              refine x_iconst (pc' := 90) rfl rfl ?_
              refine x_isub (pc' := 91) (z := 2) rfl rfl (by decide) ?_
              refine x_reti rfl rfl ?_
              refine sK_i (pc' := 6) rfl ?_
              refine x_istore_n (pc' := 7) (ls' := [_, _, _, _]) rfl rfl rfl rfl ?_
              refine x_iload_n (pc' := 8) rfl rfl rfl ?_
              refine x_iconst (pc' := 9) rfl rfl ?_
              refine x_icmp (a' := 31) (pc' := 12) (z := false) rfl rfl rfl (by decide) (fun h => by cases h) (fun _ => ?_)
              refine x_iload_n (pc' := 13) rfl rfl rfl ?_
              refine x_iconst (pc' := 14) rfl rfl ?_
              refine x_icmp (a' := 29) (pc' := 17) (z := true) rfl rfl rfl (by decide) (fun _ => ?_) (fun h => by cases h)
              refine x_iconst (pc' := 30) rfl rfl ?_
              refine x_retz (z := false) rfl rfl ?_
              refine sK_i (pc' := 69) rfl ?_
              refine x_iload_n (pc' := 70) rfl rfl rfl ?_
              have J54 : X 159 78 [.inr (.inr (12, (some 0))), .inl 0, .inl (bz s), .inl 2, .inl (bz ((decide ((mA M 0 4) = 2)) && (!((bsF M n 4 (!(xor false s))).isNone)))), .inl 2, .inl 2] [.inl (bz (!(xor false s))), .inl 2, .inr (.inr (12, (some 0))), .inl 2, .inr (.inr (21, (some 27)))] (sIw (sAw (sIw (sAw (sIw t 811 0 0) 21 27 0 (ov (bsF M n 3 (!(xor false s))))) 811 0 1) 21 27 1 (ov (bsF M n 4 (!(xor false s))))) 811 0 2) Q := by
                refine x_cv (ls0 := [_, _, _, sJk, sJk, sJk]) (rest := [_, _]) rfl rfl rfl rfl rfl ?_
                refine r153 (b := 2) (s := (!(xor false s))) ((rp_Ic rfl).trans ((rp_As rfl).trans ((rp_Ic rfl).trans ((rp_As rfl).trans ((rp_Ic rfl).trans hM))))) (Cn_cp ((cp_I rfl).trans (cp_A.trans ((cp_I rfl).trans (cp_A.trans (cp_I rfl))))) hc) (Fr.ri (Fr.refl _) hR) (show 2 < 5 by decide) (fun b6 => ?_)
                refine sK_i (pc' := 81) rfl ?_
                refine x_iast (pc' := 82) (N := 200) (p := 2) rfl rfl rfl (Eq.trans rdNI (Eq.trans rdNA (Eq.trans rdNI (Eq.trans rdNA (Eq.trans rdNI (kN_21_27 hc)))))) (io_in (p := 2) (N := 200) (by decide) (by decide)) (nn_io (p := 2) (by decide)) ?_
                refine x_aload_n (pc' := 83) rfl rfl rfl rfl rfl ?_
                refine x_gR (pc' := 86) (r := (some 0)) rfl rfl rfl (Eq.trans (b := sR t 769 0) rfl (kR_769_0 hc)) ?_
                refine x_iload (pc' := 88) rfl rfl rfl ?_
                refine x_iald (pc' := 89) (N := 5) (x := (mA M 0 2)) rfl rfl rfl (Eq.trans rdNA (Eq.trans rdNI (Eq.trans rdNA (Eq.trans rdNI (Eq.trans rdNA (Eq.trans rdNI (kN_21_0 hc))))))) (io_in (p := 2) (N := 5) (by decide) (by decide)) (Eq.trans (congrArg (sA (sAw (sIw (sAw (sIw (sAw (sIw t 811 0 0) 21 27 0 (ov (bsF M n 3 (!(xor false s))))) 811 0 1) 21 27 1 (ov (bsF M n 4 (!(xor false s))))) 811 0 2) 21 27 2 (ov (bsF M n 2 (!(xor false s))))) 21 0) (nn_io (p := 2) (by decide))) (Eq.trans (b := sA t 21 0 2) rfl (gA hM rfl))) ?_
                refine x_iconst (pc' := 90) rfl rfl ?_
                have J57 : X 159 111 [.inr (.inr (12, (some 0))), .inl 0, .inl (bz s), .inl 2, .inl (bz ((decide ((mA M 0 4) = 2)) && (!((bsF M n 4 (!(xor false s))).isNone)))), .inl 2, .inl 2] [.inl (bz ((decide ((mA M 0 2) = 2)) && (!((bsF M n 2 (!(xor false s))).isNone))))] (sAw (sIw (sAw (sIw (sAw (sIw t 811 0 0) 21 27 0 (ov (bsF M n 3 (!(xor false s))))) 811 0 1) 21 27 1 (ov (bsF M n 4 (!(xor false s))))) 811 0 2) 21 27 2 (ov (bsF M n 2 (!(xor false s))))) Q := by
                  refine x_istore (pc' := 113) (ls' := [_, _, _, _, _, _, _]) rfl rfl rfl rfl ?_
                  refine x_aload_n (pc' := 114) rfl rfl rfl rfl rfl ?_
                  refine x_dup (pc' := 115) rfl rfl rfl ?_
                  refine x_gI (pc' := 118) (x := 2) rfl rfl rfl (Eq.trans rdIA sI_s) ?_
                  refine x_iconst (pc' := 119) rfl rfl ?_
                  refine x_iadd (pc' := 120) (z := 3) rfl rfl (by decide) ?_
                  refine x_pI (pc' := 123) rfl rfl rfl ?_
                  refine x_iinc (pc' := 126) (y := 3) (ls' := [_, _, _, _, _, _, _]) rfl rfl rfl rfl rfl ?_
                  refine x_goto (pc' := 25) rfl rfl ?_
                  refine x_iload (pc' := 27) rfl rfl rfl ?_
                  refine x_iconst (pc' := 28) rfl rfl ?_
                  refine x_icmp (a' := 129) (pc' := 31) (z := true) rfl rfl rfl (by decide) (fun _ => ?_) (fun h => by cases h)
                  refine x_iload (pc' := 131) rfl rfl rfl ?_
                  refine x_retz (z := ((decide ((mA M 0 2) = 2)) && (!((bsF M n 2 (!(xor false s))).isNone)))) rfl rfl ?_
                  exact qv (congrArg (fun z : Bool => (.inl (some (.inl (bz z))) : sRs)) (Eq.trans (lgF_s q23) (Eq.trans (lgF_s q42) lgF_1)).symm) (q _ ((rp_Ic rfl).trans ((rp_As rfl).trans ((rp_Ic rfl).trans ((rp_As rfl).trans ((rp_Ic rfl).trans ((rp_As rfl).trans ((rp_Ic rfl).trans hM))))))) ((cp_I rfl).trans (cp_A.trans ((cp_I rfl).trans (cp_A.trans ((cp_I rfl).trans (cp_A.trans (cp_I rfl))))))) (fun L hL => by obtain ⟨l0, z0, h0, j0, rfl⟩ := lgF_i hL; obtain ⟨l1, z1, h1, j1, rfl⟩ := lgF_i h0; obtain ⟨l2, z2, h2, j2, rfl⟩ := lgF_i h1; cases lgF_nil h2; exact ⟨rfl, ov_io (an_n z0), ov_io (an_n z1), ov_io (an_n z2), trivial⟩))
                refine x_icmp_n (a' := 110) (pc' := 93) (z := decide ((mA M 0 2) = 2)) rfl rfl rfl (ik_ne _ _) (fun q56 => ?_) (fun q56 => ?_)
                · refine x_iconst (pc' := 111) rfl rfl ?_
                  ((try rw [q56] at J57); (try rw [q56]); (try simp only [cd_t, cd_f, nt_t, nt_f, an_t, an_f, or_t, or_f] at J57); (try simp only [cd_t, cd_f, nt_t, nt_f, an_t, an_f, or_t, or_f]); exact J57)
                · refine x_aload_n (pc' := 94) rfl rfl rfl rfl rfl ?_
                  refine x_gR (pc' := 97) (r := (some 27)) rfl rfl rfl (Eq.trans (b := sR t 809 0) rfl (kR_809_0 hc)) ?_
                  refine x_aload_n (pc' := 98) rfl rfl rfl rfl rfl ?_
                  refine x_gI (pc' := 101) (x := 2) rfl rfl rfl (Eq.trans rdIA sI_s) ?_
                  refine x_iald (pc' := 102) (N := 200) (x := (ov (bsF M n 2 (!(xor false s))))) rfl rfl rfl (Eq.trans rdNA (Eq.trans rdNI (Eq.trans rdNA (Eq.trans rdNI (Eq.trans rdNA (Eq.trans rdNI (kN_21_27 hc))))))) (io_in (p := 2) (N := 200) (by decide) (by decide)) (Eq.trans (congrArg (sA (sAw (sIw (sAw (sIw (sAw (sIw t 811 0 0) 21 27 0 (ov (bsF M n 3 (!(xor false s))))) 811 0 1) 21 27 1 (ov (bsF M n 4 (!(xor false s))))) 811 0 2) 21 27 2 (ov (bsF M n 2 (!(xor false s))))) 21 27) (nn_io (p := 2) (by decide))) sA_s) ?_
                  refine x_iconst (pc' := 103) rfl rfl ?_
                  refine x_icmp (a' := 110) (pc' := 106) (z := (bsF M n 2 (!(xor false s))).isNone) rfl rfl rfl (ov_eq (ov_31 (N := n) b6 (Nat.le_of_lt (gn31 hR)))) (fun q57 => ?_) (fun q57 => ?_)
                  · refine x_iconst (pc' := 111) rfl rfl ?_
                    ((try rw [q57] at J57); (try rw [q57]); (try rw [q56] at J57); (try rw [q56]); (try simp only [cd_t, cd_f, nt_t, nt_f, an_t, an_f, or_t, or_f] at J57); (try simp only [cd_t, cd_f, nt_t, nt_f, an_t, an_f, or_t, or_f]); exact J57)
                  · refine x_iconst (pc' := 107) rfl rfl ?_
                    refine x_goto (pc' := 111) rfl rfl ?_
                    ((try rw [q57] at J57); (try rw [q57]); (try rw [q56] at J57); (try rw [q56]); (try simp only [cd_t, cd_f, nt_t, nt_f, an_t, an_f, or_t, or_f] at J57); (try simp only [cd_t, cd_f, nt_t, nt_f, an_t, an_f, or_t, or_f]); exact J57)
              refine x_icmp (a' := 77) (pc' := 73) (z := (xor false s)) rfl rfl rfl (bz_neb _ _) (fun q54 => ?_) (fun q54 => ?_)
              · refine x_iconst (pc' := 78) rfl rfl ?_
                ((try rw [q54] at J54); (try rw [q54]); (try simp only [cd_t, cd_f, nt_t, nt_f, an_t, an_f, or_t, or_f] at J54); (try simp only [cd_t, cd_f, nt_t, nt_f, an_t, an_f, or_t, or_f]); exact J54)
              · refine x_iconst (pc' := 74) rfl rfl ?_
                refine x_goto (pc' := 78) rfl rfl ?_
                ((try rw [q54] at J54); (try rw [q54]); (try simp only [cd_t, cd_f, nt_t, nt_f, an_t, an_f, or_t, or_f] at J54); (try simp only [cd_t, cd_f, nt_t, nt_f, an_t, an_f, or_t, or_f]); exact J54)
          refine x_icmp_n (a' := 110) (pc' := 93) (z := decide ((mA M 0 4) = 2)) rfl rfl rfl (ik_ne _ _) (fun q38 => ?_) (fun q38 => ?_)
          · refine x_iconst (pc' := 111) rfl rfl ?_
            ((try rw [q38] at J39); (try rw [q38]); (try simp only [cd_t, cd_f, nt_t, nt_f, an_t, an_f, or_t, or_f] at J39); (try simp only [cd_t, cd_f, nt_t, nt_f, an_t, an_f, or_t, or_f]); exact J39)
          · refine x_aload_n (pc' := 94) rfl rfl rfl rfl rfl ?_
            refine x_gR (pc' := 97) (r := (some 27)) rfl rfl rfl (Eq.trans (b := sR t 809 0) rfl (kR_809_0 hc)) ?_
            refine x_aload_n (pc' := 98) rfl rfl rfl rfl rfl ?_
            refine x_gI (pc' := 101) (x := 1) rfl rfl rfl (Eq.trans rdIA sI_s) ?_
            refine x_iald (pc' := 102) (N := 200) (x := (ov (bsF M n 4 (!(xor false s))))) rfl rfl rfl (Eq.trans rdNA (Eq.trans rdNI (Eq.trans rdNA (Eq.trans rdNI (kN_21_27 hc))))) (io_in (p := 1) (N := 200) (by decide) (by decide)) (Eq.trans (congrArg (sA (sAw (sIw (sAw (sIw t 811 0 0) 21 27 0 (ov (bsF M n 3 (!(xor false s))))) 811 0 1) 21 27 1 (ov (bsF M n 4 (!(xor false s))))) 21 27) (nn_io (p := 1) (by decide))) sA_s) ?_
            refine x_iconst (pc' := 103) rfl rfl ?_
            refine x_icmp (a' := 110) (pc' := 106) (z := (bsF M n 4 (!(xor false s))).isNone) rfl rfl rfl (ov_eq (ov_31 (N := n) b4 (Nat.le_of_lt (gn31 hR)))) (fun q39 => ?_) (fun q39 => ?_)
            · refine x_iconst (pc' := 111) rfl rfl ?_
              ((try rw [q39] at J39); (try rw [q39]); (try rw [q38] at J39); (try rw [q38]); (try simp only [cd_t, cd_f, nt_t, nt_f, an_t, an_f, or_t, or_f] at J39); (try simp only [cd_t, cd_f, nt_t, nt_f, an_t, an_f, or_t, or_f]); exact J39)
            · refine x_iconst (pc' := 107) rfl rfl ?_
              refine x_goto (pc' := 111) rfl rfl ?_
              ((try rw [q39] at J39); (try rw [q39]); (try rw [q38] at J39); (try rw [q38]); (try simp only [cd_t, cd_f, nt_t, nt_f, an_t, an_f, or_t, or_f] at J39); (try simp only [cd_t, cd_f, nt_t, nt_f, an_t, an_f, or_t, or_f]); exact J39)
        refine x_icmp (a' := 77) (pc' := 73) (z := (xor false s)) rfl rfl rfl (bz_neb _ _) (fun q36 => ?_) (fun q36 => ?_)
        · refine x_iconst (pc' := 78) rfl rfl ?_
          ((try rw [q36] at J36); (try rw [q36]); (try simp only [cd_t, cd_f, nt_t, nt_f, an_t, an_f, or_t, or_f] at J36); (try simp only [cd_t, cd_f, nt_t, nt_f, an_t, an_f, or_t, or_f]); exact J36)
        · refine x_iconst (pc' := 74) rfl rfl ?_
          refine x_goto (pc' := 78) rfl rfl ?_
          ((try rw [q36] at J36); (try rw [q36]); (try simp only [cd_t, cd_f, nt_t, nt_f, an_t, an_f, or_t, or_f] at J36); (try simp only [cd_t, cd_f, nt_t, nt_f, an_t, an_f, or_t, or_f]); exact J36)
    refine x_icmp_n (a' := 110) (pc' := 93) (z := decide ((mA M 0 3) = 2)) rfl rfl rfl (ik_ne _ _) (fun q19 => ?_) (fun q19 => ?_)
    · refine x_iconst (pc' := 111) rfl rfl ?_
      ((try rw [q19] at J20); (try rw [q19]); (try simp only [cd_t, cd_f, nt_t, nt_f, an_t, an_f, or_t, or_f] at J20); (try simp only [cd_t, cd_f, nt_t, nt_f, an_t, an_f, or_t, or_f]); exact J20)
    · refine x_aload_n (pc' := 94) rfl rfl rfl rfl rfl ?_
      refine x_gR (pc' := 97) (r := (some 27)) rfl rfl rfl (Eq.trans (b := sR t 809 0) rfl (kR_809_0 hc)) ?_
      refine x_aload_n (pc' := 98) rfl rfl rfl rfl rfl ?_
      refine x_gI (pc' := 101) (x := 0) rfl rfl rfl (Eq.trans rdIA sI_s) ?_
      refine x_iald (pc' := 102) (N := 200) (x := (ov (bsF M n 3 (!(xor false s))))) rfl rfl rfl (Eq.trans rdNA (Eq.trans rdNI (kN_21_27 hc))) (io_in (p := 0) (N := 200) (by decide) (by decide)) (Eq.trans (congrArg (sA (sAw (sIw t 811 0 0) 21 27 0 (ov (bsF M n 3 (!(xor false s))))) 21 27) (nn_io (p := 0) (by decide))) sA_s) ?_
      refine x_iconst (pc' := 103) rfl rfl ?_
      refine x_icmp (a' := 110) (pc' := 106) (z := (bsF M n 3 (!(xor false s))).isNone) rfl rfl rfl (ov_eq (ov_31 (N := n) b1 (Nat.le_of_lt (gn31 hR)))) (fun q20 => ?_) (fun q20 => ?_)
      · refine x_iconst (pc' := 111) rfl rfl ?_
        ((try rw [q20] at J20); (try rw [q20]); (try rw [q19] at J20); (try rw [q19]); (try simp only [cd_t, cd_f, nt_t, nt_f, an_t, an_f, or_t, or_f] at J20); (try simp only [cd_t, cd_f, nt_t, nt_f, an_t, an_f, or_t, or_f]); exact J20)
      · refine x_iconst (pc' := 107) rfl rfl ?_
        refine x_goto (pc' := 111) rfl rfl ?_
        ((try rw [q20] at J20); (try rw [q20]); (try rw [q19] at J20); (try rw [q19]); (try simp only [cd_t, cd_f, nt_t, nt_f, an_t, an_f, or_t, or_f] at J20); (try simp only [cd_t, cd_f, nt_t, nt_f, an_t, an_f, or_t, or_f]); exact J20)
  refine x_icmp (a' := 77) (pc' := 73) (z := (xor false s)) rfl rfl rfl (bz_neb _ _) (fun q17 => ?_) (fun q17 => ?_)
  · refine x_iconst (pc' := 78) rfl rfl ?_
    ((try rw [q17] at J17); (try rw [q17]); (try simp only [cd_t, cd_f, nt_t, nt_f, an_t, an_f, or_t, or_f] at J17); (try simp only [cd_t, cd_f, nt_t, nt_f, an_t, an_f, or_t, or_f]); exact J17)
  · refine x_iconst (pc' := 74) rfl rfl ?_
    refine x_goto (pc' := 78) rfl rfl ?_
    ((try rw [q17] at J17); (try rw [q17]); (try simp only [cd_t, cd_f, nt_t, nt_f, an_t, an_f, or_t, or_f] at J17); (try simp only [cd_t, cd_f, nt_t, nt_f, an_t, an_f, or_t, or_f]); exact J17)
set_option maxHeartbeats 4000000 in
set_option maxRecDepth 10000 in
theorem r160_02 {t : sT} {Q : sRs → sT → Prop} {M : sM} {n : Nat} {o0 o1 o2 : Nat}
    (hM : rp t = M)
    (hc : Cn t)
    (hR : Ri M n)
    (ho0 : o0 < n)
    (ho1 : o1 < n)
    (ho2 : o2 < n)
    (hq : sI t 811 0 = 3)
    (hk0 : sA t 21 27 0 = io o0)
    (hk1 : sA t 21 27 1 = io o1)
    (hk2 : sA t 21 27 2 = io o2)
    (q : Q (.inl (some (.inl (prF M 0 2 [o0, o1, o2])))) t) :
    X 160 0 [.inr (.inr (12, (some 0))), .inl 0, .inl 2, sJk, sJk] [] t Q := by
  refine x_iload_n (pc' := 1) rfl rfl rfl ?_
  refine x_iconst (pc' := 2) rfl rfl ?_
  refine x_icmp (a' := 34) (pc' := 5) (z := true) rfl rfl rfl (by decide) (fun _ => ?_) (fun h => by cases h)
  refine x_iconst (pc' := 35) rfl rfl ?_
  refine x_istore_n (pc' := 36) (ls' := [_, _, _, _, _]) rfl rfl rfl rfl ?_
  refine x_iconst (pc' := 37) rfl rfl ?_
  refine x_istore (pc' := 39) (ls' := [_, _, _, _, _]) rfl rfl rfl rfl ?_
  refine x_iload (pc' := 41) rfl rfl rfl ?_
  refine x_aload_n (pc' := 42) rfl rfl rfl rfl rfl ?_
  refine x_gI (pc' := 45) (x := 3) rfl rfl rfl hq ?_
  refine x_icmp (a' := 95) (pc' := 48) (z := false) rfl rfl rfl (by decide) (fun h => by cases h) (fun _ => ?_)
  refine x_iload_n (pc' := 49) rfl rfl rfl ?_
  refine x_iload_n (pc' := 50) rfl rfl rfl ?_
  refine x_iload_n (pc' := 51) rfl rfl rfl ?_
  refine x_iload (pc' := 53) rfl rfl rfl ?_
  refine x_cs (ls0 := [_, _, _, sJk]) (rest := [_]) rfl rfl rfl rfl ?_
  refine x_iload_n (pc' := 1) rfl rfl rfl ?_
  refine x_iload_n (pc' := 2) rfl rfl rfl ?_
  refine x_iload_n (pc' := 3) rfl rfl rfl ?_
  refine x_cs (ls0 := [_, _, _, sJk, sJk, sJk]) (rest := []) rfl rfl rfl rfl ?_
  refine x_getstatic (pc' := 3) rfl rfl (show 1 < sC t 28 from gst1 hc) ?_
  refine x_iconst (pc' := 4) rfl rfl ?_
  refine x_iload_n (pc' := 5) rfl rfl rfl ?_
  refine x_imul (pc' := 6) (z := 0) rfl rfl (by decide) ?_
  refine x_iload_n (pc' := 7) rfl rfl rfl ?_
  refine x_iadd (pc' := 8) (z := 2) rfl rfl (by decide) ?_
  refine x_iald (pc' := 9) (N := 15) (x := 453) rfl rfl rfl (kN_28_1 hc) (io_in (p := 2) (N := 15) (by decide) (by decide)) (Eq.trans (congrArg (sA t 28 1) (nn_io (p := 2) (by decide))) ((hc.2.2.2.2.2 2).2.trans rfl)) ?_
  refine x_istore_n (pc' := 10) (ls' := [_, _, _, _, _, _]) rfl rfl rfl rfl ?_
  refine x_iload_n (pc' := 11) rfl rfl rfl ?_
  refine x_bipush (pc' := 13) rfl rfl ?_
  refine x_icmp (a' := 20) (pc' := 16) (z := false) rfl rfl rfl (by decide) (fun h => by cases h) (fun _ => ?_)
  refine x_iconst (pc' := 17) rfl rfl ?_
  refine x_goto (pc' := 39) rfl rfl ?_
  refine x_istore (pc' := 41) (ls' := [_, _, _, _, _, _]) rfl rfl rfl rfl ?_
  refine x_iload (pc' := 43) rfl rfl rfl ?_
  refine x_iload_n (pc' := 44) rfl rfl rfl ?_
  refine x_isub (pc' := 45) (z := 3) rfl rfl (by decide) ?_
  refine x_istore (pc' := 47) (ls' := [_, _, _, _, _, _]) rfl rfl rfl rfl ?_
  refine x_iload (pc' := 49) rfl rfl rfl ?_
  refine x_if (a' := 56) (pc' := 52) (z := true) rfl rfl rfl (by decide) (fun _ => ?_) (fun h => by cases h)
  refine x_iload (pc' := 58) rfl rfl rfl ?_
  refine x_iconst (pc' := 59) rfl rfl ?_
  refine x_icmp (a' := 69) (pc' := 62) (z := false) rfl rfl rfl (by decide) (fun h => by cases h) (fun _ => ?_)
  refine x_iload_n (pc' := 63) rfl rfl rfl ?_
  refine x_bipush (pc' := 65) rfl rfl ?_
  refine x_idiv (pc' := 66) (z := 4) rfl rfl (by decide) (by decide +kernel) ?_
  refine x_goto (pc' := 89) rfl rfl ?_
  refine x_iconst (pc' := 90) rfl rfl ?_
  refine x_isub (pc' := 91) (z := 3) rfl rfl (by decide) ?_
  refine x_reti rfl rfl ?_
  refine sK_i (pc' := 6) rfl ?_
  refine x_istore_n (pc' := 7) (ls' := [_, _, _, _]) rfl rfl rfl rfl ?_
  refine x_iload_n (pc' := 8) rfl rfl rfl ?_
  refine x_iconst (pc' := 9) rfl rfl ?_
  refine x_icmp (a' := 31) (pc' := 12) (z := false) rfl rfl rfl (by decide) (fun h => by cases h) (fun _ => ?_)
  refine x_iload_n (pc' := 13) rfl rfl rfl ?_
  refine x_iconst (pc' := 14) rfl rfl ?_
  refine x_icmp (a' := 29) (pc' := 17) (z := false) rfl rfl rfl (by decide) (fun h => by cases h) (fun _ => ?_)
  refine x_iload_n (pc' := 18) rfl rfl rfl ?_
  refine x_cs (ls0 := [_]) (rest := []) rfl rfl rfl rfl ?_
  refine x_iload_n (pc' := 1) rfl rfl rfl ?_
  refine x_iconst (pc' := 2) rfl rfl ?_
  refine x_isub (pc' := 3) (z := 0) rfl rfl (by decide) ?_
  refine x_reti rfl rfl ?_
  refine sK_i (pc' := 21) rfl ?_
  refine x_iload_n (pc' := 22) rfl rfl rfl ?_
  refine x_icmp (a' := 29) (pc' := 25) (z := true) rfl rfl rfl (by decide) (fun _ => ?_) (fun h => by cases h)
  refine x_iconst (pc' := 30) rfl rfl ?_
  refine x_retz (z := false) rfl rfl ?_
  refine sK_i (pc' := 56) rfl ?_
  refine x_if (a' := 75) (pc' := 59) (z := true) rfl rfl rfl (by decide) (fun _ => ?_) (fun h => by cases h)
  refine x_aload_n (pc' := 76) rfl rfl rfl rfl rfl ?_
  refine x_gR (pc' := 79) (r := (some 14)) rfl rfl rfl (kR_790_0 hc) ?_
  refine x_aload_n (pc' := 80) rfl rfl rfl rfl rfl ?_
  refine x_gR (pc' := 83) (r := (some 27)) rfl rfl rfl (kR_809_0 hc) ?_
  refine x_iload (pc' := 85) rfl rfl rfl ?_
  refine x_iald (pc' := 86) (N := 200) (x := (io o0)) rfl rfl rfl (kN_21_27 hc) (io_in (p := 0) (N := 200) (by decide) (by decide)) (Eq.trans (congrArg (sA t 21 27) (nn_io (p := 0) (by decide))) hk0) ?_
  refine x_iald (pc' := 87) (N := 200) (x := (mA M 14 o0)) rfl rfl rfl (kN_21_14 hc) (io_in (p := o0) (N := 200) (Nat.lt_of_lt_of_le ho0 (gn200 hR)) (by decide)) (Eq.trans (congrArg (sA t 21 14) (nn_io (p := o0) (Nat.lt_trans (Nat.lt_of_lt_of_le ho0 (gn200 hR)) (by decide)))) (gF14 hM (Fr.refl _))) ?_
  refine x_iadd (pc' := 88) (z := (0 + (mA M 14 o0))) rfl rfl rfl ?_
  refine x_istore_n (pc' := 89) (ls' := [_, _, _, _, _]) rfl rfl rfl rfl ?_
  refine x_iinc (pc' := 92) (y := 1) (ls' := [_, _, _, _, _]) rfl rfl rfl rfl rfl ?_
  refine x_goto (pc' := 39) rfl rfl ?_
  refine x_iload (pc' := 41) rfl rfl rfl ?_
  refine x_aload_n (pc' := 42) rfl rfl rfl rfl rfl ?_
  refine x_gI (pc' := 45) (x := 3) rfl rfl rfl hq ?_
  refine x_icmp (a' := 95) (pc' := 48) (z := false) rfl rfl rfl (by decide) (fun h => by cases h) (fun _ => ?_)
  refine x_iload_n (pc' := 49) rfl rfl rfl ?_
  refine x_iload_n (pc' := 50) rfl rfl rfl ?_
  refine x_iload_n (pc' := 51) rfl rfl rfl ?_
  refine x_iload (pc' := 53) rfl rfl rfl ?_
  refine x_cs (ls0 := [_, _, _, sJk]) (rest := [_]) rfl rfl rfl rfl ?_
  refine x_iload_n (pc' := 1) rfl rfl rfl ?_
  refine x_iload_n (pc' := 2) rfl rfl rfl ?_
  refine x_iload_n (pc' := 3) rfl rfl rfl ?_
  refine x_cs (ls0 := [_, _, _, sJk, sJk, sJk]) (rest := []) rfl rfl rfl rfl ?_
  refine x_getstatic (pc' := 3) rfl rfl (show 1 < sC t 28 from gst1 hc) ?_
  refine x_iconst (pc' := 4) rfl rfl ?_
  refine x_iload_n (pc' := 5) rfl rfl rfl ?_
  refine x_imul (pc' := 6) (z := 0) rfl rfl (by decide) ?_
  refine x_iload_n (pc' := 7) rfl rfl rfl ?_
  refine x_iadd (pc' := 8) (z := 2) rfl rfl (by decide) ?_
  refine x_iald (pc' := 9) (N := 15) (x := 453) rfl rfl rfl (kN_28_1 hc) (io_in (p := 2) (N := 15) (by decide) (by decide)) (Eq.trans (congrArg (sA t 28 1) (nn_io (p := 2) (by decide))) ((hc.2.2.2.2.2 2).2.trans rfl)) ?_
  refine x_istore_n (pc' := 10) (ls' := [_, _, _, _, _, _]) rfl rfl rfl rfl ?_
  refine x_iload_n (pc' := 11) rfl rfl rfl ?_
  refine x_bipush (pc' := 13) rfl rfl ?_
  refine x_icmp (a' := 20) (pc' := 16) (z := false) rfl rfl rfl (by decide) (fun h => by cases h) (fun _ => ?_)
  refine x_iconst (pc' := 17) rfl rfl ?_
  refine x_goto (pc' := 39) rfl rfl ?_
  refine x_istore (pc' := 41) (ls' := [_, _, _, _, _, _]) rfl rfl rfl rfl ?_
  refine x_iload (pc' := 43) rfl rfl rfl ?_
  refine x_iload_n (pc' := 44) rfl rfl rfl ?_
  refine x_isub (pc' := 45) (z := 2) rfl rfl (by decide) ?_
  refine x_istore (pc' := 47) (ls' := [_, _, _, _, _, _]) rfl rfl rfl rfl ?_
  refine x_iload (pc' := 49) rfl rfl rfl ?_
  refine x_if (a' := 56) (pc' := 52) (z := true) rfl rfl rfl (by decide) (fun _ => ?_) (fun h => by cases h)
  refine x_iload (pc' := 58) rfl rfl rfl ?_
  refine x_iconst (pc' := 59) rfl rfl ?_
  refine x_icmp (a' := 69) (pc' := 62) (z := true) rfl rfl rfl (by decide) (fun _ => ?_) (fun h => by cases h)
  refine x_iload (pc' := 71) rfl rfl rfl ?_
  refine x_iconst (pc' := 72) rfl rfl ?_
  refine x_icmp (a' := 85) (pc' := 75) (z := false) rfl rfl rfl (by decide) (fun h => by cases h) (fun _ => ?_)
  refine x_iload_n (pc' := 76) rfl rfl rfl ?_
  refine x_bipush (pc' := 78) rfl rfl ?_
  refine x_idiv (pc' := 79) (z := 45) rfl rfl (by decide) (by decide +kernel) ?_
  refine x_bipush (pc' := 81) rfl rfl ?_
  refine x_irem (pc' := 82) (z := 5) rfl rfl (by decide) (by decide +kernel) ?_
  refine x_goto (pc' := 89) rfl rfl ?_
  refine x_iconst (pc' := 90) rfl rfl ?_
  refine x_isub (pc' := 91) (z := 4) rfl rfl (by decide) ?_
  refine x_reti rfl rfl ?_
  refine sK_i (pc' := 6) rfl ?_
  refine x_istore_n (pc' := 7) (ls' := [_, _, _, _]) rfl rfl rfl rfl ?_
  refine x_iload_n (pc' := 8) rfl rfl rfl ?_
  refine x_iconst (pc' := 9) rfl rfl ?_
  refine x_icmp (a' := 31) (pc' := 12) (z := false) rfl rfl rfl (by decide) (fun h => by cases h) (fun _ => ?_)
  refine x_iload_n (pc' := 13) rfl rfl rfl ?_
  refine x_iconst (pc' := 14) rfl rfl ?_
  refine x_icmp (a' := 29) (pc' := 17) (z := false) rfl rfl rfl (by decide) (fun h => by cases h) (fun _ => ?_)
  refine x_iload_n (pc' := 18) rfl rfl rfl ?_
  refine x_cs (ls0 := [_]) (rest := []) rfl rfl rfl rfl ?_
  refine x_iload_n (pc' := 1) rfl rfl rfl ?_
  refine x_iconst (pc' := 2) rfl rfl ?_
  refine x_isub (pc' := 3) (z := 1) rfl rfl (by decide) ?_
  refine x_reti rfl rfl ?_
  refine sK_i (pc' := 21) rfl ?_
  refine x_iload_n (pc' := 22) rfl rfl rfl ?_
  refine x_icmp (a' := 29) (pc' := 25) (z := true) rfl rfl rfl (by decide) (fun _ => ?_) (fun h => by cases h)
  refine x_iconst (pc' := 30) rfl rfl ?_
  refine x_retz (z := false) rfl rfl ?_
  refine sK_i (pc' := 56) rfl ?_
  refine x_if (a' := 75) (pc' := 59) (z := true) rfl rfl rfl (by decide) (fun _ => ?_) (fun h => by cases h)
  refine x_aload_n (pc' := 76) rfl rfl rfl rfl rfl ?_
  refine x_gR (pc' := 79) (r := (some 14)) rfl rfl rfl (kR_790_0 hc) ?_
  refine x_aload_n (pc' := 80) rfl rfl rfl rfl rfl ?_
  refine x_gR (pc' := 83) (r := (some 27)) rfl rfl rfl (kR_809_0 hc) ?_
  refine x_iload (pc' := 85) rfl rfl rfl ?_
  refine x_iald (pc' := 86) (N := 200) (x := (io o1)) rfl rfl rfl (kN_21_27 hc) (io_in (p := 1) (N := 200) (by decide) (by decide)) (Eq.trans (congrArg (sA t 21 27) (nn_io (p := 1) (by decide))) hk1) ?_
  refine x_iald (pc' := 87) (N := 200) (x := (mA M 14 o1)) rfl rfl rfl (kN_21_14 hc) (io_in (p := o1) (N := 200) (Nat.lt_of_lt_of_le ho1 (gn200 hR)) (by decide)) (Eq.trans (congrArg (sA t 21 14) (nn_io (p := o1) (Nat.lt_trans (Nat.lt_of_lt_of_le ho1 (gn200 hR)) (by decide)))) (gF14 hM (Fr.refl _))) ?_
  refine x_iadd (pc' := 88) (z := ((0 + (mA M 14 o0)) + (mA M 14 o1))) rfl rfl rfl ?_
  refine x_istore_n (pc' := 89) (ls' := [_, _, _, _, _]) rfl rfl rfl rfl ?_
  refine x_iinc (pc' := 92) (y := 2) (ls' := [_, _, _, _, _]) rfl rfl rfl rfl rfl ?_
  refine x_goto (pc' := 39) rfl rfl ?_
  refine x_iload (pc' := 41) rfl rfl rfl ?_
  refine x_aload_n (pc' := 42) rfl rfl rfl rfl rfl ?_
  refine x_gI (pc' := 45) (x := 3) rfl rfl rfl hq ?_
  refine x_icmp (a' := 95) (pc' := 48) (z := false) rfl rfl rfl (by decide) (fun h => by cases h) (fun _ => ?_)
  refine x_iload_n (pc' := 49) rfl rfl rfl ?_
  refine x_iload_n (pc' := 50) rfl rfl rfl ?_
  refine x_iload_n (pc' := 51) rfl rfl rfl ?_
  refine x_iload (pc' := 53) rfl rfl rfl ?_
  refine x_cs (ls0 := [_, _, _, sJk]) (rest := [_]) rfl rfl rfl rfl ?_
  refine x_iload_n (pc' := 1) rfl rfl rfl ?_
  refine x_iload_n (pc' := 2) rfl rfl rfl ?_
  refine x_iload_n (pc' := 3) rfl rfl rfl ?_
  refine x_cs (ls0 := [_, _, _, sJk, sJk, sJk]) (rest := []) rfl rfl rfl rfl ?_
  refine x_getstatic (pc' := 3) rfl rfl (show 1 < sC t 28 from gst1 hc) ?_
  refine x_iconst (pc' := 4) rfl rfl ?_
  refine x_iload_n (pc' := 5) rfl rfl rfl ?_
  refine x_imul (pc' := 6) (z := 0) rfl rfl (by decide) ?_
  refine x_iload_n (pc' := 7) rfl rfl rfl ?_
  refine x_iadd (pc' := 8) (z := 2) rfl rfl (by decide) ?_
  refine x_iald (pc' := 9) (N := 15) (x := 453) rfl rfl rfl (kN_28_1 hc) (io_in (p := 2) (N := 15) (by decide) (by decide)) (Eq.trans (congrArg (sA t 28 1) (nn_io (p := 2) (by decide))) ((hc.2.2.2.2.2 2).2.trans rfl)) ?_
  refine x_istore_n (pc' := 10) (ls' := [_, _, _, _, _, _]) rfl rfl rfl rfl ?_
  refine x_iload_n (pc' := 11) rfl rfl rfl ?_
  refine x_bipush (pc' := 13) rfl rfl ?_
  refine x_icmp (a' := 20) (pc' := 16) (z := false) rfl rfl rfl (by decide) (fun h => by cases h) (fun _ => ?_)
  refine x_iconst (pc' := 17) rfl rfl ?_
  refine x_goto (pc' := 39) rfl rfl ?_
  refine x_istore (pc' := 41) (ls' := [_, _, _, _, _, _]) rfl rfl rfl rfl ?_
  refine x_iload (pc' := 43) rfl rfl rfl ?_
  refine x_iload_n (pc' := 44) rfl rfl rfl ?_
  refine x_isub (pc' := 45) (z := 1) rfl rfl (by decide) ?_
  refine x_istore (pc' := 47) (ls' := [_, _, _, _, _, _]) rfl rfl rfl rfl ?_
  refine x_iload (pc' := 49) rfl rfl rfl ?_
  refine x_if (a' := 56) (pc' := 52) (z := true) rfl rfl rfl (by decide) (fun _ => ?_) (fun h => by cases h)
  refine x_iload (pc' := 58) rfl rfl rfl ?_
  refine x_iconst (pc' := 59) rfl rfl ?_
  refine x_icmp (a' := 69) (pc' := 62) (z := true) rfl rfl rfl (by decide) (fun _ => ?_) (fun h => by cases h)
  refine x_iload (pc' := 71) rfl rfl rfl ?_
  refine x_iconst (pc' := 72) rfl rfl ?_
  refine x_icmp (a' := 85) (pc' := 75) (z := true) rfl rfl rfl (by decide) (fun _ => ?_) (fun h => by cases h)
  refine x_iload_n (pc' := 86) rfl rfl rfl ?_
  refine x_bipush (pc' := 88) rfl rfl ?_
  refine x_irem (pc' := 89) (z := 3) rfl rfl (by decide) (by decide +kernel) ?_
  refine x_iconst (pc' := 90) rfl rfl ?_
  refine x_isub (pc' := 91) (z := 2) rfl rfl (by decide) ?_
  refine x_reti rfl rfl ?_
  refine sK_i (pc' := 6) rfl ?_
  refine x_istore_n (pc' := 7) (ls' := [_, _, _, _]) rfl rfl rfl rfl ?_
  refine x_iload_n (pc' := 8) rfl rfl rfl ?_
  refine x_iconst (pc' := 9) rfl rfl ?_
  refine x_icmp (a' := 31) (pc' := 12) (z := false) rfl rfl rfl (by decide) (fun h => by cases h) (fun _ => ?_)
  refine x_iload_n (pc' := 13) rfl rfl rfl ?_
  refine x_iconst (pc' := 14) rfl rfl ?_
  refine x_icmp (a' := 29) (pc' := 17) (z := true) rfl rfl rfl (by decide) (fun _ => ?_) (fun h => by cases h)
  refine x_iconst (pc' := 30) rfl rfl ?_
  refine x_retz (z := false) rfl rfl ?_
  refine sK_i (pc' := 56) rfl ?_
  refine x_if (a' := 75) (pc' := 59) (z := true) rfl rfl rfl (by decide) (fun _ => ?_) (fun h => by cases h)
  refine x_aload_n (pc' := 76) rfl rfl rfl rfl rfl ?_
  refine x_gR (pc' := 79) (r := (some 14)) rfl rfl rfl (kR_790_0 hc) ?_
  refine x_aload_n (pc' := 80) rfl rfl rfl rfl rfl ?_
  refine x_gR (pc' := 83) (r := (some 27)) rfl rfl rfl (kR_809_0 hc) ?_
  refine x_iload (pc' := 85) rfl rfl rfl ?_
  refine x_iald (pc' := 86) (N := 200) (x := (io o2)) rfl rfl rfl (kN_21_27 hc) (io_in (p := 2) (N := 200) (by decide) (by decide)) (Eq.trans (congrArg (sA t 21 27) (nn_io (p := 2) (by decide))) hk2) ?_
  refine x_iald (pc' := 87) (N := 200) (x := (mA M 14 o2)) rfl rfl rfl (kN_21_14 hc) (io_in (p := o2) (N := 200) (Nat.lt_of_lt_of_le ho2 (gn200 hR)) (by decide)) (Eq.trans (congrArg (sA t 21 14) (nn_io (p := o2) (Nat.lt_trans (Nat.lt_of_lt_of_le ho2 (gn200 hR)) (by decide)))) (gF14 hM (Fr.refl _))) ?_
  refine x_iadd (pc' := 88) (z := (((0 + (mA M 14 o0)) + (mA M 14 o1)) + (mA M 14 o2))) rfl rfl rfl ?_
  refine x_istore_n (pc' := 89) (ls' := [_, _, _, _, _]) rfl rfl rfl rfl ?_
  refine x_iinc (pc' := 92) (y := 3) (ls' := [_, _, _, _, _]) rfl rfl rfl rfl rfl ?_
  refine x_goto (pc' := 39) rfl rfl ?_
  refine x_iload (pc' := 41) rfl rfl rfl ?_
  refine x_aload_n (pc' := 42) rfl rfl rfl rfl rfl ?_
  refine x_gI (pc' := 45) (x := 3) rfl rfl rfl hq ?_
  refine x_icmp (a' := 95) (pc' := 48) (z := true) rfl rfl rfl (by decide) (fun _ => ?_) (fun h => by cases h)
  refine x_iload_n (pc' := 96) rfl rfl rfl ?_
  refine x_reti rfl rfl ?_
  exact q
-- (((0 + (mA M 14 o0)) + (mA M 14 o1)) + (mA M 14 o2))
set_option maxHeartbeats 4000000 in
set_option maxRecDepth 10000 in
theorem r159_10 {t : sT} {Q : sRs → sT → Prop} {M : sM} {n : Nat} {s : Bool} (hM : rp t = M) (hc : Cn t) (hR : Ri M n)
    (q : ∀ t', rp t' = M → cp t' = cp t → (∀ L, lgO M n 1 s 0 = some L → Tk t' L) → Q (.inl (some (.inl (bz (lgO M n 1 s 0).isSome)))) t') :
    X 159 0 [.inr (.inr (12, (some 0))), .inl 1, .inl (bz s), .inl 0, sJk, sJk, sJk] [] t Q := by
  refine x_iload_n (pc' := 1) rfl rfl rfl ?_
  refine x_iload_n (pc' := 2) rfl rfl rfl ?_
  refine x_iconst (pc' := 3) rfl rfl ?_
  refine x_cs (ls0 := [_, _, _, sJk, sJk, sJk]) (rest := []) rfl rfl rfl rfl ?_
  refine x_getstatic (pc' := 3) rfl rfl (show 1 < sC t 28 from gst1 hc) ?_
  refine x_iconst (pc' := 4) rfl rfl ?_
  refine x_iload_n (pc' := 5) rfl rfl rfl ?_
  refine x_imul (pc' := 6) (z := 3) rfl rfl (by decide) ?_
  refine x_iload_n (pc' := 7) rfl rfl rfl ?_
  refine x_iadd (pc' := 8) (z := 3) rfl rfl (by decide) ?_
  refine x_iald (pc' := 9) (N := 15) (x := 2) rfl rfl rfl (kN_28_1 hc) (io_in (p := 3) (N := 15) (by decide) (by decide)) (Eq.trans (congrArg (sA t 28 1) (nn_io (p := 3) (by decide))) ((hc.2.2.2.2.2 3).2.trans rfl)) ?_
  refine x_istore_n (pc' := 10) (ls' := [_, _, _, _, _, _]) rfl rfl rfl rfl ?_
  refine x_iload_n (pc' := 11) rfl rfl rfl ?_
  refine x_bipush (pc' := 13) rfl rfl ?_
  refine x_icmp (a' := 20) (pc' := 16) (z := true) rfl rfl rfl (by decide) (fun _ => ?_) (fun h => by cases h)
  refine x_iload_n (pc' := 21) rfl rfl rfl ?_
  refine x_bipush (pc' := 23) rfl rfl ?_
  refine x_icmp (a' := 30) (pc' := 26) (z := true) rfl rfl rfl (by decide) (fun _ => ?_) (fun h => by cases h)
  refine x_iload_n (pc' := 31) rfl rfl rfl ?_
  refine x_if (a' := 38) (pc' := 34) (z := false) rfl rfl rfl (by decide) (fun h => by cases h) (fun _ => ?_)
  refine x_iconst (pc' := 35) rfl rfl ?_
  refine x_goto (pc' := 39) rfl rfl ?_
  refine x_istore (pc' := 41) (ls' := [_, _, _, _, _, _]) rfl rfl rfl rfl ?_
  refine x_iload (pc' := 43) rfl rfl rfl ?_
  refine x_iload_n (pc' := 44) rfl rfl rfl ?_
  refine x_isub (pc' := 45) (z := 1) rfl rfl (by decide) ?_
  refine x_istore (pc' := 47) (ls' := [_, _, _, _, _, _]) rfl rfl rfl rfl ?_
  refine x_iload (pc' := 49) rfl rfl rfl ?_
  refine x_if (a' := 56) (pc' := 52) (z := true) rfl rfl rfl (by decide) (fun _ => ?_) (fun h => by cases h)
  refine x_iload (pc' := 58) rfl rfl rfl ?_
  refine x_iconst (pc' := 59) rfl rfl ?_
  refine x_icmp (a' := 69) (pc' := 62) (z := true) rfl rfl rfl (by decide) (fun _ => ?_) (fun h => by cases h)
  refine x_iload (pc' := 71) rfl rfl rfl ?_
  refine x_iconst (pc' := 72) rfl rfl ?_
  refine x_icmp (a' := 85) (pc' := 75) (z := true) rfl rfl rfl (by decide) (fun _ => ?_) (fun h => by cases h)
  refine x_iload_n (pc' := 86) rfl rfl rfl ?_
  refine x_bipush (pc' := 88) rfl rfl ?_
  refine x_irem (pc' := 89) (z := 2) rfl rfl (by decide) (by decide +kernel) ?_
  refine x_iconst (pc' := 90) rfl rfl ?_
  refine x_isub (pc' := 91) (z := 1) rfl rfl (by decide) ?_
  refine x_reti rfl rfl ?_
  refine sK_i (pc' := 6) rfl ?_
  refine x_iconst (pc' := 7) rfl rfl ?_
  refine x_icmp (a' := 14) (pc' := 10) (z := false) rfl rfl rfl (by decide) (fun h => by cases h) (fun _ => ?_)
  refine x_iconst (pc' := 11) rfl rfl ?_
  refine x_goto (pc' := 15) rfl rfl ?_
  refine x_istore (pc' := 17) (ls' := [_, _, _, _, _, _, _]) rfl rfl rfl rfl ?_
  refine x_aload_n (pc' := 18) rfl rfl rfl rfl rfl ?_
  refine x_iconst (pc' := 19) rfl rfl ?_
  refine x_pI (pc' := 22) rfl rfl rfl ?_
  refine x_iconst (pc' := 23) rfl rfl ?_
  refine x_istore (pc' := 25) (ls' := [_, _, _, _, _, _, _]) rfl rfl rfl rfl ?_
  refine x_iload (pc' := 27) rfl rfl rfl ?_
  refine x_iconst (pc' := 28) rfl rfl ?_
  refine x_icmp (a' := 129) (pc' := 31) (z := false) rfl rfl rfl (by decide) (fun h => by cases h) (fun _ => ?_)
  refine x_iload (pc' := 33) rfl rfl rfl ?_
  refine x_if (a' := 129) (pc' := 36) (z := false) rfl rfl rfl (by decide) (fun h => by cases h) (fun _ => ?_)
  refine x_iload_n (pc' := 37) rfl rfl rfl ?_
  refine x_iload_n (pc' := 38) rfl rfl rfl ?_
  refine x_iload (pc' := 40) rfl rfl rfl ?_
  refine x_cs (ls0 := [_, _, _, sJk, sJk, sJk]) (rest := []) rfl rfl rfl rfl ?_
  refine x_getstatic (pc' := 3) rfl rfl (show 1 < sC t 28 from gst1 hc) ?_
  refine x_iconst (pc' := 4) rfl rfl ?_
  refine x_iload_n (pc' := 5) rfl rfl rfl ?_
  refine x_imul (pc' := 6) (z := 3) rfl rfl (by decide) ?_
  refine x_iload_n (pc' := 7) rfl rfl rfl ?_
  refine x_iadd (pc' := 8) (z := 3) rfl rfl (by decide) ?_
  refine x_iald (pc' := 9) (N := 15) (x := 2) rfl rfl rfl (Eq.trans rdNI (kN_28_1 hc)) (io_in (p := 3) (N := 15) (by decide) (by decide)) (Eq.trans (congrArg (sA (sIw t 811 0 0) 28 1) (nn_io (p := 3) (by decide))) (Eq.trans (b := sA t 28 1 3) rfl ((hc.2.2.2.2.2 3).2.trans rfl))) ?_
  refine x_istore_n (pc' := 10) (ls' := [_, _, _, _, _, _]) rfl rfl rfl rfl ?_
  refine x_iload_n (pc' := 11) rfl rfl rfl ?_
  refine x_bipush (pc' := 13) rfl rfl ?_
  refine x_icmp (a' := 20) (pc' := 16) (z := true) rfl rfl rfl (by decide) (fun _ => ?_) (fun h => by cases h)
  refine x_iload_n (pc' := 21) rfl rfl rfl ?_
  refine x_bipush (pc' := 23) rfl rfl ?_
  refine x_icmp (a' := 30) (pc' := 26) (z := true) rfl rfl rfl (by decide) (fun _ => ?_) (fun h => by cases h)
  refine x_iload_n (pc' := 31) rfl rfl rfl ?_
  refine x_if (a' := 38) (pc' := 34) (z := false) rfl rfl rfl (by decide) (fun h => by cases h) (fun _ => ?_)
  refine x_iconst (pc' := 35) rfl rfl ?_
  refine x_goto (pc' := 39) rfl rfl ?_
  refine x_istore (pc' := 41) (ls' := [_, _, _, _, _, _]) rfl rfl rfl rfl ?_
  refine x_iload (pc' := 43) rfl rfl rfl ?_
  refine x_iload_n (pc' := 44) rfl rfl rfl ?_
  refine x_isub (pc' := 45) (z := 1) rfl rfl (by decide) ?_
  refine x_istore (pc' := 47) (ls' := [_, _, _, _, _, _]) rfl rfl rfl rfl ?_
  refine x_iload (pc' := 49) rfl rfl rfl ?_
  refine x_if (a' := 56) (pc' := 52) (z := true) rfl rfl rfl (by decide) (fun _ => ?_) (fun h => by cases h)
  refine x_iload (pc' := 58) rfl rfl rfl ?_
  refine x_iconst (pc' := 59) rfl rfl ?_
  refine x_icmp (a' := 69) (pc' := 62) (z := true) rfl rfl rfl (by decide) (fun _ => ?_) (fun h => by cases h)
  refine x_iload (pc' := 71) rfl rfl rfl ?_
  refine x_iconst (pc' := 72) rfl rfl ?_
  refine x_icmp (a' := 85) (pc' := 75) (z := true) rfl rfl rfl (by decide) (fun _ => ?_) (fun h => by cases h)
  refine x_iload_n (pc' := 86) rfl rfl rfl ?_
  refine x_bipush (pc' := 88) rfl rfl ?_
  refine x_irem (pc' := 89) (z := 2) rfl rfl (by decide) (by decide +kernel) ?_
  refine x_iconst (pc' := 90) rfl rfl ?_
  refine x_isub (pc' := 91) (z := 1) rfl rfl (by decide) ?_
  refine x_reti rfl rfl ?_
  refine sK_i (pc' := 43) rfl ?_
  refine x_istore (pc' := 45) (ls' := [_, _, _, _, _, _, _]) rfl rfl rfl rfl ?_
  refine x_iload (pc' := 47) rfl rfl rfl ?_
  refine x_iconst (pc' := 48) rfl rfl ?_
  refine x_icmp (a' := 123) (pc' := 51) (z := false) rfl rfl rfl (by decide) (fun h => by cases h) (fun _ => ?_)
  refine x_aload_n (pc' := 52) rfl rfl rfl rfl rfl ?_
  refine x_gR (pc' := 55) (r := (some 27)) rfl rfl rfl (Eq.trans (b := sR t 809 0) rfl (kR_809_0 hc)) ?_
  refine x_aload_n (pc' := 56) rfl rfl rfl rfl rfl ?_
  refine x_gI (pc' := 59) (x := 0) rfl rfl rfl sI_s ?_
  refine x_aload_n (pc' := 60) rfl rfl rfl rfl rfl ?_
  refine x_iload (pc' := 62) rfl rfl rfl ?_
  refine x_iload_n (pc' := 63) rfl rfl rfl ?_
  refine x_iload_n (pc' := 64) rfl rfl rfl ?_
  refine x_iload (pc' := 66) rfl rfl rfl ?_
  refine x_cs (ls0 := [_, _, _, sJk]) (rest := [_, _, _, _]) rfl rfl rfl rfl ?_
  refine x_iload_n (pc' := 1) rfl rfl rfl ?_
  refine x_iload_n (pc' := 2) rfl rfl rfl ?_
  refine x_iload_n (pc' := 3) rfl rfl rfl ?_
  refine x_cs (ls0 := [_, _, _, sJk, sJk, sJk]) (rest := []) rfl rfl rfl rfl ?_
  refine x_getstatic (pc' := 3) rfl rfl (show 1 < sC t 28 from gst1 hc) ?_
  refine x_iconst (pc' := 4) rfl rfl ?_
  refine x_iload_n (pc' := 5) rfl rfl rfl ?_
  refine x_imul (pc' := 6) (z := 3) rfl rfl (by decide) ?_
  refine x_iload_n (pc' := 7) rfl rfl rfl ?_
  refine x_iadd (pc' := 8) (z := 3) rfl rfl (by decide) ?_
  refine x_iald (pc' := 9) (N := 15) (x := 2) rfl rfl rfl (Eq.trans rdNI (kN_28_1 hc)) (io_in (p := 3) (N := 15) (by decide) (by decide)) (Eq.trans (congrArg (sA (sIw t 811 0 0) 28 1) (nn_io (p := 3) (by decide))) (Eq.trans (b := sA t 28 1 3) rfl ((hc.2.2.2.2.2 3).2.trans rfl))) ?_
  refine x_istore_n (pc' := 10) (ls' := [_, _, _, _, _, _]) rfl rfl rfl rfl ?_
  refine x_iload_n (pc' := 11) rfl rfl rfl ?_
  refine x_bipush (pc' := 13) rfl rfl ?_
  refine x_icmp (a' := 20) (pc' := 16) (z := true) rfl rfl rfl (by decide) (fun _ => ?_) (fun h => by cases h)
  refine x_iload_n (pc' := 21) rfl rfl rfl ?_
  refine x_bipush (pc' := 23) rfl rfl ?_
  refine x_icmp (a' := 30) (pc' := 26) (z := true) rfl rfl rfl (by decide) (fun _ => ?_) (fun h => by cases h)
  refine x_iload_n (pc' := 31) rfl rfl rfl ?_
  refine x_if (a' := 38) (pc' := 34) (z := false) rfl rfl rfl (by decide) (fun h => by cases h) (fun _ => ?_)
  refine x_iconst (pc' := 35) rfl rfl ?_
  refine x_goto (pc' := 39) rfl rfl ?_
  refine x_istore (pc' := 41) (ls' := [_, _, _, _, _, _]) rfl rfl rfl rfl ?_
  refine x_iload (pc' := 43) rfl rfl rfl ?_
  refine x_iload_n (pc' := 44) rfl rfl rfl ?_
  refine x_isub (pc' := 45) (z := 1) rfl rfl (by decide) ?_
  refine x_istore (pc' := 47) (ls' := [_, _, _, _, _, _]) rfl rfl rfl rfl ?_
  refine x_iload (pc' := 49) rfl rfl rfl ?_
  refine x_if (a' := 56) (pc' := 52) (z := true) rfl rfl rfl (by decide) (fun _ => ?_) (fun h => by cases h)
  refine x_iload (pc' := 58) rfl rfl rfl ?_
  refine x_iconst (pc' := 59) rfl rfl ?_
  refine x_icmp (a' := 69) (pc' := 62) (z := true) rfl rfl rfl (by decide) (fun _ => ?_) (fun h => by cases h)
  refine x_iload (pc' := 71) rfl rfl rfl ?_
  refine x_iconst (pc' := 72) rfl rfl ?_
  refine x_icmp (a' := 85) (pc' := 75) (z := true) rfl rfl rfl (by decide) (fun _ => ?_) (fun h => by cases h)
  refine x_iload_n (pc' := 86) rfl rfl rfl ?_
  refine x_bipush (pc' := 88) rfl rfl ?_
  refine x_irem (pc' := 89) (z := 2) rfl rfl (by decide) (by decide +kernel) ?_
  refine x_iconst (pc' := 90) rfl rfl ?_
  refine x_isub (pc' := 91) (z := 1) rfl rfl (by decide) ?_
  refine x_reti rfl rfl ?_
  refine sK_i (pc' := 6) rfl ?_
  refine x_istore_n (pc' := 7) (ls' := [_, _, _, _]) rfl rfl rfl rfl ?_
  refine x_iload_n (pc' := 8) rfl rfl rfl ?_
  refine x_iconst (pc' := 9) rfl rfl ?_
  refine x_icmp (a' := 31) (pc' := 12) (z := false) rfl rfl rfl (by decide) (fun h => by cases h) (fun _ => ?_)
  refine x_iload_n (pc' := 13) rfl rfl rfl ?_
  refine x_iconst (pc' := 14) rfl rfl ?_
  refine x_icmp (a' := 29) (pc' := 17) (z := true) rfl rfl rfl (by decide) (fun _ => ?_) (fun h => by cases h)
  refine x_iconst (pc' := 30) rfl rfl ?_
  refine x_retz (z := false) rfl rfl ?_
  refine sK_i (pc' := 69) rfl ?_
  refine x_iload_n (pc' := 70) rfl rfl rfl ?_
  have J25 : X 159 78 [.inr (.inr (12, (some 0))), .inl 1, .inl (bz s), .inl 0, .inl 1, .inl 0, .inl 1] [.inl (bz (!(xor false s))), .inl 1, .inr (.inr (12, (some 0))), .inl 0, .inr (.inr (21, (some 27)))] (sIw t 811 0 0) Q := by
    refine x_cv (ls0 := [_, _, _, sJk, sJk, sJk]) (rest := [_, _]) rfl rfl rfl rfl rfl ?_
    refine r153 (b := 1) (s := (!(xor false s))) ((rp_Ic rfl).trans hM) (Cn_cp (cp_I rfl) hc) (Fr.ri (Fr.refl _) hR) (show 1 < 5 by decide) (fun b1 => ?_)
    refine sK_i (pc' := 81) rfl ?_
    refine x_iast (pc' := 82) (N := 200) (p := 0) rfl rfl rfl (Eq.trans rdNI (kN_21_27 hc)) (io_in (p := 0) (N := 200) (by decide) (by decide)) (nn_io (p := 0) (by decide)) ?_
    refine x_aload_n (pc' := 83) rfl rfl rfl rfl rfl ?_
    refine x_gR (pc' := 86) (r := (some 0)) rfl rfl rfl (Eq.trans (b := sR t 769 0) rfl (kR_769_0 hc)) ?_
    refine x_iload (pc' := 88) rfl rfl rfl ?_
    refine x_iald (pc' := 89) (N := 5) (x := (mA M 0 1)) rfl rfl rfl (Eq.trans rdNA (Eq.trans rdNI (kN_21_0 hc))) (io_in (p := 1) (N := 5) (by decide) (by decide)) (Eq.trans (congrArg (sA (sAw (sIw t 811 0 0) 21 27 0 (ov (bsF M n 1 (!(xor false s))))) 21 0) (nn_io (p := 1) (by decide))) (Eq.trans (b := sA t 21 0 1) rfl (gA hM rfl))) ?_
    refine x_iconst (pc' := 90) rfl rfl ?_
    have J28 : X 159 111 [.inr (.inr (12, (some 0))), .inl 1, .inl (bz s), .inl 0, .inl 1, .inl 0, .inl 1] [.inl (bz ((decide ((mA M 0 1) = 2)) && (!((bsF M n 1 (!(xor false s))).isNone))))] (sAw (sIw t 811 0 0) 21 27 0 (ov (bsF M n 1 (!(xor false s))))) Q := by
      refine x_istore (pc' := 113) (ls' := [_, _, _, _, _, _, _]) rfl rfl rfl rfl ?_
      refine x_aload_n (pc' := 114) rfl rfl rfl rfl rfl ?_
      refine x_dup (pc' := 115) rfl rfl rfl ?_
      refine x_gI (pc' := 118) (x := 0) rfl rfl rfl (Eq.trans rdIA sI_s) ?_
      refine x_iconst (pc' := 119) rfl rfl ?_
      refine x_iadd (pc' := 120) (z := 1) rfl rfl (by decide) ?_
      refine x_pI (pc' := 123) rfl rfl rfl ?_
      refine x_iinc (pc' := 126) (y := 1) (ls' := [_, _, _, _, _, _, _]) rfl rfl rfl rfl rfl ?_
      refine x_goto (pc' := 25) rfl rfl ?_
      refine x_iload (pc' := 27) rfl rfl rfl ?_
      refine x_iconst (pc' := 28) rfl rfl ?_
      refine x_icmp (a' := 129) (pc' := 31) (z := false) rfl rfl rfl (by decide) (fun h => by cases h) (fun _ => ?_)
      refine x_iload (pc' := 33) rfl rfl rfl ?_
      have J44 : X 159 129 [.inr (.inr (12, (some 0))), .inl 1, .inl (bz s), .inl 0, .inl (bz ((decide ((mA M 0 1) = 2)) && (!((bsF M n 1 (!(xor false s))).isNone)))), .inl (bif ((decide ((mA M 0 1) = 2)) && (!((bsF M n 1 (!(xor false s))).isNone))) then 3 else 1), .inl (bif ((decide ((mA M 0 1) = 2)) && (!((bsF M n 1 (!(xor false s))).isNone))) then (-1) else 1)] [] (sIw (sAw (sIw t 811 0 0) 21 27 0 (ov (bsF M n 1 (!(xor false s))))) 811 0 1) Q := by
        refine x_iload (pc' := 131) rfl rfl rfl ?_
        refine x_retz (z := ((decide ((mA M 0 1) = 2)) && (!((bsF M n 1 (!(xor false s))).isNone)))) rfl rfl ?_
        exact qv (congrArg (fun z : Bool => (.inl (some (.inl (bz z))) : sRs)) lgF_1.symm) (q _ ((rp_Ic rfl).trans ((rp_As rfl).trans ((rp_Ic rfl).trans hM))) ((cp_I rfl).trans (cp_A.trans (cp_I rfl))) (fun L hL => by obtain ⟨l0, z0, h0, j0, rfl⟩ := lgF_i hL; cases lgF_nil h0; exact ⟨rfl, ov_io (an_n z0), trivial⟩))
      refine x_ifeq_z (a' := 129) (pc' := 36) (z := ((decide ((mA M 0 1) = 2)) && (!((bsF M n 1 (!(xor false s))).isNone)))) rfl rfl rfl (fun q31 => ?_) (fun q31 => ?_)
      · ((try rw [q31] at J44); (try rw [q31]); (try simp only [cd_t, cd_f, nt_t, nt_f, an_t, an_f, or_t, or_f] at J44); (try simp only [cd_t, cd_f, nt_t, nt_f, an_t, an_f, or_t, or_f]); exact J44)
      · refine x_iload_n (pc' := 37) rfl rfl rfl ?_
        refine x_iload_n (pc' := 38) rfl rfl rfl ?_
        refine x_iload (pc' := 40) rfl rfl rfl ?_
        refine x_cs (ls0 := [_, _, _, sJk, sJk, sJk]) (rest := []) rfl rfl rfl rfl ?_
        refine x_getstatic (pc' := 3) rfl rfl (show 1 < sC t 28 from gst1 hc) ?_
        refine x_iconst (pc' := 4) rfl rfl ?_
        refine x_iload_n (pc' := 5) rfl rfl rfl ?_
        refine x_imul (pc' := 6) (z := 3) rfl rfl (by decide) ?_
        refine x_iload_n (pc' := 7) rfl rfl rfl ?_
        refine x_iadd (pc' := 8) (z := 3) rfl rfl (by decide) ?_
        refine x_iald (pc' := 9) (N := 15) (x := 2) rfl rfl rfl (Eq.trans rdNI (Eq.trans rdNA (Eq.trans rdNI (kN_28_1 hc)))) (io_in (p := 3) (N := 15) (by decide) (by decide)) (Eq.trans (congrArg (sA (sIw (sAw (sIw t 811 0 0) 21 27 0 (ov (bsF M n 1 (!(xor false s))))) 811 0 1) 28 1) (nn_io (p := 3) (by decide))) (Eq.trans (b := sA t 28 1 3) rfl ((hc.2.2.2.2.2 3).2.trans rfl))) ?_
        refine x_istore_n (pc' := 10) (ls' := [_, _, _, _, _, _]) rfl rfl rfl rfl ?_
        refine x_iload_n (pc' := 11) rfl rfl rfl ?_
        refine x_bipush (pc' := 13) rfl rfl ?_
        refine x_icmp (a' := 20) (pc' := 16) (z := true) rfl rfl rfl (by decide) (fun _ => ?_) (fun h => by cases h)
        refine x_iload_n (pc' := 21) rfl rfl rfl ?_
        refine x_bipush (pc' := 23) rfl rfl ?_
        refine x_icmp (a' := 30) (pc' := 26) (z := true) rfl rfl rfl (by decide) (fun _ => ?_) (fun h => by cases h)
        refine x_iload_n (pc' := 31) rfl rfl rfl ?_
        refine x_if (a' := 38) (pc' := 34) (z := false) rfl rfl rfl (by decide) (fun h => by cases h) (fun _ => ?_)
        refine x_iconst (pc' := 35) rfl rfl ?_
        refine x_goto (pc' := 39) rfl rfl ?_
        refine x_istore (pc' := 41) (ls' := [_, _, _, _, _, _]) rfl rfl rfl rfl ?_
        refine x_iload (pc' := 43) rfl rfl rfl ?_
        refine x_iload_n (pc' := 44) rfl rfl rfl ?_
        refine x_isub (pc' := 45) (z := 0) rfl rfl (by decide) ?_
        refine x_istore (pc' := 47) (ls' := [_, _, _, _, _, _]) rfl rfl rfl rfl ?_
        refine x_iload (pc' := 49) rfl rfl rfl ?_
        refine x_if (a' := 56) (pc' := 52) (z := false) rfl rfl rfl (by decide) (fun h => by cases h) (fun _ => ?_)
        refine x_iconst (pc' := 53) rfl rfl ?_
        refine x_goto (pc' := 91) rfl rfl ?_
        refine x_reti rfl rfl ?_
        refine sK_i (pc' := 43) rfl ?_
        refine x_istore (pc' := 45) (ls' := [_, _, _, _, _, _, _]) rfl rfl rfl rfl ?_
        refine x_iload (pc' := 47) rfl rfl rfl ?_
        refine x_iconst (pc' := 48) rfl rfl ?_
        refine x_icmp (a' := 123) (pc' := 51) (z := true) rfl rfl rfl (by decide) (fun _ => ?_) (fun h => by cases h)
        refine x_iinc (pc' := 126) (y := 2) (ls' := [_, _, _, _, _, _, _]) rfl rfl rfl rfl rfl ?_
        refine x_goto (pc' := 25) rfl rfl ?_
        refine x_iload (pc' := 27) rfl rfl rfl ?_
        refine x_iconst (pc' := 28) rfl rfl ?_
        refine x_icmp (a' := 129) (pc' := 31) (z := false) rfl rfl rfl (by decide) (fun h => by cases h) (fun _ => ?_)
        refine x_iload (pc' := 33) rfl rfl rfl ?_
        refine x_ifeq_z (a' := 129) (pc' := 36) (z := ((decide ((mA M 0 1) = 2)) && (!((bsF M n 1 (!(xor false s))).isNone)))) rfl rfl rfl (fun h => zz_no q31 h) (fun _ => ?_)
        refine x_iload_n (pc' := 37) rfl rfl rfl ?_
        refine x_iload_n (pc' := 38) rfl rfl rfl ?_
        refine x_iload (pc' := 40) rfl rfl rfl ?_
        refine x_cs (ls0 := [_, _, _, sJk, sJk, sJk]) (rest := []) rfl rfl rfl rfl ?_
        refine x_getstatic (pc' := 3) rfl rfl (show 1 < sC t 28 from gst1 hc) ?_
        refine x_iconst (pc' := 4) rfl rfl ?_
        refine x_iload_n (pc' := 5) rfl rfl rfl ?_
        refine x_imul (pc' := 6) (z := 3) rfl rfl (by decide) ?_
        refine x_iload_n (pc' := 7) rfl rfl rfl ?_
        refine x_iadd (pc' := 8) (z := 3) rfl rfl (by decide) ?_
        refine x_iald (pc' := 9) (N := 15) (x := 2) rfl rfl rfl (Eq.trans rdNI (Eq.trans rdNA (Eq.trans rdNI (kN_28_1 hc)))) (io_in (p := 3) (N := 15) (by decide) (by decide)) (Eq.trans (congrArg (sA (sIw (sAw (sIw t 811 0 0) 21 27 0 (ov (bsF M n 1 (!(xor false s))))) 811 0 1) 28 1) (nn_io (p := 3) (by decide))) (Eq.trans (b := sA t 28 1 3) rfl ((hc.2.2.2.2.2 3).2.trans rfl))) ?_
        refine x_istore_n (pc' := 10) (ls' := [_, _, _, _, _, _]) rfl rfl rfl rfl ?_
        refine x_iload_n (pc' := 11) rfl rfl rfl ?_
        refine x_bipush (pc' := 13) rfl rfl ?_
        refine x_icmp (a' := 20) (pc' := 16) (z := true) rfl rfl rfl (by decide) (fun _ => ?_) (fun h => by cases h)
        refine x_iload_n (pc' := 21) rfl rfl rfl ?_
        refine x_bipush (pc' := 23) rfl rfl ?_
        refine x_icmp (a' := 30) (pc' := 26) (z := true) rfl rfl rfl (by decide) (fun _ => ?_) (fun h => by cases h)
        refine x_iload_n (pc' := 31) rfl rfl rfl ?_
        refine x_if (a' := 38) (pc' := 34) (z := false) rfl rfl rfl (by decide) (fun h => by cases h) (fun _ => ?_)
        refine x_iconst (pc' := 35) rfl rfl ?_
        refine x_goto (pc' := 39) rfl rfl ?_
        refine x_istore (pc' := 41) (ls' := [_, _, _, _, _, _]) rfl rfl rfl rfl ?_
        refine x_iload (pc' := 43) rfl rfl rfl ?_
        refine x_iload_n (pc' := 44) rfl rfl rfl ?_
        refine x_isub (pc' := 45) (z := (-1)) rfl rfl (by decide) ?_
        refine x_istore (pc' := 47) (ls' := [_, _, _, _, _, _]) rfl rfl rfl rfl ?_
        refine x_iload (pc' := 49) rfl rfl rfl ?_
        refine x_if (a' := 56) (pc' := 52) (z := false) rfl rfl rfl (by decide) (fun h => by cases h) (fun _ => ?_)
        refine x_iconst (pc' := 53) rfl rfl ?_
        refine x_goto (pc' := 91) rfl rfl ?_
        refine x_reti rfl rfl ?_
        refine sK_i (pc' := 43) rfl ?_
        refine x_istore (pc' := 45) (ls' := [_, _, _, _, _, _, _]) rfl rfl rfl rfl ?_
        refine x_iload (pc' := 47) rfl rfl rfl ?_
        refine x_iconst (pc' := 48) rfl rfl ?_
        refine x_icmp (a' := 123) (pc' := 51) (z := true) rfl rfl rfl (by decide) (fun _ => ?_) (fun h => by cases h)
        refine x_iinc (pc' := 126) (y := 3) (ls' := [_, _, _, _, _, _, _]) rfl rfl rfl rfl rfl ?_
        refine x_goto (pc' := 25) rfl rfl ?_
        refine x_iload (pc' := 27) rfl rfl rfl ?_
        refine x_iconst (pc' := 28) rfl rfl ?_
        refine x_icmp (a' := 129) (pc' := 31) (z := true) rfl rfl rfl (by decide) (fun _ => ?_) (fun h => by cases h)
        ((try rw [q31] at J44); (try rw [q31]); (try simp only [cd_t, cd_f, nt_t, nt_f, an_t, an_f, or_t, or_f] at J44); (try simp only [cd_t, cd_f, nt_t, nt_f, an_t, an_f, or_t, or_f]); exact J44)
    refine x_icmp_n (a' := 110) (pc' := 93) (z := decide ((mA M 0 1) = 2)) rfl rfl rfl (ik_ne _ _) (fun q27 => ?_) (fun q27 => ?_)
    · refine x_iconst (pc' := 111) rfl rfl ?_
      ((try rw [q27] at J28); (try rw [q27]); (try simp only [cd_t, cd_f, nt_t, nt_f, an_t, an_f, or_t, or_f] at J28); (try simp only [cd_t, cd_f, nt_t, nt_f, an_t, an_f, or_t, or_f]); exact J28)
    · refine x_aload_n (pc' := 94) rfl rfl rfl rfl rfl ?_
      refine x_gR (pc' := 97) (r := (some 27)) rfl rfl rfl (Eq.trans (b := sR t 809 0) rfl (kR_809_0 hc)) ?_
      refine x_aload_n (pc' := 98) rfl rfl rfl rfl rfl ?_
      refine x_gI (pc' := 101) (x := 0) rfl rfl rfl (Eq.trans rdIA sI_s) ?_
      refine x_iald (pc' := 102) (N := 200) (x := (ov (bsF M n 1 (!(xor false s))))) rfl rfl rfl (Eq.trans rdNA (Eq.trans rdNI (kN_21_27 hc))) (io_in (p := 0) (N := 200) (by decide) (by decide)) (Eq.trans (congrArg (sA (sAw (sIw t 811 0 0) 21 27 0 (ov (bsF M n 1 (!(xor false s))))) 21 27) (nn_io (p := 0) (by decide))) sA_s) ?_
      refine x_iconst (pc' := 103) rfl rfl ?_
      refine x_icmp (a' := 110) (pc' := 106) (z := (bsF M n 1 (!(xor false s))).isNone) rfl rfl rfl (ov_eq (ov_31 (N := n) b1 (Nat.le_of_lt (gn31 hR)))) (fun q28 => ?_) (fun q28 => ?_)
      · refine x_iconst (pc' := 111) rfl rfl ?_
        ((try rw [q28] at J28); (try rw [q28]); (try rw [q27] at J28); (try rw [q27]); (try simp only [cd_t, cd_f, nt_t, nt_f, an_t, an_f, or_t, or_f] at J28); (try simp only [cd_t, cd_f, nt_t, nt_f, an_t, an_f, or_t, or_f]); exact J28)
      · refine x_iconst (pc' := 107) rfl rfl ?_
        refine x_goto (pc' := 111) rfl rfl ?_
        ((try rw [q28] at J28); (try rw [q28]); (try rw [q27] at J28); (try rw [q27]); (try simp only [cd_t, cd_f, nt_t, nt_f, an_t, an_f, or_t, or_f] at J28); (try simp only [cd_t, cd_f, nt_t, nt_f, an_t, an_f, or_t, or_f]); exact J28)
  refine x_icmp (a' := 77) (pc' := 73) (z := (xor false s)) rfl rfl rfl (bz_neb _ _) (fun q25 => ?_) (fun q25 => ?_)
  · refine x_iconst (pc' := 78) rfl rfl ?_
    ((try rw [q25] at J25); (try rw [q25]); (try simp only [cd_t, cd_f, nt_t, nt_f, an_t, an_f, or_t, or_f] at J25); (try simp only [cd_t, cd_f, nt_t, nt_f, an_t, an_f, or_t, or_f]); exact J25)
  · refine x_iconst (pc' := 74) rfl rfl ?_
    refine x_goto (pc' := 78) rfl rfl ?_
    ((try rw [q25] at J25); (try rw [q25]); (try simp only [cd_t, cd_f, nt_t, nt_f, an_t, an_f, or_t, or_f] at J25); (try simp only [cd_t, cd_f, nt_t, nt_f, an_t, an_f, or_t, or_f]); exact J25)
set_option maxHeartbeats 4000000 in
set_option maxRecDepth 10000 in
theorem r160_10 {t : sT} {Q : sRs → sT → Prop} {M : sM} {n : Nat} {o0 : Nat}
    (hM : rp t = M)
    (hc : Cn t)
    (hR : Ri M n)
    (ho0 : o0 < n)
    (hq : sI t 811 0 = 1)
    (hk0 : sA t 21 27 0 = io o0)
    (q : Q (.inl (some (.inl (prF M 1 0 [o0])))) t) :
    X 160 0 [.inr (.inr (12, (some 0))), .inl 1, .inl 0, sJk, sJk] [] t Q := by
  refine x_iload_n (pc' := 1) rfl rfl rfl ?_
  refine x_iconst (pc' := 2) rfl rfl ?_
  refine x_icmp (a' := 34) (pc' := 5) (z := true) rfl rfl rfl (by decide) (fun _ => ?_) (fun h => by cases h)
  refine x_iconst (pc' := 35) rfl rfl ?_
  refine x_istore_n (pc' := 36) (ls' := [_, _, _, _, _]) rfl rfl rfl rfl ?_
  refine x_iconst (pc' := 37) rfl rfl ?_
  refine x_istore (pc' := 39) (ls' := [_, _, _, _, _]) rfl rfl rfl rfl ?_
  refine x_iload (pc' := 41) rfl rfl rfl ?_
  refine x_aload_n (pc' := 42) rfl rfl rfl rfl rfl ?_
  refine x_gI (pc' := 45) (x := 1) rfl rfl rfl hq ?_
  refine x_icmp (a' := 95) (pc' := 48) (z := false) rfl rfl rfl (by decide) (fun h => by cases h) (fun _ => ?_)
  refine x_iload_n (pc' := 49) rfl rfl rfl ?_
  refine x_iload_n (pc' := 50) rfl rfl rfl ?_
  refine x_iload_n (pc' := 51) rfl rfl rfl ?_
  refine x_iload (pc' := 53) rfl rfl rfl ?_
  refine x_cs (ls0 := [_, _, _, sJk]) (rest := [_]) rfl rfl rfl rfl ?_
  refine x_iload_n (pc' := 1) rfl rfl rfl ?_
  refine x_iload_n (pc' := 2) rfl rfl rfl ?_
  refine x_iload_n (pc' := 3) rfl rfl rfl ?_
  refine x_cs (ls0 := [_, _, _, sJk, sJk, sJk]) (rest := []) rfl rfl rfl rfl ?_
  refine x_getstatic (pc' := 3) rfl rfl (show 1 < sC t 28 from gst1 hc) ?_
  refine x_iconst (pc' := 4) rfl rfl ?_
  refine x_iload_n (pc' := 5) rfl rfl rfl ?_
  refine x_imul (pc' := 6) (z := 3) rfl rfl (by decide) ?_
  refine x_iload_n (pc' := 7) rfl rfl rfl ?_
  refine x_iadd (pc' := 8) (z := 3) rfl rfl (by decide) ?_
  refine x_iald (pc' := 9) (N := 15) (x := 2) rfl rfl rfl (kN_28_1 hc) (io_in (p := 3) (N := 15) (by decide) (by decide)) (Eq.trans (congrArg (sA t 28 1) (nn_io (p := 3) (by decide))) ((hc.2.2.2.2.2 3).2.trans rfl)) ?_
  refine x_istore_n (pc' := 10) (ls' := [_, _, _, _, _, _]) rfl rfl rfl rfl ?_
  refine x_iload_n (pc' := 11) rfl rfl rfl ?_
  refine x_bipush (pc' := 13) rfl rfl ?_
  refine x_icmp (a' := 20) (pc' := 16) (z := true) rfl rfl rfl (by decide) (fun _ => ?_) (fun h => by cases h)
  refine x_iload_n (pc' := 21) rfl rfl rfl ?_
  refine x_bipush (pc' := 23) rfl rfl ?_
  refine x_icmp (a' := 30) (pc' := 26) (z := true) rfl rfl rfl (by decide) (fun _ => ?_) (fun h => by cases h)
  refine x_iload_n (pc' := 31) rfl rfl rfl ?_
  refine x_if (a' := 38) (pc' := 34) (z := false) rfl rfl rfl (by decide) (fun h => by cases h) (fun _ => ?_)
  refine x_iconst (pc' := 35) rfl rfl ?_
  refine x_goto (pc' := 39) rfl rfl ?_
  refine x_istore (pc' := 41) (ls' := [_, _, _, _, _, _]) rfl rfl rfl rfl ?_
  refine x_iload (pc' := 43) rfl rfl rfl ?_
  refine x_iload_n (pc' := 44) rfl rfl rfl ?_
  refine x_isub (pc' := 45) (z := 1) rfl rfl (by decide) ?_
  refine x_istore (pc' := 47) (ls' := [_, _, _, _, _, _]) rfl rfl rfl rfl ?_
  refine x_iload (pc' := 49) rfl rfl rfl ?_
  refine x_if (a' := 56) (pc' := 52) (z := true) rfl rfl rfl (by decide) (fun _ => ?_) (fun h => by cases h)
  refine x_iload (pc' := 58) rfl rfl rfl ?_
  refine x_iconst (pc' := 59) rfl rfl ?_
  refine x_icmp (a' := 69) (pc' := 62) (z := true) rfl rfl rfl (by decide) (fun _ => ?_) (fun h => by cases h)
  refine x_iload (pc' := 71) rfl rfl rfl ?_
  refine x_iconst (pc' := 72) rfl rfl ?_
  refine x_icmp (a' := 85) (pc' := 75) (z := true) rfl rfl rfl (by decide) (fun _ => ?_) (fun h => by cases h)
  refine x_iload_n (pc' := 86) rfl rfl rfl ?_
  refine x_bipush (pc' := 88) rfl rfl ?_
  refine x_irem (pc' := 89) (z := 2) rfl rfl (by decide) (by decide +kernel) ?_
  refine x_iconst (pc' := 90) rfl rfl ?_
  refine x_isub (pc' := 91) (z := 1) rfl rfl (by decide) ?_
  refine x_reti rfl rfl ?_
  refine sK_i (pc' := 6) rfl ?_
  refine x_istore_n (pc' := 7) (ls' := [_, _, _, _]) rfl rfl rfl rfl ?_
  refine x_iload_n (pc' := 8) rfl rfl rfl ?_
  refine x_iconst (pc' := 9) rfl rfl ?_
  refine x_icmp (a' := 31) (pc' := 12) (z := false) rfl rfl rfl (by decide) (fun h => by cases h) (fun _ => ?_)
  refine x_iload_n (pc' := 13) rfl rfl rfl ?_
  refine x_iconst (pc' := 14) rfl rfl ?_
  refine x_icmp (a' := 29) (pc' := 17) (z := true) rfl rfl rfl (by decide) (fun _ => ?_) (fun h => by cases h)
  refine x_iconst (pc' := 30) rfl rfl ?_
  refine x_retz (z := false) rfl rfl ?_
  refine sK_i (pc' := 56) rfl ?_
  refine x_if (a' := 75) (pc' := 59) (z := true) rfl rfl rfl (by decide) (fun _ => ?_) (fun h => by cases h)
  refine x_aload_n (pc' := 76) rfl rfl rfl rfl rfl ?_
  refine x_gR (pc' := 79) (r := (some 14)) rfl rfl rfl (kR_790_0 hc) ?_
  refine x_aload_n (pc' := 80) rfl rfl rfl rfl rfl ?_
  refine x_gR (pc' := 83) (r := (some 27)) rfl rfl rfl (kR_809_0 hc) ?_
  refine x_iload (pc' := 85) rfl rfl rfl ?_
  refine x_iald (pc' := 86) (N := 200) (x := (io o0)) rfl rfl rfl (kN_21_27 hc) (io_in (p := 0) (N := 200) (by decide) (by decide)) (Eq.trans (congrArg (sA t 21 27) (nn_io (p := 0) (by decide))) hk0) ?_
  refine x_iald (pc' := 87) (N := 200) (x := (mA M 14 o0)) rfl rfl rfl (kN_21_14 hc) (io_in (p := o0) (N := 200) (Nat.lt_of_lt_of_le ho0 (gn200 hR)) (by decide)) (Eq.trans (congrArg (sA t 21 14) (nn_io (p := o0) (Nat.lt_trans (Nat.lt_of_lt_of_le ho0 (gn200 hR)) (by decide)))) (gF14 hM (Fr.refl _))) ?_
  refine x_iadd (pc' := 88) (z := (0 + (mA M 14 o0))) rfl rfl rfl ?_
  refine x_istore_n (pc' := 89) (ls' := [_, _, _, _, _]) rfl rfl rfl rfl ?_
  refine x_iinc (pc' := 92) (y := 1) (ls' := [_, _, _, _, _]) rfl rfl rfl rfl rfl ?_
  refine x_goto (pc' := 39) rfl rfl ?_
  refine x_iload (pc' := 41) rfl rfl rfl ?_
  refine x_aload_n (pc' := 42) rfl rfl rfl rfl rfl ?_
  refine x_gI (pc' := 45) (x := 1) rfl rfl rfl hq ?_
  refine x_icmp (a' := 95) (pc' := 48) (z := true) rfl rfl rfl (by decide) (fun _ => ?_) (fun h => by cases h)
  refine x_iload_n (pc' := 96) rfl rfl rfl ?_
  refine x_reti rfl rfl ?_
  exact q
-- (0 + (mA M 14 o0))
set_option maxHeartbeats 4000000 in
set_option maxRecDepth 10000 in
theorem r159_11 {t : sT} {Q : sRs → sT → Prop} {M : sM} {n : Nat} {s : Bool} (hM : rp t = M) (hc : Cn t) (hR : Ri M n)
    (q : ∀ t', rp t' = M → cp t' = cp t → (∀ L, lgO M n 1 s 1 = some L → Tk t' L) → Q (.inl (some (.inl (bz (lgO M n 1 s 1).isSome)))) t') :
    X 159 0 [.inr (.inr (12, (some 0))), .inl 1, .inl (bz s), .inl 1, sJk, sJk, sJk] [] t Q := by
  refine x_iload_n (pc' := 1) rfl rfl rfl ?_
  refine x_iload_n (pc' := 2) rfl rfl rfl ?_
  refine x_iconst (pc' := 3) rfl rfl ?_
  refine x_cs (ls0 := [_, _, _, sJk, sJk, sJk]) (rest := []) rfl rfl rfl rfl ?_
  refine x_getstatic (pc' := 3) rfl rfl (show 1 < sC t 28 from gst1 hc) ?_
  refine x_iconst (pc' := 4) rfl rfl ?_
  refine x_iload_n (pc' := 5) rfl rfl rfl ?_
  refine x_imul (pc' := 6) (z := 3) rfl rfl (by decide) ?_
  refine x_iload_n (pc' := 7) rfl rfl rfl ?_
  refine x_iadd (pc' := 8) (z := 4) rfl rfl (by decide) ?_
  refine x_iald (pc' := 9) (N := 15) (x := 53) rfl rfl rfl (kN_28_1 hc) (io_in (p := 4) (N := 15) (by decide) (by decide)) (Eq.trans (congrArg (sA t 28 1) (nn_io (p := 4) (by decide))) ((hc.2.2.2.2.2 4).2.trans rfl)) ?_
  refine x_istore_n (pc' := 10) (ls' := [_, _, _, _, _, _]) rfl rfl rfl rfl ?_
  refine x_iload_n (pc' := 11) rfl rfl rfl ?_
  refine x_bipush (pc' := 13) rfl rfl ?_
  refine x_icmp (a' := 20) (pc' := 16) (z := true) rfl rfl rfl (by decide) (fun _ => ?_) (fun h => by cases h)
  refine x_iload_n (pc' := 21) rfl rfl rfl ?_
  refine x_bipush (pc' := 23) rfl rfl ?_
  refine x_icmp (a' := 30) (pc' := 26) (z := false) rfl rfl rfl (by decide) (fun h => by cases h) (fun _ => ?_)
  refine x_iconst (pc' := 27) rfl rfl ?_
  refine x_goto (pc' := 39) rfl rfl ?_
  refine x_istore (pc' := 41) (ls' := [_, _, _, _, _, _]) rfl rfl rfl rfl ?_
  refine x_iload (pc' := 43) rfl rfl rfl ?_
  refine x_iload_n (pc' := 44) rfl rfl rfl ?_
  refine x_isub (pc' := 45) (z := 2) rfl rfl (by decide) ?_
  refine x_istore (pc' := 47) (ls' := [_, _, _, _, _, _]) rfl rfl rfl rfl ?_
  refine x_iload (pc' := 49) rfl rfl rfl ?_
  refine x_if (a' := 56) (pc' := 52) (z := true) rfl rfl rfl (by decide) (fun _ => ?_) (fun h => by cases h)
  refine x_iload (pc' := 58) rfl rfl rfl ?_
  refine x_iconst (pc' := 59) rfl rfl ?_
  refine x_icmp (a' := 69) (pc' := 62) (z := true) rfl rfl rfl (by decide) (fun _ => ?_) (fun h => by cases h)
  refine x_iload (pc' := 71) rfl rfl rfl ?_
  refine x_iconst (pc' := 72) rfl rfl ?_
  refine x_icmp (a' := 85) (pc' := 75) (z := false) rfl rfl rfl (by decide) (fun h => by cases h) (fun _ => ?_)
  refine x_iload_n (pc' := 76) rfl rfl rfl ?_
  refine x_bipush (pc' := 78) rfl rfl ?_
  refine x_idiv (pc' := 79) (z := 5) rfl rfl (by decide) (by decide +kernel) ?_
  refine x_bipush (pc' := 81) rfl rfl ?_
  refine x_irem (pc' := 82) (z := 5) rfl rfl (by decide) (by decide +kernel) ?_
  refine x_goto (pc' := 89) rfl rfl ?_
  refine x_iconst (pc' := 90) rfl rfl ?_
  refine x_isub (pc' := 91) (z := 4) rfl rfl (by decide) ?_
  refine x_reti rfl rfl ?_
  refine sK_i (pc' := 6) rfl ?_
  refine x_iconst (pc' := 7) rfl rfl ?_
  refine x_icmp (a' := 14) (pc' := 10) (z := false) rfl rfl rfl (by decide) (fun h => by cases h) (fun _ => ?_)
  refine x_iconst (pc' := 11) rfl rfl ?_
  refine x_goto (pc' := 15) rfl rfl ?_
  refine x_istore (pc' := 17) (ls' := [_, _, _, _, _, _, _]) rfl rfl rfl rfl ?_
  refine x_aload_n (pc' := 18) rfl rfl rfl rfl rfl ?_
  refine x_iconst (pc' := 19) rfl rfl ?_
  refine x_pI (pc' := 22) rfl rfl rfl ?_
  refine x_iconst (pc' := 23) rfl rfl ?_
  refine x_istore (pc' := 25) (ls' := [_, _, _, _, _, _, _]) rfl rfl rfl rfl ?_
  refine x_iload (pc' := 27) rfl rfl rfl ?_
  refine x_iconst (pc' := 28) rfl rfl ?_
  refine x_icmp (a' := 129) (pc' := 31) (z := false) rfl rfl rfl (by decide) (fun h => by cases h) (fun _ => ?_)
  refine x_iload (pc' := 33) rfl rfl rfl ?_
  refine x_if (a' := 129) (pc' := 36) (z := false) rfl rfl rfl (by decide) (fun h => by cases h) (fun _ => ?_)
  refine x_iload_n (pc' := 37) rfl rfl rfl ?_
  refine x_iload_n (pc' := 38) rfl rfl rfl ?_
  refine x_iload (pc' := 40) rfl rfl rfl ?_
  refine x_cs (ls0 := [_, _, _, sJk, sJk, sJk]) (rest := []) rfl rfl rfl rfl ?_
  refine x_getstatic (pc' := 3) rfl rfl (show 1 < sC t 28 from gst1 hc) ?_
  refine x_iconst (pc' := 4) rfl rfl ?_
  refine x_iload_n (pc' := 5) rfl rfl rfl ?_
  refine x_imul (pc' := 6) (z := 3) rfl rfl (by decide) ?_
  refine x_iload_n (pc' := 7) rfl rfl rfl ?_
  refine x_iadd (pc' := 8) (z := 4) rfl rfl (by decide) ?_
  refine x_iald (pc' := 9) (N := 15) (x := 53) rfl rfl rfl (Eq.trans rdNI (kN_28_1 hc)) (io_in (p := 4) (N := 15) (by decide) (by decide)) (Eq.trans (congrArg (sA (sIw t 811 0 0) 28 1) (nn_io (p := 4) (by decide))) (Eq.trans (b := sA t 28 1 4) rfl ((hc.2.2.2.2.2 4).2.trans rfl))) ?_
  refine x_istore_n (pc' := 10) (ls' := [_, _, _, _, _, _]) rfl rfl rfl rfl ?_
  refine x_iload_n (pc' := 11) rfl rfl rfl ?_
  refine x_bipush (pc' := 13) rfl rfl ?_
  refine x_icmp (a' := 20) (pc' := 16) (z := true) rfl rfl rfl (by decide) (fun _ => ?_) (fun h => by cases h)
  refine x_iload_n (pc' := 21) rfl rfl rfl ?_
  refine x_bipush (pc' := 23) rfl rfl ?_
  refine x_icmp (a' := 30) (pc' := 26) (z := false) rfl rfl rfl (by decide) (fun h => by cases h) (fun _ => ?_)
  refine x_iconst (pc' := 27) rfl rfl ?_
  refine x_goto (pc' := 39) rfl rfl ?_
  refine x_istore (pc' := 41) (ls' := [_, _, _, _, _, _]) rfl rfl rfl rfl ?_
  refine x_iload (pc' := 43) rfl rfl rfl ?_
  refine x_iload_n (pc' := 44) rfl rfl rfl ?_
  refine x_isub (pc' := 45) (z := 2) rfl rfl (by decide) ?_
  refine x_istore (pc' := 47) (ls' := [_, _, _, _, _, _]) rfl rfl rfl rfl ?_
  refine x_iload (pc' := 49) rfl rfl rfl ?_
  refine x_if (a' := 56) (pc' := 52) (z := true) rfl rfl rfl (by decide) (fun _ => ?_) (fun h => by cases h)
  refine x_iload (pc' := 58) rfl rfl rfl ?_
  refine x_iconst (pc' := 59) rfl rfl ?_
  refine x_icmp (a' := 69) (pc' := 62) (z := true) rfl rfl rfl (by decide) (fun _ => ?_) (fun h => by cases h)
  refine x_iload (pc' := 71) rfl rfl rfl ?_
  refine x_iconst (pc' := 72) rfl rfl ?_
  refine x_icmp (a' := 85) (pc' := 75) (z := false) rfl rfl rfl (by decide) (fun h => by cases h) (fun _ => ?_)
  refine x_iload_n (pc' := 76) rfl rfl rfl ?_
  refine x_bipush (pc' := 78) rfl rfl ?_
  refine x_idiv (pc' := 79) (z := 5) rfl rfl (by decide) (by decide +kernel) ?_
  refine x_bipush (pc' := 81) rfl rfl ?_
  refine x_irem (pc' := 82) (z := 5) rfl rfl (by decide) (by decide +kernel) ?_
  refine x_goto (pc' := 89) rfl rfl ?_
  refine x_iconst (pc' := 90) rfl rfl ?_
  refine x_isub (pc' := 91) (z := 4) rfl rfl (by decide) ?_
  refine x_reti rfl rfl ?_
  refine sK_i (pc' := 43) rfl ?_
  refine x_istore (pc' := 45) (ls' := [_, _, _, _, _, _, _]) rfl rfl rfl rfl ?_
  refine x_iload (pc' := 47) rfl rfl rfl ?_
  refine x_iconst (pc' := 48) rfl rfl ?_
  refine x_icmp (a' := 123) (pc' := 51) (z := false) rfl rfl rfl (by decide) (fun h => by cases h) (fun _ => ?_)
  refine x_aload_n (pc' := 52) rfl rfl rfl rfl rfl ?_
  refine x_gR (pc' := 55) (r := (some 27)) rfl rfl rfl (Eq.trans (b := sR t 809 0) rfl (kR_809_0 hc)) ?_
  refine x_aload_n (pc' := 56) rfl rfl rfl rfl rfl ?_
  refine x_gI (pc' := 59) (x := 0) rfl rfl rfl sI_s ?_
  refine x_aload_n (pc' := 60) rfl rfl rfl rfl rfl ?_
  refine x_iload (pc' := 62) rfl rfl rfl ?_
  refine x_iload_n (pc' := 63) rfl rfl rfl ?_
  refine x_iload_n (pc' := 64) rfl rfl rfl ?_
  refine x_iload (pc' := 66) rfl rfl rfl ?_
  refine x_cs (ls0 := [_, _, _, sJk]) (rest := [_, _, _, _]) rfl rfl rfl rfl ?_
  refine x_iload_n (pc' := 1) rfl rfl rfl ?_
  refine x_iload_n (pc' := 2) rfl rfl rfl ?_
  refine x_iload_n (pc' := 3) rfl rfl rfl ?_
  refine x_cs (ls0 := [_, _, _, sJk, sJk, sJk]) (rest := []) rfl rfl rfl rfl ?_
  refine x_getstatic (pc' := 3) rfl rfl (show 1 < sC t 28 from gst1 hc) ?_
  refine x_iconst (pc' := 4) rfl rfl ?_
  refine x_iload_n (pc' := 5) rfl rfl rfl ?_
  refine x_imul (pc' := 6) (z := 3) rfl rfl (by decide) ?_
  refine x_iload_n (pc' := 7) rfl rfl rfl ?_
  refine x_iadd (pc' := 8) (z := 4) rfl rfl (by decide) ?_
  refine x_iald (pc' := 9) (N := 15) (x := 53) rfl rfl rfl (Eq.trans rdNI (kN_28_1 hc)) (io_in (p := 4) (N := 15) (by decide) (by decide)) (Eq.trans (congrArg (sA (sIw t 811 0 0) 28 1) (nn_io (p := 4) (by decide))) (Eq.trans (b := sA t 28 1 4) rfl ((hc.2.2.2.2.2 4).2.trans rfl))) ?_
  refine x_istore_n (pc' := 10) (ls' := [_, _, _, _, _, _]) rfl rfl rfl rfl ?_
  refine x_iload_n (pc' := 11) rfl rfl rfl ?_
  refine x_bipush (pc' := 13) rfl rfl ?_
  refine x_icmp (a' := 20) (pc' := 16) (z := true) rfl rfl rfl (by decide) (fun _ => ?_) (fun h => by cases h)
  refine x_iload_n (pc' := 21) rfl rfl rfl ?_
  refine x_bipush (pc' := 23) rfl rfl ?_
  refine x_icmp (a' := 30) (pc' := 26) (z := false) rfl rfl rfl (by decide) (fun h => by cases h) (fun _ => ?_)
  refine x_iconst (pc' := 27) rfl rfl ?_
  refine x_goto (pc' := 39) rfl rfl ?_
  refine x_istore (pc' := 41) (ls' := [_, _, _, _, _, _]) rfl rfl rfl rfl ?_
  refine x_iload (pc' := 43) rfl rfl rfl ?_
  refine x_iload_n (pc' := 44) rfl rfl rfl ?_
  refine x_isub (pc' := 45) (z := 2) rfl rfl (by decide) ?_
  refine x_istore (pc' := 47) (ls' := [_, _, _, _, _, _]) rfl rfl rfl rfl ?_
  refine x_iload (pc' := 49) rfl rfl rfl ?_
  refine x_if (a' := 56) (pc' := 52) (z := true) rfl rfl rfl (by decide) (fun _ => ?_) (fun h => by cases h)
  refine x_iload (pc' := 58) rfl rfl rfl ?_
  refine x_iconst (pc' := 59) rfl rfl ?_
  refine x_icmp (a' := 69) (pc' := 62) (z := true) rfl rfl rfl (by decide) (fun _ => ?_) (fun h => by cases h)
  refine x_iload (pc' := 71) rfl rfl rfl ?_
  refine x_iconst (pc' := 72) rfl rfl ?_
  refine x_icmp (a' := 85) (pc' := 75) (z := false) rfl rfl rfl (by decide) (fun h => by cases h) (fun _ => ?_)
  refine x_iload_n (pc' := 76) rfl rfl rfl ?_
  refine x_bipush (pc' := 78) rfl rfl ?_
  refine x_idiv (pc' := 79) (z := 5) rfl rfl (by decide) (by decide +kernel) ?_
  refine x_bipush (pc' := 81) rfl rfl ?_
  refine x_irem (pc' := 82) (z := 5) rfl rfl (by decide) (by decide +kernel) ?_
  refine x_goto (pc' := 89) rfl rfl ?_
  refine x_iconst (pc' := 90) rfl rfl ?_
  refine x_isub (pc' := 91) (z := 4) rfl rfl (by decide) ?_
  refine x_reti rfl rfl ?_
  refine sK_i (pc' := 6) rfl ?_
  refine x_istore_n (pc' := 7) (ls' := [_, _, _, _]) rfl rfl rfl rfl ?_
  refine x_iload_n (pc' := 8) rfl rfl rfl ?_
  refine x_iconst (pc' := 9) rfl rfl ?_
  refine x_icmp (a' := 31) (pc' := 12) (z := false) rfl rfl rfl (by decide) (fun h => by cases h) (fun _ => ?_)
  refine x_iload_n (pc' := 13) rfl rfl rfl ?_
  refine x_iconst (pc' := 14) rfl rfl ?_
  refine x_icmp (a' := 29) (pc' := 17) (z := false) rfl rfl rfl (by decide) (fun h => by cases h) (fun _ => ?_)
  refine x_iload_n (pc' := 18) rfl rfl rfl ?_
  refine x_cs (ls0 := [_]) (rest := []) rfl rfl rfl rfl ?_
  refine x_iload_n (pc' := 1) rfl rfl rfl ?_
  refine x_iconst (pc' := 2) rfl rfl ?_
  refine x_isub (pc' := 3) (z := 1) rfl rfl (by decide) ?_
  refine x_reti rfl rfl ?_
  refine sK_i (pc' := 21) rfl ?_
  refine x_iload_n (pc' := 22) rfl rfl rfl ?_
  refine x_icmp (a' := 29) (pc' := 25) (z := true) rfl rfl rfl (by decide) (fun _ => ?_) (fun h => by cases h)
  refine x_iconst (pc' := 30) rfl rfl ?_
  refine x_retz (z := false) rfl rfl ?_
  refine sK_i (pc' := 69) rfl ?_
  refine x_iload_n (pc' := 70) rfl rfl rfl ?_
  have J23 : X 159 78 [.inr (.inr (12, (some 0))), .inl 1, .inl (bz s), .inl 1, .inl 1, .inl 0, .inl 4] [.inl (bz (!(xor false s))), .inl 4, .inr (.inr (12, (some 0))), .inl 0, .inr (.inr (21, (some 27)))] (sIw t 811 0 0) Q := by
    refine x_cv (ls0 := [_, _, _, sJk, sJk, sJk]) (rest := [_, _]) rfl rfl rfl rfl rfl ?_
    refine r153 (b := 4) (s := (!(xor false s))) ((rp_Ic rfl).trans hM) (Cn_cp (cp_I rfl) hc) (Fr.ri (Fr.refl _) hR) (show 4 < 5 by decide) (fun b1 => ?_)
    refine sK_i (pc' := 81) rfl ?_
    refine x_iast (pc' := 82) (N := 200) (p := 0) rfl rfl rfl (Eq.trans rdNI (kN_21_27 hc)) (io_in (p := 0) (N := 200) (by decide) (by decide)) (nn_io (p := 0) (by decide)) ?_
    refine x_aload_n (pc' := 83) rfl rfl rfl rfl rfl ?_
    refine x_gR (pc' := 86) (r := (some 0)) rfl rfl rfl (Eq.trans (b := sR t 769 0) rfl (kR_769_0 hc)) ?_
    refine x_iload (pc' := 88) rfl rfl rfl ?_
    refine x_iald (pc' := 89) (N := 5) (x := (mA M 0 4)) rfl rfl rfl (Eq.trans rdNA (Eq.trans rdNI (kN_21_0 hc))) (io_in (p := 4) (N := 5) (by decide) (by decide)) (Eq.trans (congrArg (sA (sAw (sIw t 811 0 0) 21 27 0 (ov (bsF M n 4 (!(xor false s))))) 21 0) (nn_io (p := 4) (by decide))) (Eq.trans (b := sA t 21 0 4) rfl (gA hM rfl))) ?_
    refine x_iconst (pc' := 90) rfl rfl ?_
    have J26 : X 159 111 [.inr (.inr (12, (some 0))), .inl 1, .inl (bz s), .inl 1, .inl 1, .inl 0, .inl 4] [.inl (bz ((decide ((mA M 0 4) = 2)) && (!((bsF M n 4 (!(xor false s))).isNone))))] (sAw (sIw t 811 0 0) 21 27 0 (ov (bsF M n 4 (!(xor false s))))) Q := by
      refine x_istore (pc' := 113) (ls' := [_, _, _, _, _, _, _]) rfl rfl rfl rfl ?_
      refine x_aload_n (pc' := 114) rfl rfl rfl rfl rfl ?_
      refine x_dup (pc' := 115) rfl rfl rfl ?_
      refine x_gI (pc' := 118) (x := 0) rfl rfl rfl (Eq.trans rdIA sI_s) ?_
      refine x_iconst (pc' := 119) rfl rfl ?_
      refine x_iadd (pc' := 120) (z := 1) rfl rfl (by decide) ?_
      refine x_pI (pc' := 123) rfl rfl rfl ?_
      refine x_iinc (pc' := 126) (y := 1) (ls' := [_, _, _, _, _, _, _]) rfl rfl rfl rfl rfl ?_
      refine x_goto (pc' := 25) rfl rfl ?_
      refine x_iload (pc' := 27) rfl rfl rfl ?_
      refine x_iconst (pc' := 28) rfl rfl ?_
      refine x_icmp (a' := 129) (pc' := 31) (z := false) rfl rfl rfl (by decide) (fun h => by cases h) (fun _ => ?_)
      refine x_iload (pc' := 33) rfl rfl rfl ?_
      refine x_ifeq_z (a' := 129) (pc' := 36) (z := ((decide ((mA M 0 4) = 2)) && (!((bsF M n 4 (!(xor false s))).isNone)))) rfl rfl rfl (fun q29 => ?_) (fun q29 => ?_)
      · refine x_iload (pc' := 131) rfl rfl rfl ?_
        refine x_retz (z := ((decide ((mA M 0 4) = 2)) && (!((bsF M n 4 (!(xor false s))).isNone)))) rfl rfl ?_
        exact qv (congrArg (fun z : Bool => (.inl (some (.inl (bz z))) : sRs)) (Eq.trans (lgF_n q29) q29.symm).symm) (q _ ((rp_Ic rfl).trans ((rp_As rfl).trans ((rp_Ic rfl).trans hM))) ((cp_I rfl).trans (cp_A.trans (cp_I rfl))) (fun L hL => by obtain ⟨l0, z0, h0, j0, rfl⟩ := lgF_i hL; exact zz_no z0 q29))
      · refine x_iload_n (pc' := 37) rfl rfl rfl ?_
        refine x_iload_n (pc' := 38) rfl rfl rfl ?_
        refine x_iload (pc' := 40) rfl rfl rfl ?_
        refine x_cs (ls0 := [_, _, _, sJk, sJk, sJk]) (rest := []) rfl rfl rfl rfl ?_
        refine x_getstatic (pc' := 3) rfl rfl (show 1 < sC t 28 from gst1 hc) ?_
        refine x_iconst (pc' := 4) rfl rfl ?_
        refine x_iload_n (pc' := 5) rfl rfl rfl ?_
        refine x_imul (pc' := 6) (z := 3) rfl rfl (by decide) ?_
        refine x_iload_n (pc' := 7) rfl rfl rfl ?_
        refine x_iadd (pc' := 8) (z := 4) rfl rfl (by decide) ?_
        refine x_iald (pc' := 9) (N := 15) (x := 53) rfl rfl rfl (Eq.trans rdNI (Eq.trans rdNA (Eq.trans rdNI (kN_28_1 hc)))) (io_in (p := 4) (N := 15) (by decide) (by decide)) (Eq.trans (congrArg (sA (sIw (sAw (sIw t 811 0 0) 21 27 0 (ov (bsF M n 4 (!(xor false s))))) 811 0 1) 28 1) (nn_io (p := 4) (by decide))) (Eq.trans (b := sA t 28 1 4) rfl ((hc.2.2.2.2.2 4).2.trans rfl))) ?_
        refine x_istore_n (pc' := 10) (ls' := [_, _, _, _, _, _]) rfl rfl rfl rfl ?_
        refine x_iload_n (pc' := 11) rfl rfl rfl ?_
        refine x_bipush (pc' := 13) rfl rfl ?_
        refine x_icmp (a' := 20) (pc' := 16) (z := true) rfl rfl rfl (by decide) (fun _ => ?_) (fun h => by cases h)
        refine x_iload_n (pc' := 21) rfl rfl rfl ?_
        refine x_bipush (pc' := 23) rfl rfl ?_
        refine x_icmp (a' := 30) (pc' := 26) (z := false) rfl rfl rfl (by decide) (fun h => by cases h) (fun _ => ?_)
        refine x_iconst (pc' := 27) rfl rfl ?_
        refine x_goto (pc' := 39) rfl rfl ?_
        refine x_istore (pc' := 41) (ls' := [_, _, _, _, _, _]) rfl rfl rfl rfl ?_
        refine x_iload (pc' := 43) rfl rfl rfl ?_
        refine x_iload_n (pc' := 44) rfl rfl rfl ?_
        refine x_isub (pc' := 45) (z := 1) rfl rfl (by decide) ?_
        refine x_istore (pc' := 47) (ls' := [_, _, _, _, _, _]) rfl rfl rfl rfl ?_
        refine x_iload (pc' := 49) rfl rfl rfl ?_
        refine x_if (a' := 56) (pc' := 52) (z := true) rfl rfl rfl (by decide) (fun _ => ?_) (fun h => by cases h)
        refine x_iload (pc' := 58) rfl rfl rfl ?_
        refine x_iconst (pc' := 59) rfl rfl ?_
        refine x_icmp (a' := 69) (pc' := 62) (z := true) rfl rfl rfl (by decide) (fun _ => ?_) (fun h => by cases h)
        refine x_iload (pc' := 71) rfl rfl rfl ?_
        refine x_iconst (pc' := 72) rfl rfl ?_
        refine x_icmp (a' := 85) (pc' := 75) (z := true) rfl rfl rfl (by decide) (fun _ => ?_) (fun h => by cases h)
        refine x_iload_n (pc' := 86) rfl rfl rfl ?_
        refine x_bipush (pc' := 88) rfl rfl ?_
        refine x_irem (pc' := 89) (z := 3) rfl rfl (by decide) (by decide +kernel) ?_
        refine x_iconst (pc' := 90) rfl rfl ?_
        refine x_isub (pc' := 91) (z := 2) rfl rfl (by decide) ?_
        refine x_reti rfl rfl ?_
        refine sK_i (pc' := 43) rfl ?_
        refine x_istore (pc' := 45) (ls' := [_, _, _, _, _, _, _]) rfl rfl rfl rfl ?_
        refine x_iload (pc' := 47) rfl rfl rfl ?_
        refine x_iconst (pc' := 48) rfl rfl ?_
        refine x_icmp (a' := 123) (pc' := 51) (z := false) rfl rfl rfl (by decide) (fun h => by cases h) (fun _ => ?_)
        refine x_aload_n (pc' := 52) rfl rfl rfl rfl rfl ?_
        refine x_gR (pc' := 55) (r := (some 27)) rfl rfl rfl (Eq.trans (b := sR t 809 0) rfl (kR_809_0 hc)) ?_
        refine x_aload_n (pc' := 56) rfl rfl rfl rfl rfl ?_
        refine x_gI (pc' := 59) (x := 1) rfl rfl rfl sI_s ?_
        refine x_aload_n (pc' := 60) rfl rfl rfl rfl rfl ?_
        refine x_iload (pc' := 62) rfl rfl rfl ?_
        refine x_iload_n (pc' := 63) rfl rfl rfl ?_
        refine x_iload_n (pc' := 64) rfl rfl rfl ?_
        refine x_iload (pc' := 66) rfl rfl rfl ?_
        refine x_cs (ls0 := [_, _, _, sJk]) (rest := [_, _, _, _]) rfl rfl rfl rfl ?_
        refine x_iload_n (pc' := 1) rfl rfl rfl ?_
        refine x_iload_n (pc' := 2) rfl rfl rfl ?_
        refine x_iload_n (pc' := 3) rfl rfl rfl ?_
        refine x_cs (ls0 := [_, _, _, sJk, sJk, sJk]) (rest := []) rfl rfl rfl rfl ?_
        refine x_getstatic (pc' := 3) rfl rfl (show 1 < sC t 28 from gst1 hc) ?_
        refine x_iconst (pc' := 4) rfl rfl ?_
        refine x_iload_n (pc' := 5) rfl rfl rfl ?_
        refine x_imul (pc' := 6) (z := 3) rfl rfl (by decide) ?_
        refine x_iload_n (pc' := 7) rfl rfl rfl ?_
        refine x_iadd (pc' := 8) (z := 4) rfl rfl (by decide) ?_
        refine x_iald (pc' := 9) (N := 15) (x := 53) rfl rfl rfl (Eq.trans rdNI (Eq.trans rdNA (Eq.trans rdNI (kN_28_1 hc)))) (io_in (p := 4) (N := 15) (by decide) (by decide)) (Eq.trans (congrArg (sA (sIw (sAw (sIw t 811 0 0) 21 27 0 (ov (bsF M n 4 (!(xor false s))))) 811 0 1) 28 1) (nn_io (p := 4) (by decide))) (Eq.trans (b := sA t 28 1 4) rfl ((hc.2.2.2.2.2 4).2.trans rfl))) ?_
        refine x_istore_n (pc' := 10) (ls' := [_, _, _, _, _, _]) rfl rfl rfl rfl ?_
        refine x_iload_n (pc' := 11) rfl rfl rfl ?_
        refine x_bipush (pc' := 13) rfl rfl ?_
        refine x_icmp (a' := 20) (pc' := 16) (z := true) rfl rfl rfl (by decide) (fun _ => ?_) (fun h => by cases h)
        refine x_iload_n (pc' := 21) rfl rfl rfl ?_
        refine x_bipush (pc' := 23) rfl rfl ?_
        refine x_icmp (a' := 30) (pc' := 26) (z := false) rfl rfl rfl (by decide) (fun h => by cases h) (fun _ => ?_)
        refine x_iconst (pc' := 27) rfl rfl ?_
        refine x_goto (pc' := 39) rfl rfl ?_
        refine x_istore (pc' := 41) (ls' := [_, _, _, _, _, _]) rfl rfl rfl rfl ?_
        refine x_iload (pc' := 43) rfl rfl rfl ?_
        refine x_iload_n (pc' := 44) rfl rfl rfl ?_
        refine x_isub (pc' := 45) (z := 1) rfl rfl (by decide) ?_
        refine x_istore (pc' := 47) (ls' := [_, _, _, _, _, _]) rfl rfl rfl rfl ?_
        refine x_iload (pc' := 49) rfl rfl rfl ?_
        refine x_if (a' := 56) (pc' := 52) (z := true) rfl rfl rfl (by decide) (fun _ => ?_) (fun h => by cases h)
        refine x_iload (pc' := 58) rfl rfl rfl ?_
        refine x_iconst (pc' := 59) rfl rfl ?_
        refine x_icmp (a' := 69) (pc' := 62) (z := true) rfl rfl rfl (by decide) (fun _ => ?_) (fun h => by cases h)
        refine x_iload (pc' := 71) rfl rfl rfl ?_
        refine x_iconst (pc' := 72) rfl rfl ?_
        refine x_icmp (a' := 85) (pc' := 75) (z := true) rfl rfl rfl (by decide) (fun _ => ?_) (fun h => by cases h)
        refine x_iload_n (pc' := 86) rfl rfl rfl ?_
        refine x_bipush (pc' := 88) rfl rfl ?_
        refine x_irem (pc' := 89) (z := 3) rfl rfl (by decide) (by decide +kernel) ?_
        refine x_iconst (pc' := 90) rfl rfl ?_
        refine x_isub (pc' := 91) (z := 2) rfl rfl (by decide) ?_
        refine x_reti rfl rfl ?_
        refine sK_i (pc' := 6) rfl ?_
        refine x_istore_n (pc' := 7) (ls' := [_, _, _, _]) rfl rfl rfl rfl ?_
        refine x_iload_n (pc' := 8) rfl rfl rfl ?_
        refine x_iconst (pc' := 9) rfl rfl ?_
        refine x_icmp (a' := 31) (pc' := 12) (z := false) rfl rfl rfl (by decide) (fun h => by cases h) (fun _ => ?_)
        refine x_iload_n (pc' := 13) rfl rfl rfl ?_
        refine x_iconst (pc' := 14) rfl rfl ?_
        refine x_icmp (a' := 29) (pc' := 17) (z := true) rfl rfl rfl (by decide) (fun _ => ?_) (fun h => by cases h)
        refine x_iconst (pc' := 30) rfl rfl ?_
        refine x_retz (z := false) rfl rfl ?_
        refine sK_i (pc' := 69) rfl ?_
        refine x_iload_n (pc' := 70) rfl rfl rfl ?_
        have J43 : X 159 78 [.inr (.inr (12, (some 0))), .inl 1, .inl (bz s), .inl 1, .inl (bz ((decide ((mA M 0 4) = 2)) && (!((bsF M n 4 (!(xor false s))).isNone)))), .inl 1, .inl 2] [.inl (bz (!(xor false s))), .inl 2, .inr (.inr (12, (some 0))), .inl 1, .inr (.inr (21, (some 27)))] (sIw (sAw (sIw t 811 0 0) 21 27 0 (ov (bsF M n 4 (!(xor false s))))) 811 0 1) Q := by
          refine x_cv (ls0 := [_, _, _, sJk, sJk, sJk]) (rest := [_, _]) rfl rfl rfl rfl rfl ?_
          refine r153 (b := 2) (s := (!(xor false s))) ((rp_Ic rfl).trans ((rp_As rfl).trans ((rp_Ic rfl).trans hM))) (Cn_cp ((cp_I rfl).trans (cp_A.trans (cp_I rfl))) hc) (Fr.ri (Fr.refl _) hR) (show 2 < 5 by decide) (fun b3 => ?_)
          refine sK_i (pc' := 81) rfl ?_
          refine x_iast (pc' := 82) (N := 200) (p := 1) rfl rfl rfl (Eq.trans rdNI (Eq.trans rdNA (Eq.trans rdNI (kN_21_27 hc)))) (io_in (p := 1) (N := 200) (by decide) (by decide)) (nn_io (p := 1) (by decide)) ?_
          refine x_aload_n (pc' := 83) rfl rfl rfl rfl rfl ?_
          refine x_gR (pc' := 86) (r := (some 0)) rfl rfl rfl (Eq.trans (b := sR t 769 0) rfl (kR_769_0 hc)) ?_
          refine x_iload (pc' := 88) rfl rfl rfl ?_
          refine x_iald (pc' := 89) (N := 5) (x := (mA M 0 2)) rfl rfl rfl (Eq.trans rdNA (Eq.trans rdNI (Eq.trans rdNA (Eq.trans rdNI (kN_21_0 hc))))) (io_in (p := 2) (N := 5) (by decide) (by decide)) (Eq.trans (congrArg (sA (sAw (sIw (sAw (sIw t 811 0 0) 21 27 0 (ov (bsF M n 4 (!(xor false s))))) 811 0 1) 21 27 1 (ov (bsF M n 2 (!(xor false s))))) 21 0) (nn_io (p := 2) (by decide))) (Eq.trans (b := sA t 21 0 2) rfl (gA hM rfl))) ?_
          refine x_iconst (pc' := 90) rfl rfl ?_
          have J46 : X 159 111 [.inr (.inr (12, (some 0))), .inl 1, .inl (bz s), .inl 1, .inl (bz ((decide ((mA M 0 4) = 2)) && (!((bsF M n 4 (!(xor false s))).isNone)))), .inl 1, .inl 2] [.inl (bz ((decide ((mA M 0 2) = 2)) && (!((bsF M n 2 (!(xor false s))).isNone))))] (sAw (sIw (sAw (sIw t 811 0 0) 21 27 0 (ov (bsF M n 4 (!(xor false s))))) 811 0 1) 21 27 1 (ov (bsF M n 2 (!(xor false s))))) Q := by
            refine x_istore (pc' := 113) (ls' := [_, _, _, _, _, _, _]) rfl rfl rfl rfl ?_
            refine x_aload_n (pc' := 114) rfl rfl rfl rfl rfl ?_
            refine x_dup (pc' := 115) rfl rfl rfl ?_
            refine x_gI (pc' := 118) (x := 1) rfl rfl rfl (Eq.trans rdIA sI_s) ?_
            refine x_iconst (pc' := 119) rfl rfl ?_
            refine x_iadd (pc' := 120) (z := 2) rfl rfl (by decide) ?_
            refine x_pI (pc' := 123) rfl rfl rfl ?_
            refine x_iinc (pc' := 126) (y := 2) (ls' := [_, _, _, _, _, _, _]) rfl rfl rfl rfl rfl ?_
            refine x_goto (pc' := 25) rfl rfl ?_
            refine x_iload (pc' := 27) rfl rfl rfl ?_
            refine x_iconst (pc' := 28) rfl rfl ?_
            refine x_icmp (a' := 129) (pc' := 31) (z := false) rfl rfl rfl (by decide) (fun h => by cases h) (fun _ => ?_)
            refine x_iload (pc' := 33) rfl rfl rfl ?_
            have J54 : X 159 129 [.inr (.inr (12, (some 0))), .inl 1, .inl (bz s), .inl 1, .inl (bz ((decide ((mA M 0 2) = 2)) && (!((bsF M n 2 (!(xor false s))).isNone)))), .inl (bif ((decide ((mA M 0 2) = 2)) && (!((bsF M n 2 (!(xor false s))).isNone))) then 3 else 2), .inl (bif ((decide ((mA M 0 2) = 2)) && (!((bsF M n 2 (!(xor false s))).isNone))) then (-1) else 2)] [] (sIw (sAw (sIw (sAw (sIw t 811 0 0) 21 27 0 (ov (bsF M n 4 (!(xor false s))))) 811 0 1) 21 27 1 (ov (bsF M n 2 (!(xor false s))))) 811 0 2) Q := by
              refine x_iload (pc' := 131) rfl rfl rfl ?_
              refine x_retz (z := ((decide ((mA M 0 2) = 2)) && (!((bsF M n 2 (!(xor false s))).isNone)))) rfl rfl ?_
              exact qv (congrArg (fun z : Bool => (.inl (some (.inl (bz z))) : sRs)) (Eq.trans (lgF_s q29) lgF_1).symm) (q _ ((rp_Ic rfl).trans ((rp_As rfl).trans ((rp_Ic rfl).trans ((rp_As rfl).trans ((rp_Ic rfl).trans hM))))) ((cp_I rfl).trans (cp_A.trans ((cp_I rfl).trans (cp_A.trans (cp_I rfl))))) (fun L hL => by obtain ⟨l0, z0, h0, j0, rfl⟩ := lgF_i hL; obtain ⟨l1, z1, h1, j1, rfl⟩ := lgF_i h0; cases lgF_nil h1; exact ⟨rfl, ov_io (an_n z0), ov_io (an_n z1), trivial⟩))
            refine x_ifeq_z (a' := 129) (pc' := 36) (z := ((decide ((mA M 0 2) = 2)) && (!((bsF M n 2 (!(xor false s))).isNone)))) rfl rfl rfl (fun q49 => ?_) (fun q49 => ?_)
            · ((try rw [q49] at J54); (try rw [q49]); (try simp only [cd_t, cd_f, nt_t, nt_f, an_t, an_f, or_t, or_f] at J54); (try simp only [cd_t, cd_f, nt_t, nt_f, an_t, an_f, or_t, or_f]); exact J54)
            · refine x_iload_n (pc' := 37) rfl rfl rfl ?_
              refine x_iload_n (pc' := 38) rfl rfl rfl ?_
              refine x_iload (pc' := 40) rfl rfl rfl ?_
              refine x_cs (ls0 := [_, _, _, sJk, sJk, sJk]) (rest := []) rfl rfl rfl rfl ?_
              refine x_getstatic (pc' := 3) rfl rfl (show 1 < sC t 28 from gst1 hc) ?_
              refine x_iconst (pc' := 4) rfl rfl ?_
              refine x_iload_n (pc' := 5) rfl rfl rfl ?_
              refine x_imul (pc' := 6) (z := 3) rfl rfl (by decide) ?_
              refine x_iload_n (pc' := 7) rfl rfl rfl ?_
              refine x_iadd (pc' := 8) (z := 4) rfl rfl (by decide) ?_
              refine x_iald (pc' := 9) (N := 15) (x := 53) rfl rfl rfl (Eq.trans rdNI (Eq.trans rdNA (Eq.trans rdNI (Eq.trans rdNA (Eq.trans rdNI (kN_28_1 hc)))))) (io_in (p := 4) (N := 15) (by decide) (by decide)) (Eq.trans (congrArg (sA (sIw (sAw (sIw (sAw (sIw t 811 0 0) 21 27 0 (ov (bsF M n 4 (!(xor false s))))) 811 0 1) 21 27 1 (ov (bsF M n 2 (!(xor false s))))) 811 0 2) 28 1) (nn_io (p := 4) (by decide))) (Eq.trans (b := sA t 28 1 4) rfl ((hc.2.2.2.2.2 4).2.trans rfl))) ?_
              refine x_istore_n (pc' := 10) (ls' := [_, _, _, _, _, _]) rfl rfl rfl rfl ?_
              refine x_iload_n (pc' := 11) rfl rfl rfl ?_
              refine x_bipush (pc' := 13) rfl rfl ?_
              refine x_icmp (a' := 20) (pc' := 16) (z := true) rfl rfl rfl (by decide) (fun _ => ?_) (fun h => by cases h)
              refine x_iload_n (pc' := 21) rfl rfl rfl ?_
              refine x_bipush (pc' := 23) rfl rfl ?_
              refine x_icmp (a' := 30) (pc' := 26) (z := false) rfl rfl rfl (by decide) (fun h => by cases h) (fun _ => ?_)
              refine x_iconst (pc' := 27) rfl rfl ?_
              refine x_goto (pc' := 39) rfl rfl ?_
              refine x_istore (pc' := 41) (ls' := [_, _, _, _, _, _]) rfl rfl rfl rfl ?_
              refine x_iload (pc' := 43) rfl rfl rfl ?_
              refine x_iload_n (pc' := 44) rfl rfl rfl ?_
              refine x_isub (pc' := 45) (z := 0) rfl rfl (by decide) ?_
              refine x_istore (pc' := 47) (ls' := [_, _, _, _, _, _]) rfl rfl rfl rfl ?_
              refine x_iload (pc' := 49) rfl rfl rfl ?_
              refine x_if (a' := 56) (pc' := 52) (z := false) rfl rfl rfl (by decide) (fun h => by cases h) (fun _ => ?_)
              refine x_iconst (pc' := 53) rfl rfl ?_
              refine x_goto (pc' := 91) rfl rfl ?_
              refine x_reti rfl rfl ?_
              refine sK_i (pc' := 43) rfl ?_
              refine x_istore (pc' := 45) (ls' := [_, _, _, _, _, _, _]) rfl rfl rfl rfl ?_
              refine x_iload (pc' := 47) rfl rfl rfl ?_
              refine x_iconst (pc' := 48) rfl rfl ?_
              refine x_icmp (a' := 123) (pc' := 51) (z := true) rfl rfl rfl (by decide) (fun _ => ?_) (fun h => by cases h)
              refine x_iinc (pc' := 126) (y := 3) (ls' := [_, _, _, _, _, _, _]) rfl rfl rfl rfl rfl ?_
              refine x_goto (pc' := 25) rfl rfl ?_
              refine x_iload (pc' := 27) rfl rfl rfl ?_
              refine x_iconst (pc' := 28) rfl rfl ?_
              refine x_icmp (a' := 129) (pc' := 31) (z := true) rfl rfl rfl (by decide) (fun _ => ?_) (fun h => by cases h)
              ((try rw [q49] at J54); (try rw [q49]); (try simp only [cd_t, cd_f, nt_t, nt_f, an_t, an_f, or_t, or_f] at J54); (try simp only [cd_t, cd_f, nt_t, nt_f, an_t, an_f, or_t, or_f]); exact J54)
          refine x_icmp_n (a' := 110) (pc' := 93) (z := decide ((mA M 0 2) = 2)) rfl rfl rfl (ik_ne _ _) (fun q45 => ?_) (fun q45 => ?_)
          · refine x_iconst (pc' := 111) rfl rfl ?_
            ((try rw [q45] at J46); (try rw [q45]); (try simp only [cd_t, cd_f, nt_t, nt_f, an_t, an_f, or_t, or_f] at J46); (try simp only [cd_t, cd_f, nt_t, nt_f, an_t, an_f, or_t, or_f]); exact J46)
          · refine x_aload_n (pc' := 94) rfl rfl rfl rfl rfl ?_
            refine x_gR (pc' := 97) (r := (some 27)) rfl rfl rfl (Eq.trans (b := sR t 809 0) rfl (kR_809_0 hc)) ?_
            refine x_aload_n (pc' := 98) rfl rfl rfl rfl rfl ?_
            refine x_gI (pc' := 101) (x := 1) rfl rfl rfl (Eq.trans rdIA sI_s) ?_
            refine x_iald (pc' := 102) (N := 200) (x := (ov (bsF M n 2 (!(xor false s))))) rfl rfl rfl (Eq.trans rdNA (Eq.trans rdNI (Eq.trans rdNA (Eq.trans rdNI (kN_21_27 hc))))) (io_in (p := 1) (N := 200) (by decide) (by decide)) (Eq.trans (congrArg (sA (sAw (sIw (sAw (sIw t 811 0 0) 21 27 0 (ov (bsF M n 4 (!(xor false s))))) 811 0 1) 21 27 1 (ov (bsF M n 2 (!(xor false s))))) 21 27) (nn_io (p := 1) (by decide))) sA_s) ?_
            refine x_iconst (pc' := 103) rfl rfl ?_
            refine x_icmp (a' := 110) (pc' := 106) (z := (bsF M n 2 (!(xor false s))).isNone) rfl rfl rfl (ov_eq (ov_31 (N := n) b3 (Nat.le_of_lt (gn31 hR)))) (fun q46 => ?_) (fun q46 => ?_)
            · refine x_iconst (pc' := 111) rfl rfl ?_
              ((try rw [q46] at J46); (try rw [q46]); (try rw [q45] at J46); (try rw [q45]); (try simp only [cd_t, cd_f, nt_t, nt_f, an_t, an_f, or_t, or_f] at J46); (try simp only [cd_t, cd_f, nt_t, nt_f, an_t, an_f, or_t, or_f]); exact J46)
            · refine x_iconst (pc' := 107) rfl rfl ?_
              refine x_goto (pc' := 111) rfl rfl ?_
              ((try rw [q46] at J46); (try rw [q46]); (try rw [q45] at J46); (try rw [q45]); (try simp only [cd_t, cd_f, nt_t, nt_f, an_t, an_f, or_t, or_f] at J46); (try simp only [cd_t, cd_f, nt_t, nt_f, an_t, an_f, or_t, or_f]); exact J46)
        refine x_icmp (a' := 77) (pc' := 73) (z := (xor false s)) rfl rfl rfl (bz_neb _ _) (fun q43 => ?_) (fun q43 => ?_)
        · refine x_iconst (pc' := 78) rfl rfl ?_
          ((try rw [q43] at J43); (try rw [q43]); (try simp only [cd_t, cd_f, nt_t, nt_f, an_t, an_f, or_t, or_f] at J43); (try simp only [cd_t, cd_f, nt_t, nt_f, an_t, an_f, or_t, or_f]); exact J43)
        · refine x_iconst (pc' := 74) rfl rfl ?_
          refine x_goto (pc' := 78) rfl rfl ?_
          ((try rw [q43] at J43); (try rw [q43]); (try simp only [cd_t, cd_f, nt_t, nt_f, an_t, an_f, or_t, or_f] at J43); (try simp only [cd_t, cd_f, nt_t, nt_f, an_t, an_f, or_t, or_f]); exact J43)
    refine x_icmp_n (a' := 110) (pc' := 93) (z := decide ((mA M 0 4) = 2)) rfl rfl rfl (ik_ne _ _) (fun q25 => ?_) (fun q25 => ?_)
    · refine x_iconst (pc' := 111) rfl rfl ?_
      ((try rw [q25] at J26); (try rw [q25]); (try simp only [cd_t, cd_f, nt_t, nt_f, an_t, an_f, or_t, or_f] at J26); (try simp only [cd_t, cd_f, nt_t, nt_f, an_t, an_f, or_t, or_f]); exact J26)
    · refine x_aload_n (pc' := 94) rfl rfl rfl rfl rfl ?_
      refine x_gR (pc' := 97) (r := (some 27)) rfl rfl rfl (Eq.trans (b := sR t 809 0) rfl (kR_809_0 hc)) ?_
      refine x_aload_n (pc' := 98) rfl rfl rfl rfl rfl ?_
      refine x_gI (pc' := 101) (x := 0) rfl rfl rfl (Eq.trans rdIA sI_s) ?_
      refine x_iald (pc' := 102) (N := 200) (x := (ov (bsF M n 4 (!(xor false s))))) rfl rfl rfl (Eq.trans rdNA (Eq.trans rdNI (kN_21_27 hc))) (io_in (p := 0) (N := 200) (by decide) (by decide)) (Eq.trans (congrArg (sA (sAw (sIw t 811 0 0) 21 27 0 (ov (bsF M n 4 (!(xor false s))))) 21 27) (nn_io (p := 0) (by decide))) sA_s) ?_
      refine x_iconst (pc' := 103) rfl rfl ?_
      refine x_icmp (a' := 110) (pc' := 106) (z := (bsF M n 4 (!(xor false s))).isNone) rfl rfl rfl (ov_eq (ov_31 (N := n) b1 (Nat.le_of_lt (gn31 hR)))) (fun q26 => ?_) (fun q26 => ?_)
      · refine x_iconst (pc' := 111) rfl rfl ?_
        ((try rw [q26] at J26); (try rw [q26]); (try rw [q25] at J26); (try rw [q25]); (try simp only [cd_t, cd_f, nt_t, nt_f, an_t, an_f, or_t, or_f] at J26); (try simp only [cd_t, cd_f, nt_t, nt_f, an_t, an_f, or_t, or_f]); exact J26)
      · refine x_iconst (pc' := 107) rfl rfl ?_
        refine x_goto (pc' := 111) rfl rfl ?_
        ((try rw [q26] at J26); (try rw [q26]); (try rw [q25] at J26); (try rw [q25]); (try simp only [cd_t, cd_f, nt_t, nt_f, an_t, an_f, or_t, or_f] at J26); (try simp only [cd_t, cd_f, nt_t, nt_f, an_t, an_f, or_t, or_f]); exact J26)
  refine x_icmp (a' := 77) (pc' := 73) (z := (xor false s)) rfl rfl rfl (bz_neb _ _) (fun q23 => ?_) (fun q23 => ?_)
  · refine x_iconst (pc' := 78) rfl rfl ?_
    ((try rw [q23] at J23); (try rw [q23]); (try simp only [cd_t, cd_f, nt_t, nt_f, an_t, an_f, or_t, or_f] at J23); (try simp only [cd_t, cd_f, nt_t, nt_f, an_t, an_f, or_t, or_f]); exact J23)
  · refine x_iconst (pc' := 74) rfl rfl ?_
    refine x_goto (pc' := 78) rfl rfl ?_
    ((try rw [q23] at J23); (try rw [q23]); (try simp only [cd_t, cd_f, nt_t, nt_f, an_t, an_f, or_t, or_f] at J23); (try simp only [cd_t, cd_f, nt_t, nt_f, an_t, an_f, or_t, or_f]); exact J23)
set_option maxHeartbeats 4000000 in
set_option maxRecDepth 10000 in
theorem r160_11 {t : sT} {Q : sRs → sT → Prop} {M : sM} {n : Nat} {o0 o1 : Nat}
    (hM : rp t = M)
    (hc : Cn t)
    (hR : Ri M n)
    (ho0 : o0 < n)
    (ho1 : o1 < n)
    (hq : sI t 811 0 = 2)
    (hk0 : sA t 21 27 0 = io o0)
    (hk1 : sA t 21 27 1 = io o1)
    (q : Q (.inl (some (.inl (prF M 1 1 [o0, o1])))) t) :
    X 160 0 [.inr (.inr (12, (some 0))), .inl 1, .inl 1, sJk, sJk] [] t Q := by
  refine x_iload_n (pc' := 1) rfl rfl rfl ?_
  refine x_iconst (pc' := 2) rfl rfl ?_
  refine x_icmp (a' := 34) (pc' := 5) (z := true) rfl rfl rfl (by decide) (fun _ => ?_) (fun h => by cases h)
  refine x_iconst (pc' := 35) rfl rfl ?_
  refine x_istore_n (pc' := 36) (ls' := [_, _, _, _, _]) rfl rfl rfl rfl ?_
  refine x_iconst (pc' := 37) rfl rfl ?_
  refine x_istore (pc' := 39) (ls' := [_, _, _, _, _]) rfl rfl rfl rfl ?_
  refine x_iload (pc' := 41) rfl rfl rfl ?_
  refine x_aload_n (pc' := 42) rfl rfl rfl rfl rfl ?_
  refine x_gI (pc' := 45) (x := 2) rfl rfl rfl hq ?_
  refine x_icmp (a' := 95) (pc' := 48) (z := false) rfl rfl rfl (by decide) (fun h => by cases h) (fun _ => ?_)
  refine x_iload_n (pc' := 49) rfl rfl rfl ?_
  refine x_iload_n (pc' := 50) rfl rfl rfl ?_
  refine x_iload_n (pc' := 51) rfl rfl rfl ?_
  refine x_iload (pc' := 53) rfl rfl rfl ?_
  refine x_cs (ls0 := [_, _, _, sJk]) (rest := [_]) rfl rfl rfl rfl ?_
  refine x_iload_n (pc' := 1) rfl rfl rfl ?_
  refine x_iload_n (pc' := 2) rfl rfl rfl ?_
  refine x_iload_n (pc' := 3) rfl rfl rfl ?_
  refine x_cs (ls0 := [_, _, _, sJk, sJk, sJk]) (rest := []) rfl rfl rfl rfl ?_
  refine x_getstatic (pc' := 3) rfl rfl (show 1 < sC t 28 from gst1 hc) ?_
  refine x_iconst (pc' := 4) rfl rfl ?_
  refine x_iload_n (pc' := 5) rfl rfl rfl ?_
  refine x_imul (pc' := 6) (z := 3) rfl rfl (by decide) ?_
  refine x_iload_n (pc' := 7) rfl rfl rfl ?_
  refine x_iadd (pc' := 8) (z := 4) rfl rfl (by decide) ?_
  refine x_iald (pc' := 9) (N := 15) (x := 53) rfl rfl rfl (kN_28_1 hc) (io_in (p := 4) (N := 15) (by decide) (by decide)) (Eq.trans (congrArg (sA t 28 1) (nn_io (p := 4) (by decide))) ((hc.2.2.2.2.2 4).2.trans rfl)) ?_
  refine x_istore_n (pc' := 10) (ls' := [_, _, _, _, _, _]) rfl rfl rfl rfl ?_
  refine x_iload_n (pc' := 11) rfl rfl rfl ?_
  refine x_bipush (pc' := 13) rfl rfl ?_
  refine x_icmp (a' := 20) (pc' := 16) (z := true) rfl rfl rfl (by decide) (fun _ => ?_) (fun h => by cases h)
  refine x_iload_n (pc' := 21) rfl rfl rfl ?_
  refine x_bipush (pc' := 23) rfl rfl ?_
  refine x_icmp (a' := 30) (pc' := 26) (z := false) rfl rfl rfl (by decide) (fun h => by cases h) (fun _ => ?_)
  refine x_iconst (pc' := 27) rfl rfl ?_
  refine x_goto (pc' := 39) rfl rfl ?_
  refine x_istore (pc' := 41) (ls' := [_, _, _, _, _, _]) rfl rfl rfl rfl ?_
  refine x_iload (pc' := 43) rfl rfl rfl ?_
  refine x_iload_n (pc' := 44) rfl rfl rfl ?_
  refine x_isub (pc' := 45) (z := 2) rfl rfl (by decide) ?_
  refine x_istore (pc' := 47) (ls' := [_, _, _, _, _, _]) rfl rfl rfl rfl ?_
  refine x_iload (pc' := 49) rfl rfl rfl ?_
  refine x_if (a' := 56) (pc' := 52) (z := true) rfl rfl rfl (by decide) (fun _ => ?_) (fun h => by cases h)
  refine x_iload (pc' := 58) rfl rfl rfl ?_
  refine x_iconst (pc' := 59) rfl rfl ?_
  refine x_icmp (a' := 69) (pc' := 62) (z := true) rfl rfl rfl (by decide) (fun _ => ?_) (fun h => by cases h)
  refine x_iload (pc' := 71) rfl rfl rfl ?_
  refine x_iconst (pc' := 72) rfl rfl ?_
  refine x_icmp (a' := 85) (pc' := 75) (z := false) rfl rfl rfl (by decide) (fun h => by cases h) (fun _ => ?_)
  refine x_iload_n (pc' := 76) rfl rfl rfl ?_
  refine x_bipush (pc' := 78) rfl rfl ?_
  refine x_idiv (pc' := 79) (z := 5) rfl rfl (by decide) (by decide +kernel) ?_
  refine x_bipush (pc' := 81) rfl rfl ?_
  refine x_irem (pc' := 82) (z := 5) rfl rfl (by decide) (by decide +kernel) ?_
  refine x_goto (pc' := 89) rfl rfl ?_
  refine x_iconst (pc' := 90) rfl rfl ?_
  refine x_isub (pc' := 91) (z := 4) rfl rfl (by decide) ?_
  refine x_reti rfl rfl ?_
  refine sK_i (pc' := 6) rfl ?_
  refine x_istore_n (pc' := 7) (ls' := [_, _, _, _]) rfl rfl rfl rfl ?_
  refine x_iload_n (pc' := 8) rfl rfl rfl ?_
  refine x_iconst (pc' := 9) rfl rfl ?_
  refine x_icmp (a' := 31) (pc' := 12) (z := false) rfl rfl rfl (by decide) (fun h => by cases h) (fun _ => ?_)
  refine x_iload_n (pc' := 13) rfl rfl rfl ?_
  refine x_iconst (pc' := 14) rfl rfl ?_
  refine x_icmp (a' := 29) (pc' := 17) (z := false) rfl rfl rfl (by decide) (fun h => by cases h) (fun _ => ?_)
  refine x_iload_n (pc' := 18) rfl rfl rfl ?_
  refine x_cs (ls0 := [_]) (rest := []) rfl rfl rfl rfl ?_
  refine x_iload_n (pc' := 1) rfl rfl rfl ?_
  refine x_iconst (pc' := 2) rfl rfl ?_
  refine x_isub (pc' := 3) (z := 1) rfl rfl (by decide) ?_
  refine x_reti rfl rfl ?_
  refine sK_i (pc' := 21) rfl ?_
  refine x_iload_n (pc' := 22) rfl rfl rfl ?_
  refine x_icmp (a' := 29) (pc' := 25) (z := true) rfl rfl rfl (by decide) (fun _ => ?_) (fun h => by cases h)
  refine x_iconst (pc' := 30) rfl rfl ?_
  refine x_retz (z := false) rfl rfl ?_
  refine sK_i (pc' := 56) rfl ?_
  refine x_if (a' := 75) (pc' := 59) (z := true) rfl rfl rfl (by decide) (fun _ => ?_) (fun h => by cases h)
  refine x_aload_n (pc' := 76) rfl rfl rfl rfl rfl ?_
  refine x_gR (pc' := 79) (r := (some 14)) rfl rfl rfl (kR_790_0 hc) ?_
  refine x_aload_n (pc' := 80) rfl rfl rfl rfl rfl ?_
  refine x_gR (pc' := 83) (r := (some 27)) rfl rfl rfl (kR_809_0 hc) ?_
  refine x_iload (pc' := 85) rfl rfl rfl ?_
  refine x_iald (pc' := 86) (N := 200) (x := (io o0)) rfl rfl rfl (kN_21_27 hc) (io_in (p := 0) (N := 200) (by decide) (by decide)) (Eq.trans (congrArg (sA t 21 27) (nn_io (p := 0) (by decide))) hk0) ?_
  refine x_iald (pc' := 87) (N := 200) (x := (mA M 14 o0)) rfl rfl rfl (kN_21_14 hc) (io_in (p := o0) (N := 200) (Nat.lt_of_lt_of_le ho0 (gn200 hR)) (by decide)) (Eq.trans (congrArg (sA t 21 14) (nn_io (p := o0) (Nat.lt_trans (Nat.lt_of_lt_of_le ho0 (gn200 hR)) (by decide)))) (gF14 hM (Fr.refl _))) ?_
  refine x_iadd (pc' := 88) (z := (0 + (mA M 14 o0))) rfl rfl rfl ?_
  refine x_istore_n (pc' := 89) (ls' := [_, _, _, _, _]) rfl rfl rfl rfl ?_
  refine x_iinc (pc' := 92) (y := 1) (ls' := [_, _, _, _, _]) rfl rfl rfl rfl rfl ?_
  refine x_goto (pc' := 39) rfl rfl ?_
  refine x_iload (pc' := 41) rfl rfl rfl ?_
  refine x_aload_n (pc' := 42) rfl rfl rfl rfl rfl ?_
  refine x_gI (pc' := 45) (x := 2) rfl rfl rfl hq ?_
  refine x_icmp (a' := 95) (pc' := 48) (z := false) rfl rfl rfl (by decide) (fun h => by cases h) (fun _ => ?_)
  refine x_iload_n (pc' := 49) rfl rfl rfl ?_
  refine x_iload_n (pc' := 50) rfl rfl rfl ?_
  refine x_iload_n (pc' := 51) rfl rfl rfl ?_
  refine x_iload (pc' := 53) rfl rfl rfl ?_
  refine x_cs (ls0 := [_, _, _, sJk]) (rest := [_]) rfl rfl rfl rfl ?_
  refine x_iload_n (pc' := 1) rfl rfl rfl ?_
  refine x_iload_n (pc' := 2) rfl rfl rfl ?_
  refine x_iload_n (pc' := 3) rfl rfl rfl ?_
  refine x_cs (ls0 := [_, _, _, sJk, sJk, sJk]) (rest := []) rfl rfl rfl rfl ?_
  refine x_getstatic (pc' := 3) rfl rfl (show 1 < sC t 28 from gst1 hc) ?_
  refine x_iconst (pc' := 4) rfl rfl ?_
  refine x_iload_n (pc' := 5) rfl rfl rfl ?_
  refine x_imul (pc' := 6) (z := 3) rfl rfl (by decide) ?_
  refine x_iload_n (pc' := 7) rfl rfl rfl ?_
  refine x_iadd (pc' := 8) (z := 4) rfl rfl (by decide) ?_
  refine x_iald (pc' := 9) (N := 15) (x := 53) rfl rfl rfl (kN_28_1 hc) (io_in (p := 4) (N := 15) (by decide) (by decide)) (Eq.trans (congrArg (sA t 28 1) (nn_io (p := 4) (by decide))) ((hc.2.2.2.2.2 4).2.trans rfl)) ?_
  refine x_istore_n (pc' := 10) (ls' := [_, _, _, _, _, _]) rfl rfl rfl rfl ?_
  refine x_iload_n (pc' := 11) rfl rfl rfl ?_
  refine x_bipush (pc' := 13) rfl rfl ?_
  refine x_icmp (a' := 20) (pc' := 16) (z := true) rfl rfl rfl (by decide) (fun _ => ?_) (fun h => by cases h)
  refine x_iload_n (pc' := 21) rfl rfl rfl ?_
  refine x_bipush (pc' := 23) rfl rfl ?_
  refine x_icmp (a' := 30) (pc' := 26) (z := false) rfl rfl rfl (by decide) (fun h => by cases h) (fun _ => ?_)
  refine x_iconst (pc' := 27) rfl rfl ?_
  refine x_goto (pc' := 39) rfl rfl ?_
  refine x_istore (pc' := 41) (ls' := [_, _, _, _, _, _]) rfl rfl rfl rfl ?_
  refine x_iload (pc' := 43) rfl rfl rfl ?_
  refine x_iload_n (pc' := 44) rfl rfl rfl ?_
  refine x_isub (pc' := 45) (z := 1) rfl rfl (by decide) ?_
  refine x_istore (pc' := 47) (ls' := [_, _, _, _, _, _]) rfl rfl rfl rfl ?_
  refine x_iload (pc' := 49) rfl rfl rfl ?_
  refine x_if (a' := 56) (pc' := 52) (z := true) rfl rfl rfl (by decide) (fun _ => ?_) (fun h => by cases h)
  refine x_iload (pc' := 58) rfl rfl rfl ?_
  refine x_iconst (pc' := 59) rfl rfl ?_
  refine x_icmp (a' := 69) (pc' := 62) (z := true) rfl rfl rfl (by decide) (fun _ => ?_) (fun h => by cases h)
  refine x_iload (pc' := 71) rfl rfl rfl ?_
  refine x_iconst (pc' := 72) rfl rfl ?_
  refine x_icmp (a' := 85) (pc' := 75) (z := true) rfl rfl rfl (by decide) (fun _ => ?_) (fun h => by cases h)
  refine x_iload_n (pc' := 86) rfl rfl rfl ?_
  refine x_bipush (pc' := 88) rfl rfl ?_
  refine x_irem (pc' := 89) (z := 3) rfl rfl (by decide) (by decide +kernel) ?_
  refine x_iconst (pc' := 90) rfl rfl ?_
  refine x_isub (pc' := 91) (z := 2) rfl rfl (by decide) ?_
  refine x_reti rfl rfl ?_
  refine sK_i (pc' := 6) rfl ?_
  refine x_istore_n (pc' := 7) (ls' := [_, _, _, _]) rfl rfl rfl rfl ?_
  refine x_iload_n (pc' := 8) rfl rfl rfl ?_
  refine x_iconst (pc' := 9) rfl rfl ?_
  refine x_icmp (a' := 31) (pc' := 12) (z := false) rfl rfl rfl (by decide) (fun h => by cases h) (fun _ => ?_)
  refine x_iload_n (pc' := 13) rfl rfl rfl ?_
  refine x_iconst (pc' := 14) rfl rfl ?_
  refine x_icmp (a' := 29) (pc' := 17) (z := true) rfl rfl rfl (by decide) (fun _ => ?_) (fun h => by cases h)
  refine x_iconst (pc' := 30) rfl rfl ?_
  refine x_retz (z := false) rfl rfl ?_
  refine sK_i (pc' := 56) rfl ?_
  refine x_if (a' := 75) (pc' := 59) (z := true) rfl rfl rfl (by decide) (fun _ => ?_) (fun h => by cases h)
  refine x_aload_n (pc' := 76) rfl rfl rfl rfl rfl ?_
  refine x_gR (pc' := 79) (r := (some 14)) rfl rfl rfl (kR_790_0 hc) ?_
  refine x_aload_n (pc' := 80) rfl rfl rfl rfl rfl ?_
  refine x_gR (pc' := 83) (r := (some 27)) rfl rfl rfl (kR_809_0 hc) ?_
  refine x_iload (pc' := 85) rfl rfl rfl ?_
  refine x_iald (pc' := 86) (N := 200) (x := (io o1)) rfl rfl rfl (kN_21_27 hc) (io_in (p := 1) (N := 200) (by decide) (by decide)) (Eq.trans (congrArg (sA t 21 27) (nn_io (p := 1) (by decide))) hk1) ?_
  refine x_iald (pc' := 87) (N := 200) (x := (mA M 14 o1)) rfl rfl rfl (kN_21_14 hc) (io_in (p := o1) (N := 200) (Nat.lt_of_lt_of_le ho1 (gn200 hR)) (by decide)) (Eq.trans (congrArg (sA t 21 14) (nn_io (p := o1) (Nat.lt_trans (Nat.lt_of_lt_of_le ho1 (gn200 hR)) (by decide)))) (gF14 hM (Fr.refl _))) ?_
  refine x_iadd (pc' := 88) (z := ((0 + (mA M 14 o0)) + (mA M 14 o1))) rfl rfl rfl ?_
  refine x_istore_n (pc' := 89) (ls' := [_, _, _, _, _]) rfl rfl rfl rfl ?_
  refine x_iinc (pc' := 92) (y := 2) (ls' := [_, _, _, _, _]) rfl rfl rfl rfl rfl ?_
  refine x_goto (pc' := 39) rfl rfl ?_
  refine x_iload (pc' := 41) rfl rfl rfl ?_
  refine x_aload_n (pc' := 42) rfl rfl rfl rfl rfl ?_
  refine x_gI (pc' := 45) (x := 2) rfl rfl rfl hq ?_
  refine x_icmp (a' := 95) (pc' := 48) (z := true) rfl rfl rfl (by decide) (fun _ => ?_) (fun h => by cases h)
  refine x_iload_n (pc' := 96) rfl rfl rfl ?_
  refine x_reti rfl rfl ?_
  exact q
-- ((0 + (mA M 14 o0)) + (mA M 14 o1))
set_option maxHeartbeats 4000000 in
set_option maxRecDepth 10000 in
theorem r159_12 {t : sT} {Q : sRs → sT → Prop} {M : sM} {n : Nat} {s : Bool} (hM : rp t = M) (hc : Cn t) (hR : Ri M n)
    (q : ∀ t', rp t' = M → cp t' = cp t → (∀ L, lgO M n 1 s 2 = some L → Tk t' L) → Q (.inl (some (.inl (bz (lgO M n 1 s 2).isSome)))) t') :
    X 159 0 [.inr (.inr (12, (some 0))), .inl 1, .inl (bz s), .inl 2, sJk, sJk, sJk] [] t Q := by
  refine x_iload_n (pc' := 1) rfl rfl rfl ?_
  refine x_iload_n (pc' := 2) rfl rfl rfl ?_
  refine x_iconst (pc' := 3) rfl rfl ?_
  refine x_cs (ls0 := [_, _, _, sJk, sJk, sJk]) (rest := []) rfl rfl rfl rfl ?_
  refine x_getstatic (pc' := 3) rfl rfl (show 1 < sC t 28 from gst1 hc) ?_
  refine x_iconst (pc' := 4) rfl rfl ?_
  refine x_iload_n (pc' := 5) rfl rfl rfl ?_
  refine x_imul (pc' := 6) (z := 3) rfl rfl (by decide) ?_
  refine x_iload_n (pc' := 7) rfl rfl rfl ?_
  refine x_iadd (pc' := 8) (z := 5) rfl rfl (by decide) ?_
  refine x_iald (pc' := 9) (N := 15) (x := 41) rfl rfl rfl (kN_28_1 hc) (io_in (p := 5) (N := 15) (by decide) (by decide)) (Eq.trans (congrArg (sA t 28 1) (nn_io (p := 5) (by decide))) ((hc.2.2.2.2.2 5).2.trans rfl)) ?_
  refine x_istore_n (pc' := 10) (ls' := [_, _, _, _, _, _]) rfl rfl rfl rfl ?_
  refine x_iload_n (pc' := 11) rfl rfl rfl ?_
  refine x_bipush (pc' := 13) rfl rfl ?_
  refine x_icmp (a' := 20) (pc' := 16) (z := true) rfl rfl rfl (by decide) (fun _ => ?_) (fun h => by cases h)
  refine x_iload_n (pc' := 21) rfl rfl rfl ?_
  refine x_bipush (pc' := 23) rfl rfl ?_
  refine x_icmp (a' := 30) (pc' := 26) (z := false) rfl rfl rfl (by decide) (fun h => by cases h) (fun _ => ?_)
  refine x_iconst (pc' := 27) rfl rfl ?_
  refine x_goto (pc' := 39) rfl rfl ?_
  refine x_istore (pc' := 41) (ls' := [_, _, _, _, _, _]) rfl rfl rfl rfl ?_
  refine x_iload (pc' := 43) rfl rfl rfl ?_
  refine x_iload_n (pc' := 44) rfl rfl rfl ?_
  refine x_isub (pc' := 45) (z := 2) rfl rfl (by decide) ?_
  refine x_istore (pc' := 47) (ls' := [_, _, _, _, _, _]) rfl rfl rfl rfl ?_
  refine x_iload (pc' := 49) rfl rfl rfl ?_
  refine x_if (a' := 56) (pc' := 52) (z := true) rfl rfl rfl (by decide) (fun _ => ?_) (fun h => by cases h)
  refine x_iload (pc' := 58) rfl rfl rfl ?_
  refine x_iconst (pc' := 59) rfl rfl ?_
  refine x_icmp (a' := 69) (pc' := 62) (z := true) rfl rfl rfl (by decide) (fun _ => ?_) (fun h => by cases h)
  refine x_iload (pc' := 71) rfl rfl rfl ?_
  refine x_iconst (pc' := 72) rfl rfl ?_
  refine x_icmp (a' := 85) (pc' := 75) (z := false) rfl rfl rfl (by decide) (fun h => by cases h) (fun _ => ?_)
  refine x_iload_n (pc' := 76) rfl rfl rfl ?_
  refine x_bipush (pc' := 78) rfl rfl ?_
  refine x_idiv (pc' := 79) (z := 4) rfl rfl (by decide) (by decide +kernel) ?_
  refine x_bipush (pc' := 81) rfl rfl ?_
  refine x_irem (pc' := 82) (z := 4) rfl rfl (by decide) (by decide +kernel) ?_
  refine x_goto (pc' := 89) rfl rfl ?_
  refine x_iconst (pc' := 90) rfl rfl ?_
  refine x_isub (pc' := 91) (z := 3) rfl rfl (by decide) ?_
  refine x_reti rfl rfl ?_
  refine sK_i (pc' := 6) rfl ?_
  refine x_iconst (pc' := 7) rfl rfl ?_
  refine x_icmp (a' := 14) (pc' := 10) (z := false) rfl rfl rfl (by decide) (fun h => by cases h) (fun _ => ?_)
  refine x_iconst (pc' := 11) rfl rfl ?_
  refine x_goto (pc' := 15) rfl rfl ?_
  refine x_istore (pc' := 17) (ls' := [_, _, _, _, _, _, _]) rfl rfl rfl rfl ?_
  refine x_aload_n (pc' := 18) rfl rfl rfl rfl rfl ?_
  refine x_iconst (pc' := 19) rfl rfl ?_
  refine x_pI (pc' := 22) rfl rfl rfl ?_
  refine x_iconst (pc' := 23) rfl rfl ?_
  refine x_istore (pc' := 25) (ls' := [_, _, _, _, _, _, _]) rfl rfl rfl rfl ?_
  refine x_iload (pc' := 27) rfl rfl rfl ?_
  refine x_iconst (pc' := 28) rfl rfl ?_
  refine x_icmp (a' := 129) (pc' := 31) (z := false) rfl rfl rfl (by decide) (fun h => by cases h) (fun _ => ?_)
  refine x_iload (pc' := 33) rfl rfl rfl ?_
  refine x_if (a' := 129) (pc' := 36) (z := false) rfl rfl rfl (by decide) (fun h => by cases h) (fun _ => ?_)
  refine x_iload_n (pc' := 37) rfl rfl rfl ?_
  refine x_iload_n (pc' := 38) rfl rfl rfl ?_
  refine x_iload (pc' := 40) rfl rfl rfl ?_
  refine x_cs (ls0 := [_, _, _, sJk, sJk, sJk]) (rest := []) rfl rfl rfl rfl ?_
  refine x_getstatic (pc' := 3) rfl rfl (show 1 < sC t 28 from gst1 hc) ?_
  refine x_iconst (pc' := 4) rfl rfl ?_
  refine x_iload_n (pc' := 5) rfl rfl rfl ?_
  refine x_imul (pc' := 6) (z := 3) rfl rfl (by decide) ?_
  refine x_iload_n (pc' := 7) rfl rfl rfl ?_
  refine x_iadd (pc' := 8) (z := 5) rfl rfl (by decide) ?_
  refine x_iald (pc' := 9) (N := 15) (x := 41) rfl rfl rfl (Eq.trans rdNI (kN_28_1 hc)) (io_in (p := 5) (N := 15) (by decide) (by decide)) (Eq.trans (congrArg (sA (sIw t 811 0 0) 28 1) (nn_io (p := 5) (by decide))) (Eq.trans (b := sA t 28 1 5) rfl ((hc.2.2.2.2.2 5).2.trans rfl))) ?_
  refine x_istore_n (pc' := 10) (ls' := [_, _, _, _, _, _]) rfl rfl rfl rfl ?_
  refine x_iload_n (pc' := 11) rfl rfl rfl ?_
  refine x_bipush (pc' := 13) rfl rfl ?_
  refine x_icmp (a' := 20) (pc' := 16) (z := true) rfl rfl rfl (by decide) (fun _ => ?_) (fun h => by cases h)
  refine x_iload_n (pc' := 21) rfl rfl rfl ?_
  refine x_bipush (pc' := 23) rfl rfl ?_
  refine x_icmp (a' := 30) (pc' := 26) (z := false) rfl rfl rfl (by decide) (fun h => by cases h) (fun _ => ?_)
  refine x_iconst (pc' := 27) rfl rfl ?_
  refine x_goto (pc' := 39) rfl rfl ?_
  refine x_istore (pc' := 41) (ls' := [_, _, _, _, _, _]) rfl rfl rfl rfl ?_
  refine x_iload (pc' := 43) rfl rfl rfl ?_
  refine x_iload_n (pc' := 44) rfl rfl rfl ?_
  refine x_isub (pc' := 45) (z := 2) rfl rfl (by decide) ?_
  refine x_istore (pc' := 47) (ls' := [_, _, _, _, _, _]) rfl rfl rfl rfl ?_
  refine x_iload (pc' := 49) rfl rfl rfl ?_
  refine x_if (a' := 56) (pc' := 52) (z := true) rfl rfl rfl (by decide) (fun _ => ?_) (fun h => by cases h)
  refine x_iload (pc' := 58) rfl rfl rfl ?_
  refine x_iconst (pc' := 59) rfl rfl ?_
  refine x_icmp (a' := 69) (pc' := 62) (z := true) rfl rfl rfl (by decide) (fun _ => ?_) (fun h => by cases h)
  refine x_iload (pc' := 71) rfl rfl rfl ?_
  refine x_iconst (pc' := 72) rfl rfl ?_
  refine x_icmp (a' := 85) (pc' := 75) (z := false) rfl rfl rfl (by decide) (fun h => by cases h) (fun _ => ?_)
  refine x_iload_n (pc' := 76) rfl rfl rfl ?_
  refine x_bipush (pc' := 78) rfl rfl ?_
  refine x_idiv (pc' := 79) (z := 4) rfl rfl (by decide) (by decide +kernel) ?_
  refine x_bipush (pc' := 81) rfl rfl ?_
  refine x_irem (pc' := 82) (z := 4) rfl rfl (by decide) (by decide +kernel) ?_
  refine x_goto (pc' := 89) rfl rfl ?_
  refine x_iconst (pc' := 90) rfl rfl ?_
  refine x_isub (pc' := 91) (z := 3) rfl rfl (by decide) ?_
  refine x_reti rfl rfl ?_
  refine sK_i (pc' := 43) rfl ?_
  refine x_istore (pc' := 45) (ls' := [_, _, _, _, _, _, _]) rfl rfl rfl rfl ?_
  refine x_iload (pc' := 47) rfl rfl rfl ?_
  refine x_iconst (pc' := 48) rfl rfl ?_
  refine x_icmp (a' := 123) (pc' := 51) (z := false) rfl rfl rfl (by decide) (fun h => by cases h) (fun _ => ?_)
  refine x_aload_n (pc' := 52) rfl rfl rfl rfl rfl ?_
  refine x_gR (pc' := 55) (r := (some 27)) rfl rfl rfl (Eq.trans (b := sR t 809 0) rfl (kR_809_0 hc)) ?_
  refine x_aload_n (pc' := 56) rfl rfl rfl rfl rfl ?_
  refine x_gI (pc' := 59) (x := 0) rfl rfl rfl sI_s ?_
  refine x_aload_n (pc' := 60) rfl rfl rfl rfl rfl ?_
  refine x_iload (pc' := 62) rfl rfl rfl ?_
  refine x_iload_n (pc' := 63) rfl rfl rfl ?_
  refine x_iload_n (pc' := 64) rfl rfl rfl ?_
  refine x_iload (pc' := 66) rfl rfl rfl ?_
  refine x_cs (ls0 := [_, _, _, sJk]) (rest := [_, _, _, _]) rfl rfl rfl rfl ?_
  refine x_iload_n (pc' := 1) rfl rfl rfl ?_
  refine x_iload_n (pc' := 2) rfl rfl rfl ?_
  refine x_iload_n (pc' := 3) rfl rfl rfl ?_
  refine x_cs (ls0 := [_, _, _, sJk, sJk, sJk]) (rest := []) rfl rfl rfl rfl ?_
  refine x_getstatic (pc' := 3) rfl rfl (show 1 < sC t 28 from gst1 hc) ?_
  refine x_iconst (pc' := 4) rfl rfl ?_
  refine x_iload_n (pc' := 5) rfl rfl rfl ?_
  refine x_imul (pc' := 6) (z := 3) rfl rfl (by decide) ?_
  refine x_iload_n (pc' := 7) rfl rfl rfl ?_
  refine x_iadd (pc' := 8) (z := 5) rfl rfl (by decide) ?_
  refine x_iald (pc' := 9) (N := 15) (x := 41) rfl rfl rfl (Eq.trans rdNI (kN_28_1 hc)) (io_in (p := 5) (N := 15) (by decide) (by decide)) (Eq.trans (congrArg (sA (sIw t 811 0 0) 28 1) (nn_io (p := 5) (by decide))) (Eq.trans (b := sA t 28 1 5) rfl ((hc.2.2.2.2.2 5).2.trans rfl))) ?_
  refine x_istore_n (pc' := 10) (ls' := [_, _, _, _, _, _]) rfl rfl rfl rfl ?_
  refine x_iload_n (pc' := 11) rfl rfl rfl ?_
  refine x_bipush (pc' := 13) rfl rfl ?_
  refine x_icmp (a' := 20) (pc' := 16) (z := true) rfl rfl rfl (by decide) (fun _ => ?_) (fun h => by cases h)
  refine x_iload_n (pc' := 21) rfl rfl rfl ?_
  refine x_bipush (pc' := 23) rfl rfl ?_
  refine x_icmp (a' := 30) (pc' := 26) (z := false) rfl rfl rfl (by decide) (fun h => by cases h) (fun _ => ?_)
  refine x_iconst (pc' := 27) rfl rfl ?_
  refine x_goto (pc' := 39) rfl rfl ?_
  refine x_istore (pc' := 41) (ls' := [_, _, _, _, _, _]) rfl rfl rfl rfl ?_
  refine x_iload (pc' := 43) rfl rfl rfl ?_
  refine x_iload_n (pc' := 44) rfl rfl rfl ?_
  refine x_isub (pc' := 45) (z := 2) rfl rfl (by decide) ?_
  refine x_istore (pc' := 47) (ls' := [_, _, _, _, _, _]) rfl rfl rfl rfl ?_
  refine x_iload (pc' := 49) rfl rfl rfl ?_
  refine x_if (a' := 56) (pc' := 52) (z := true) rfl rfl rfl (by decide) (fun _ => ?_) (fun h => by cases h)
  refine x_iload (pc' := 58) rfl rfl rfl ?_
  refine x_iconst (pc' := 59) rfl rfl ?_
  refine x_icmp (a' := 69) (pc' := 62) (z := true) rfl rfl rfl (by decide) (fun _ => ?_) (fun h => by cases h)
  refine x_iload (pc' := 71) rfl rfl rfl ?_
  refine x_iconst (pc' := 72) rfl rfl ?_
  refine x_icmp (a' := 85) (pc' := 75) (z := false) rfl rfl rfl (by decide) (fun h => by cases h) (fun _ => ?_)
  refine x_iload_n (pc' := 76) rfl rfl rfl ?_
  refine x_bipush (pc' := 78) rfl rfl ?_
  refine x_idiv (pc' := 79) (z := 4) rfl rfl (by decide) (by decide +kernel) ?_
  refine x_bipush (pc' := 81) rfl rfl ?_
  refine x_irem (pc' := 82) (z := 4) rfl rfl (by decide) (by decide +kernel) ?_
  refine x_goto (pc' := 89) rfl rfl ?_
  refine x_iconst (pc' := 90) rfl rfl ?_
  refine x_isub (pc' := 91) (z := 3) rfl rfl (by decide) ?_
  refine x_reti rfl rfl ?_
  refine sK_i (pc' := 6) rfl ?_
  refine x_istore_n (pc' := 7) (ls' := [_, _, _, _]) rfl rfl rfl rfl ?_
  refine x_iload_n (pc' := 8) rfl rfl rfl ?_
  refine x_iconst (pc' := 9) rfl rfl ?_
  refine x_icmp (a' := 31) (pc' := 12) (z := false) rfl rfl rfl (by decide) (fun h => by cases h) (fun _ => ?_)
  refine x_iload_n (pc' := 13) rfl rfl rfl ?_
  refine x_iconst (pc' := 14) rfl rfl ?_
  refine x_icmp (a' := 29) (pc' := 17) (z := false) rfl rfl rfl (by decide) (fun h => by cases h) (fun _ => ?_)
  refine x_iload_n (pc' := 18) rfl rfl rfl ?_
  refine x_cs (ls0 := [_]) (rest := []) rfl rfl rfl rfl ?_
  refine x_iload_n (pc' := 1) rfl rfl rfl ?_
  refine x_iconst (pc' := 2) rfl rfl ?_
  refine x_isub (pc' := 3) (z := 0) rfl rfl (by decide) ?_
  refine x_reti rfl rfl ?_
  refine sK_i (pc' := 21) rfl ?_
  refine x_iload_n (pc' := 22) rfl rfl rfl ?_
  refine x_icmp (a' := 29) (pc' := 25) (z := false) rfl rfl rfl (by decide) (fun h => by cases h) (fun _ => ?_)
  refine x_iconst (pc' := 26) rfl rfl ?_
  refine x_goto (pc' := 30) rfl rfl ?_
  refine x_retz (z := true) rfl rfl ?_
  refine sK_i (pc' := 69) rfl ?_
  refine x_iload_n (pc' := 70) rfl rfl rfl ?_
  have J23 : X 159 78 [.inr (.inr (12, (some 0))), .inl 1, .inl (bz s), .inl 2, .inl 1, .inl 0, .inl 3] [.inl (bz (!(xor true s))), .inl 3, .inr (.inr (12, (some 0))), .inl 0, .inr (.inr (21, (some 27)))] (sIw t 811 0 0) Q := by
    refine x_cv (ls0 := [_, _, _, sJk, sJk, sJk]) (rest := [_, _]) rfl rfl rfl rfl rfl ?_
    refine r153 (b := 3) (s := (!(xor true s))) ((rp_Ic rfl).trans hM) (Cn_cp (cp_I rfl) hc) (Fr.ri (Fr.refl _) hR) (show 3 < 5 by decide) (fun b1 => ?_)
    refine sK_i (pc' := 81) rfl ?_
    refine x_iast (pc' := 82) (N := 200) (p := 0) rfl rfl rfl (Eq.trans rdNI (kN_21_27 hc)) (io_in (p := 0) (N := 200) (by decide) (by decide)) (nn_io (p := 0) (by decide)) ?_
    refine x_aload_n (pc' := 83) rfl rfl rfl rfl rfl ?_
    refine x_gR (pc' := 86) (r := (some 0)) rfl rfl rfl (Eq.trans (b := sR t 769 0) rfl (kR_769_0 hc)) ?_
    refine x_iload (pc' := 88) rfl rfl rfl ?_
    refine x_iald (pc' := 89) (N := 5) (x := (mA M 0 3)) rfl rfl rfl (Eq.trans rdNA (Eq.trans rdNI (kN_21_0 hc))) (io_in (p := 3) (N := 5) (by decide) (by decide)) (Eq.trans (congrArg (sA (sAw (sIw t 811 0 0) 21 27 0 (ov (bsF M n 3 (!(xor true s))))) 21 0) (nn_io (p := 3) (by decide))) (Eq.trans (b := sA t 21 0 3) rfl (gA hM rfl))) ?_
    refine x_iconst (pc' := 90) rfl rfl ?_
    have J26 : X 159 111 [.inr (.inr (12, (some 0))), .inl 1, .inl (bz s), .inl 2, .inl 1, .inl 0, .inl 3] [.inl (bz ((decide ((mA M 0 3) = 2)) && (!((bsF M n 3 (!(xor true s))).isNone))))] (sAw (sIw t 811 0 0) 21 27 0 (ov (bsF M n 3 (!(xor true s))))) Q := by
      refine x_istore (pc' := 113) (ls' := [_, _, _, _, _, _, _]) rfl rfl rfl rfl ?_
      refine x_aload_n (pc' := 114) rfl rfl rfl rfl rfl ?_
      refine x_dup (pc' := 115) rfl rfl rfl ?_
      refine x_gI (pc' := 118) (x := 0) rfl rfl rfl (Eq.trans rdIA sI_s) ?_
      refine x_iconst (pc' := 119) rfl rfl ?_
      refine x_iadd (pc' := 120) (z := 1) rfl rfl (by decide) ?_
      refine x_pI (pc' := 123) rfl rfl rfl ?_
      refine x_iinc (pc' := 126) (y := 1) (ls' := [_, _, _, _, _, _, _]) rfl rfl rfl rfl rfl ?_
      refine x_goto (pc' := 25) rfl rfl ?_
      refine x_iload (pc' := 27) rfl rfl rfl ?_
      refine x_iconst (pc' := 28) rfl rfl ?_
      refine x_icmp (a' := 129) (pc' := 31) (z := false) rfl rfl rfl (by decide) (fun h => by cases h) (fun _ => ?_)
      refine x_iload (pc' := 33) rfl rfl rfl ?_
      refine x_ifeq_z (a' := 129) (pc' := 36) (z := ((decide ((mA M 0 3) = 2)) && (!((bsF M n 3 (!(xor true s))).isNone)))) rfl rfl rfl (fun q29 => ?_) (fun q29 => ?_)
      · refine x_iload (pc' := 131) rfl rfl rfl ?_
        refine x_retz (z := ((decide ((mA M 0 3) = 2)) && (!((bsF M n 3 (!(xor true s))).isNone)))) rfl rfl ?_
        exact qv (congrArg (fun z : Bool => (.inl (some (.inl (bz z))) : sRs)) (Eq.trans (lgF_n q29) q29.symm).symm) (q _ ((rp_Ic rfl).trans ((rp_As rfl).trans ((rp_Ic rfl).trans hM))) ((cp_I rfl).trans (cp_A.trans (cp_I rfl))) (fun L hL => by obtain ⟨l0, z0, h0, j0, rfl⟩ := lgF_i hL; exact zz_no z0 q29))
      · refine x_iload_n (pc' := 37) rfl rfl rfl ?_
        refine x_iload_n (pc' := 38) rfl rfl rfl ?_
        refine x_iload (pc' := 40) rfl rfl rfl ?_
        refine x_cs (ls0 := [_, _, _, sJk, sJk, sJk]) (rest := []) rfl rfl rfl rfl ?_
        refine x_getstatic (pc' := 3) rfl rfl (show 1 < sC t 28 from gst1 hc) ?_
        refine x_iconst (pc' := 4) rfl rfl ?_
        refine x_iload_n (pc' := 5) rfl rfl rfl ?_
        refine x_imul (pc' := 6) (z := 3) rfl rfl (by decide) ?_
        refine x_iload_n (pc' := 7) rfl rfl rfl ?_
        refine x_iadd (pc' := 8) (z := 5) rfl rfl (by decide) ?_
        refine x_iald (pc' := 9) (N := 15) (x := 41) rfl rfl rfl (Eq.trans rdNI (Eq.trans rdNA (Eq.trans rdNI (kN_28_1 hc)))) (io_in (p := 5) (N := 15) (by decide) (by decide)) (Eq.trans (congrArg (sA (sIw (sAw (sIw t 811 0 0) 21 27 0 (ov (bsF M n 3 (!(xor true s))))) 811 0 1) 28 1) (nn_io (p := 5) (by decide))) (Eq.trans (b := sA t 28 1 5) rfl ((hc.2.2.2.2.2 5).2.trans rfl))) ?_
        refine x_istore_n (pc' := 10) (ls' := [_, _, _, _, _, _]) rfl rfl rfl rfl ?_
        refine x_iload_n (pc' := 11) rfl rfl rfl ?_
        refine x_bipush (pc' := 13) rfl rfl ?_
        refine x_icmp (a' := 20) (pc' := 16) (z := true) rfl rfl rfl (by decide) (fun _ => ?_) (fun h => by cases h)
        refine x_iload_n (pc' := 21) rfl rfl rfl ?_
        refine x_bipush (pc' := 23) rfl rfl ?_
        refine x_icmp (a' := 30) (pc' := 26) (z := false) rfl rfl rfl (by decide) (fun h => by cases h) (fun _ => ?_)
        refine x_iconst (pc' := 27) rfl rfl ?_
        refine x_goto (pc' := 39) rfl rfl ?_
        refine x_istore (pc' := 41) (ls' := [_, _, _, _, _, _]) rfl rfl rfl rfl ?_
        refine x_iload (pc' := 43) rfl rfl rfl ?_
        refine x_iload_n (pc' := 44) rfl rfl rfl ?_
        refine x_isub (pc' := 45) (z := 1) rfl rfl (by decide) ?_
        refine x_istore (pc' := 47) (ls' := [_, _, _, _, _, _]) rfl rfl rfl rfl ?_
        refine x_iload (pc' := 49) rfl rfl rfl ?_
        refine x_if (a' := 56) (pc' := 52) (z := true) rfl rfl rfl (by decide) (fun _ => ?_) (fun h => by cases h)
        refine x_iload (pc' := 58) rfl rfl rfl ?_
        refine x_iconst (pc' := 59) rfl rfl ?_
        refine x_icmp (a' := 69) (pc' := 62) (z := true) rfl rfl rfl (by decide) (fun _ => ?_) (fun h => by cases h)
        refine x_iload (pc' := 71) rfl rfl rfl ?_
        refine x_iconst (pc' := 72) rfl rfl ?_
        refine x_icmp (a' := 85) (pc' := 75) (z := true) rfl rfl rfl (by decide) (fun _ => ?_) (fun h => by cases h)
        refine x_iload_n (pc' := 86) rfl rfl rfl ?_
        refine x_bipush (pc' := 88) rfl rfl ?_
        refine x_irem (pc' := 89) (z := 1) rfl rfl (by decide) (by decide +kernel) ?_
        refine x_iconst (pc' := 90) rfl rfl ?_
        refine x_isub (pc' := 91) (z := 0) rfl rfl (by decide) ?_
        refine x_reti rfl rfl ?_
        refine sK_i (pc' := 43) rfl ?_
        refine x_istore (pc' := 45) (ls' := [_, _, _, _, _, _, _]) rfl rfl rfl rfl ?_
        refine x_iload (pc' := 47) rfl rfl rfl ?_
        refine x_iconst (pc' := 48) rfl rfl ?_
        refine x_icmp (a' := 123) (pc' := 51) (z := false) rfl rfl rfl (by decide) (fun h => by cases h) (fun _ => ?_)
        refine x_aload_n (pc' := 52) rfl rfl rfl rfl rfl ?_
        refine x_gR (pc' := 55) (r := (some 27)) rfl rfl rfl (Eq.trans (b := sR t 809 0) rfl (kR_809_0 hc)) ?_
        refine x_aload_n (pc' := 56) rfl rfl rfl rfl rfl ?_
        refine x_gI (pc' := 59) (x := 1) rfl rfl rfl sI_s ?_
        refine x_aload_n (pc' := 60) rfl rfl rfl rfl rfl ?_
        refine x_iload (pc' := 62) rfl rfl rfl ?_
        refine x_iload_n (pc' := 63) rfl rfl rfl ?_
        refine x_iload_n (pc' := 64) rfl rfl rfl ?_
        refine x_iload (pc' := 66) rfl rfl rfl ?_
        refine x_cs (ls0 := [_, _, _, sJk]) (rest := [_, _, _, _]) rfl rfl rfl rfl ?_
        refine x_iload_n (pc' := 1) rfl rfl rfl ?_
        refine x_iload_n (pc' := 2) rfl rfl rfl ?_
        refine x_iload_n (pc' := 3) rfl rfl rfl ?_
        refine x_cs (ls0 := [_, _, _, sJk, sJk, sJk]) (rest := []) rfl rfl rfl rfl ?_
        refine x_getstatic (pc' := 3) rfl rfl (show 1 < sC t 28 from gst1 hc) ?_
        refine x_iconst (pc' := 4) rfl rfl ?_
        refine x_iload_n (pc' := 5) rfl rfl rfl ?_
        refine x_imul (pc' := 6) (z := 3) rfl rfl (by decide) ?_
        refine x_iload_n (pc' := 7) rfl rfl rfl ?_
        refine x_iadd (pc' := 8) (z := 5) rfl rfl (by decide) ?_
        refine x_iald (pc' := 9) (N := 15) (x := 41) rfl rfl rfl (Eq.trans rdNI (Eq.trans rdNA (Eq.trans rdNI (kN_28_1 hc)))) (io_in (p := 5) (N := 15) (by decide) (by decide)) (Eq.trans (congrArg (sA (sIw (sAw (sIw t 811 0 0) 21 27 0 (ov (bsF M n 3 (!(xor true s))))) 811 0 1) 28 1) (nn_io (p := 5) (by decide))) (Eq.trans (b := sA t 28 1 5) rfl ((hc.2.2.2.2.2 5).2.trans rfl))) ?_
        refine x_istore_n (pc' := 10) (ls' := [_, _, _, _, _, _]) rfl rfl rfl rfl ?_
        refine x_iload_n (pc' := 11) rfl rfl rfl ?_
        refine x_bipush (pc' := 13) rfl rfl ?_
        refine x_icmp (a' := 20) (pc' := 16) (z := true) rfl rfl rfl (by decide) (fun _ => ?_) (fun h => by cases h)
        refine x_iload_n (pc' := 21) rfl rfl rfl ?_
        refine x_bipush (pc' := 23) rfl rfl ?_
        refine x_icmp (a' := 30) (pc' := 26) (z := false) rfl rfl rfl (by decide) (fun h => by cases h) (fun _ => ?_)
        refine x_iconst (pc' := 27) rfl rfl ?_
        refine x_goto (pc' := 39) rfl rfl ?_
        refine x_istore (pc' := 41) (ls' := [_, _, _, _, _, _]) rfl rfl rfl rfl ?_
        refine x_iload (pc' := 43) rfl rfl rfl ?_
        refine x_iload_n (pc' := 44) rfl rfl rfl ?_
        refine x_isub (pc' := 45) (z := 1) rfl rfl (by decide) ?_
        refine x_istore (pc' := 47) (ls' := [_, _, _, _, _, _]) rfl rfl rfl rfl ?_
        refine x_iload (pc' := 49) rfl rfl rfl ?_
        refine x_if (a' := 56) (pc' := 52) (z := true) rfl rfl rfl (by decide) (fun _ => ?_) (fun h => by cases h)
        refine x_iload (pc' := 58) rfl rfl rfl ?_
        refine x_iconst (pc' := 59) rfl rfl ?_
        refine x_icmp (a' := 69) (pc' := 62) (z := true) rfl rfl rfl (by decide) (fun _ => ?_) (fun h => by cases h)
        refine x_iload (pc' := 71) rfl rfl rfl ?_
        refine x_iconst (pc' := 72) rfl rfl ?_
        refine x_icmp (a' := 85) (pc' := 75) (z := true) rfl rfl rfl (by decide) (fun _ => ?_) (fun h => by cases h)
        refine x_iload_n (pc' := 86) rfl rfl rfl ?_
        refine x_bipush (pc' := 88) rfl rfl ?_
        refine x_irem (pc' := 89) (z := 1) rfl rfl (by decide) (by decide +kernel) ?_
        refine x_iconst (pc' := 90) rfl rfl ?_
        refine x_isub (pc' := 91) (z := 0) rfl rfl (by decide) ?_
        refine x_reti rfl rfl ?_
        refine sK_i (pc' := 6) rfl ?_
        refine x_istore_n (pc' := 7) (ls' := [_, _, _, _]) rfl rfl rfl rfl ?_
        refine x_iload_n (pc' := 8) rfl rfl rfl ?_
        refine x_iconst (pc' := 9) rfl rfl ?_
        refine x_icmp (a' := 31) (pc' := 12) (z := false) rfl rfl rfl (by decide) (fun h => by cases h) (fun _ => ?_)
        refine x_iload_n (pc' := 13) rfl rfl rfl ?_
        refine x_iconst (pc' := 14) rfl rfl ?_
        refine x_icmp (a' := 29) (pc' := 17) (z := true) rfl rfl rfl (by decide) (fun _ => ?_) (fun h => by cases h)
        refine x_iconst (pc' := 30) rfl rfl ?_
        refine x_retz (z := false) rfl rfl ?_
        refine sK_i (pc' := 69) rfl ?_
        refine x_iload_n (pc' := 70) rfl rfl rfl ?_
        have J43 : X 159 78 [.inr (.inr (12, (some 0))), .inl 1, .inl (bz s), .inl 2, .inl (bz ((decide ((mA M 0 3) = 2)) && (!((bsF M n 3 (!(xor true s))).isNone)))), .inl 1, .inl 0] [.inl (bz (!(xor false s))), .inl 0, .inr (.inr (12, (some 0))), .inl 1, .inr (.inr (21, (some 27)))] (sIw (sAw (sIw t 811 0 0) 21 27 0 (ov (bsF M n 3 (!(xor true s))))) 811 0 1) Q := by
          refine x_cv (ls0 := [_, _, _, sJk, sJk, sJk]) (rest := [_, _]) rfl rfl rfl rfl rfl ?_
          refine r153 (b := 0) (s := (!(xor false s))) ((rp_Ic rfl).trans ((rp_As rfl).trans ((rp_Ic rfl).trans hM))) (Cn_cp ((cp_I rfl).trans (cp_A.trans (cp_I rfl))) hc) (Fr.ri (Fr.refl _) hR) (show 0 < 5 by decide) (fun b3 => ?_)
          refine sK_i (pc' := 81) rfl ?_
          refine x_iast (pc' := 82) (N := 200) (p := 1) rfl rfl rfl (Eq.trans rdNI (Eq.trans rdNA (Eq.trans rdNI (kN_21_27 hc)))) (io_in (p := 1) (N := 200) (by decide) (by decide)) (nn_io (p := 1) (by decide)) ?_
          refine x_aload_n (pc' := 83) rfl rfl rfl rfl rfl ?_
          refine x_gR (pc' := 86) (r := (some 0)) rfl rfl rfl (Eq.trans (b := sR t 769 0) rfl (kR_769_0 hc)) ?_
          refine x_iload (pc' := 88) rfl rfl rfl ?_
          refine x_iald (pc' := 89) (N := 5) (x := (mA M 0 0)) rfl rfl rfl (Eq.trans rdNA (Eq.trans rdNI (Eq.trans rdNA (Eq.trans rdNI (kN_21_0 hc))))) (io_in (p := 0) (N := 5) (by decide) (by decide)) (Eq.trans (congrArg (sA (sAw (sIw (sAw (sIw t 811 0 0) 21 27 0 (ov (bsF M n 3 (!(xor true s))))) 811 0 1) 21 27 1 (ov (bsF M n 0 (!(xor false s))))) 21 0) (nn_io (p := 0) (by decide))) (Eq.trans (b := sA t 21 0 0) rfl (gA hM rfl))) ?_
          refine x_iconst (pc' := 90) rfl rfl ?_
          have J46 : X 159 111 [.inr (.inr (12, (some 0))), .inl 1, .inl (bz s), .inl 2, .inl (bz ((decide ((mA M 0 3) = 2)) && (!((bsF M n 3 (!(xor true s))).isNone)))), .inl 1, .inl 0] [.inl (bz ((decide ((mA M 0 0) = 2)) && (!((bsF M n 0 (!(xor false s))).isNone))))] (sAw (sIw (sAw (sIw t 811 0 0) 21 27 0 (ov (bsF M n 3 (!(xor true s))))) 811 0 1) 21 27 1 (ov (bsF M n 0 (!(xor false s))))) Q := by
            refine x_istore (pc' := 113) (ls' := [_, _, _, _, _, _, _]) rfl rfl rfl rfl ?_
            refine x_aload_n (pc' := 114) rfl rfl rfl rfl rfl ?_
            refine x_dup (pc' := 115) rfl rfl rfl ?_
            refine x_gI (pc' := 118) (x := 1) rfl rfl rfl (Eq.trans rdIA sI_s) ?_
            refine x_iconst (pc' := 119) rfl rfl ?_
            refine x_iadd (pc' := 120) (z := 2) rfl rfl (by decide) ?_
            refine x_pI (pc' := 123) rfl rfl rfl ?_
            refine x_iinc (pc' := 126) (y := 2) (ls' := [_, _, _, _, _, _, _]) rfl rfl rfl rfl rfl ?_
            refine x_goto (pc' := 25) rfl rfl ?_
            refine x_iload (pc' := 27) rfl rfl rfl ?_
            refine x_iconst (pc' := 28) rfl rfl ?_
            refine x_icmp (a' := 129) (pc' := 31) (z := false) rfl rfl rfl (by decide) (fun h => by cases h) (fun _ => ?_)
            refine x_iload (pc' := 33) rfl rfl rfl ?_
            have J54 : X 159 129 [.inr (.inr (12, (some 0))), .inl 1, .inl (bz s), .inl 2, .inl (bz ((decide ((mA M 0 0) = 2)) && (!((bsF M n 0 (!(xor false s))).isNone)))), .inl (bif ((decide ((mA M 0 0) = 2)) && (!((bsF M n 0 (!(xor false s))).isNone))) then 3 else 2), .inl (bif ((decide ((mA M 0 0) = 2)) && (!((bsF M n 0 (!(xor false s))).isNone))) then (-1) else 0)] [] (sIw (sAw (sIw (sAw (sIw t 811 0 0) 21 27 0 (ov (bsF M n 3 (!(xor true s))))) 811 0 1) 21 27 1 (ov (bsF M n 0 (!(xor false s))))) 811 0 2) Q := by
              refine x_iload (pc' := 131) rfl rfl rfl ?_
              refine x_retz (z := ((decide ((mA M 0 0) = 2)) && (!((bsF M n 0 (!(xor false s))).isNone)))) rfl rfl ?_
              exact qv (congrArg (fun z : Bool => (.inl (some (.inl (bz z))) : sRs)) (Eq.trans (lgF_s q29) lgF_1).symm) (q _ ((rp_Ic rfl).trans ((rp_As rfl).trans ((rp_Ic rfl).trans ((rp_As rfl).trans ((rp_Ic rfl).trans hM))))) ((cp_I rfl).trans (cp_A.trans ((cp_I rfl).trans (cp_A.trans (cp_I rfl))))) (fun L hL => by obtain ⟨l0, z0, h0, j0, rfl⟩ := lgF_i hL; obtain ⟨l1, z1, h1, j1, rfl⟩ := lgF_i h0; cases lgF_nil h1; exact ⟨rfl, ov_io (an_n z0), ov_io (an_n z1), trivial⟩))
            refine x_ifeq_z (a' := 129) (pc' := 36) (z := ((decide ((mA M 0 0) = 2)) && (!((bsF M n 0 (!(xor false s))).isNone)))) rfl rfl rfl (fun q49 => ?_) (fun q49 => ?_)
            · ((try rw [q49] at J54); (try rw [q49]); (try simp only [cd_t, cd_f, nt_t, nt_f, an_t, an_f, or_t, or_f] at J54); (try simp only [cd_t, cd_f, nt_t, nt_f, an_t, an_f, or_t, or_f]); exact J54)
            · refine x_iload_n (pc' := 37) rfl rfl rfl ?_
              refine x_iload_n (pc' := 38) rfl rfl rfl ?_
              refine x_iload (pc' := 40) rfl rfl rfl ?_
              refine x_cs (ls0 := [_, _, _, sJk, sJk, sJk]) (rest := []) rfl rfl rfl rfl ?_
              refine x_getstatic (pc' := 3) rfl rfl (show 1 < sC t 28 from gst1 hc) ?_
              refine x_iconst (pc' := 4) rfl rfl ?_
              refine x_iload_n (pc' := 5) rfl rfl rfl ?_
              refine x_imul (pc' := 6) (z := 3) rfl rfl (by decide) ?_
              refine x_iload_n (pc' := 7) rfl rfl rfl ?_
              refine x_iadd (pc' := 8) (z := 5) rfl rfl (by decide) ?_
              refine x_iald (pc' := 9) (N := 15) (x := 41) rfl rfl rfl (Eq.trans rdNI (Eq.trans rdNA (Eq.trans rdNI (Eq.trans rdNA (Eq.trans rdNI (kN_28_1 hc)))))) (io_in (p := 5) (N := 15) (by decide) (by decide)) (Eq.trans (congrArg (sA (sIw (sAw (sIw (sAw (sIw t 811 0 0) 21 27 0 (ov (bsF M n 3 (!(xor true s))))) 811 0 1) 21 27 1 (ov (bsF M n 0 (!(xor false s))))) 811 0 2) 28 1) (nn_io (p := 5) (by decide))) (Eq.trans (b := sA t 28 1 5) rfl ((hc.2.2.2.2.2 5).2.trans rfl))) ?_
              refine x_istore_n (pc' := 10) (ls' := [_, _, _, _, _, _]) rfl rfl rfl rfl ?_
              refine x_iload_n (pc' := 11) rfl rfl rfl ?_
              refine x_bipush (pc' := 13) rfl rfl ?_
              refine x_icmp (a' := 20) (pc' := 16) (z := true) rfl rfl rfl (by decide) (fun _ => ?_) (fun h => by cases h)
              refine x_iload_n (pc' := 21) rfl rfl rfl ?_
              refine x_bipush (pc' := 23) rfl rfl ?_
              refine x_icmp (a' := 30) (pc' := 26) (z := false) rfl rfl rfl (by decide) (fun h => by cases h) (fun _ => ?_)
              refine x_iconst (pc' := 27) rfl rfl ?_
              refine x_goto (pc' := 39) rfl rfl ?_
              refine x_istore (pc' := 41) (ls' := [_, _, _, _, _, _]) rfl rfl rfl rfl ?_
              refine x_iload (pc' := 43) rfl rfl rfl ?_
              refine x_iload_n (pc' := 44) rfl rfl rfl ?_
              refine x_isub (pc' := 45) (z := 0) rfl rfl (by decide) ?_
              refine x_istore (pc' := 47) (ls' := [_, _, _, _, _, _]) rfl rfl rfl rfl ?_
              refine x_iload (pc' := 49) rfl rfl rfl ?_
              refine x_if (a' := 56) (pc' := 52) (z := false) rfl rfl rfl (by decide) (fun h => by cases h) (fun _ => ?_)
              refine x_iconst (pc' := 53) rfl rfl ?_
              refine x_goto (pc' := 91) rfl rfl ?_
              refine x_reti rfl rfl ?_
              refine sK_i (pc' := 43) rfl ?_
              refine x_istore (pc' := 45) (ls' := [_, _, _, _, _, _, _]) rfl rfl rfl rfl ?_
              refine x_iload (pc' := 47) rfl rfl rfl ?_
              refine x_iconst (pc' := 48) rfl rfl ?_
              refine x_icmp (a' := 123) (pc' := 51) (z := true) rfl rfl rfl (by decide) (fun _ => ?_) (fun h => by cases h)
              refine x_iinc (pc' := 126) (y := 3) (ls' := [_, _, _, _, _, _, _]) rfl rfl rfl rfl rfl ?_
              refine x_goto (pc' := 25) rfl rfl ?_
              refine x_iload (pc' := 27) rfl rfl rfl ?_
              refine x_iconst (pc' := 28) rfl rfl ?_
              refine x_icmp (a' := 129) (pc' := 31) (z := true) rfl rfl rfl (by decide) (fun _ => ?_) (fun h => by cases h)
              ((try rw [q49] at J54); (try rw [q49]); (try simp only [cd_t, cd_f, nt_t, nt_f, an_t, an_f, or_t, or_f] at J54); (try simp only [cd_t, cd_f, nt_t, nt_f, an_t, an_f, or_t, or_f]); exact J54)
          refine x_icmp_n (a' := 110) (pc' := 93) (z := decide ((mA M 0 0) = 2)) rfl rfl rfl (ik_ne _ _) (fun q45 => ?_) (fun q45 => ?_)
          · refine x_iconst (pc' := 111) rfl rfl ?_
            ((try rw [q45] at J46); (try rw [q45]); (try simp only [cd_t, cd_f, nt_t, nt_f, an_t, an_f, or_t, or_f] at J46); (try simp only [cd_t, cd_f, nt_t, nt_f, an_t, an_f, or_t, or_f]); exact J46)
          · refine x_aload_n (pc' := 94) rfl rfl rfl rfl rfl ?_
            refine x_gR (pc' := 97) (r := (some 27)) rfl rfl rfl (Eq.trans (b := sR t 809 0) rfl (kR_809_0 hc)) ?_
            refine x_aload_n (pc' := 98) rfl rfl rfl rfl rfl ?_
            refine x_gI (pc' := 101) (x := 1) rfl rfl rfl (Eq.trans rdIA sI_s) ?_
            refine x_iald (pc' := 102) (N := 200) (x := (ov (bsF M n 0 (!(xor false s))))) rfl rfl rfl (Eq.trans rdNA (Eq.trans rdNI (Eq.trans rdNA (Eq.trans rdNI (kN_21_27 hc))))) (io_in (p := 1) (N := 200) (by decide) (by decide)) (Eq.trans (congrArg (sA (sAw (sIw (sAw (sIw t 811 0 0) 21 27 0 (ov (bsF M n 3 (!(xor true s))))) 811 0 1) 21 27 1 (ov (bsF M n 0 (!(xor false s))))) 21 27) (nn_io (p := 1) (by decide))) sA_s) ?_
            refine x_iconst (pc' := 103) rfl rfl ?_
            refine x_icmp (a' := 110) (pc' := 106) (z := (bsF M n 0 (!(xor false s))).isNone) rfl rfl rfl (ov_eq (ov_31 (N := n) b3 (Nat.le_of_lt (gn31 hR)))) (fun q46 => ?_) (fun q46 => ?_)
            · refine x_iconst (pc' := 111) rfl rfl ?_
              ((try rw [q46] at J46); (try rw [q46]); (try rw [q45] at J46); (try rw [q45]); (try simp only [cd_t, cd_f, nt_t, nt_f, an_t, an_f, or_t, or_f] at J46); (try simp only [cd_t, cd_f, nt_t, nt_f, an_t, an_f, or_t, or_f]); exact J46)
            · refine x_iconst (pc' := 107) rfl rfl ?_
              refine x_goto (pc' := 111) rfl rfl ?_
              ((try rw [q46] at J46); (try rw [q46]); (try rw [q45] at J46); (try rw [q45]); (try simp only [cd_t, cd_f, nt_t, nt_f, an_t, an_f, or_t, or_f] at J46); (try simp only [cd_t, cd_f, nt_t, nt_f, an_t, an_f, or_t, or_f]); exact J46)
        refine x_icmp (a' := 77) (pc' := 73) (z := (xor false s)) rfl rfl rfl (bz_neb _ _) (fun q43 => ?_) (fun q43 => ?_)
        · refine x_iconst (pc' := 78) rfl rfl ?_
          ((try rw [q43] at J43); (try rw [q43]); (try simp only [cd_t, cd_f, nt_t, nt_f, an_t, an_f, or_t, or_f] at J43); (try simp only [cd_t, cd_f, nt_t, nt_f, an_t, an_f, or_t, or_f]); exact J43)
        · refine x_iconst (pc' := 74) rfl rfl ?_
          refine x_goto (pc' := 78) rfl rfl ?_
          ((try rw [q43] at J43); (try rw [q43]); (try simp only [cd_t, cd_f, nt_t, nt_f, an_t, an_f, or_t, or_f] at J43); (try simp only [cd_t, cd_f, nt_t, nt_f, an_t, an_f, or_t, or_f]); exact J43)
    refine x_icmp_n (a' := 110) (pc' := 93) (z := decide ((mA M 0 3) = 2)) rfl rfl rfl (ik_ne _ _) (fun q25 => ?_) (fun q25 => ?_)
    · refine x_iconst (pc' := 111) rfl rfl ?_
      ((try rw [q25] at J26); (try rw [q25]); (try simp only [cd_t, cd_f, nt_t, nt_f, an_t, an_f, or_t, or_f] at J26); (try simp only [cd_t, cd_f, nt_t, nt_f, an_t, an_f, or_t, or_f]); exact J26)
    · refine x_aload_n (pc' := 94) rfl rfl rfl rfl rfl ?_
      refine x_gR (pc' := 97) (r := (some 27)) rfl rfl rfl (Eq.trans (b := sR t 809 0) rfl (kR_809_0 hc)) ?_
      refine x_aload_n (pc' := 98) rfl rfl rfl rfl rfl ?_
      refine x_gI (pc' := 101) (x := 0) rfl rfl rfl (Eq.trans rdIA sI_s) ?_
      refine x_iald (pc' := 102) (N := 200) (x := (ov (bsF M n 3 (!(xor true s))))) rfl rfl rfl (Eq.trans rdNA (Eq.trans rdNI (kN_21_27 hc))) (io_in (p := 0) (N := 200) (by decide) (by decide)) (Eq.trans (congrArg (sA (sAw (sIw t 811 0 0) 21 27 0 (ov (bsF M n 3 (!(xor true s))))) 21 27) (nn_io (p := 0) (by decide))) sA_s) ?_
      refine x_iconst (pc' := 103) rfl rfl ?_
      refine x_icmp (a' := 110) (pc' := 106) (z := (bsF M n 3 (!(xor true s))).isNone) rfl rfl rfl (ov_eq (ov_31 (N := n) b1 (Nat.le_of_lt (gn31 hR)))) (fun q26 => ?_) (fun q26 => ?_)
      · refine x_iconst (pc' := 111) rfl rfl ?_
        ((try rw [q26] at J26); (try rw [q26]); (try rw [q25] at J26); (try rw [q25]); (try simp only [cd_t, cd_f, nt_t, nt_f, an_t, an_f, or_t, or_f] at J26); (try simp only [cd_t, cd_f, nt_t, nt_f, an_t, an_f, or_t, or_f]); exact J26)
      · refine x_iconst (pc' := 107) rfl rfl ?_
        refine x_goto (pc' := 111) rfl rfl ?_
        ((try rw [q26] at J26); (try rw [q26]); (try rw [q25] at J26); (try rw [q25]); (try simp only [cd_t, cd_f, nt_t, nt_f, an_t, an_f, or_t, or_f] at J26); (try simp only [cd_t, cd_f, nt_t, nt_f, an_t, an_f, or_t, or_f]); exact J26)
  refine x_icmp (a' := 77) (pc' := 73) (z := (xor true s)) rfl rfl rfl (bz_neb _ _) (fun q23 => ?_) (fun q23 => ?_)
  · refine x_iconst (pc' := 78) rfl rfl ?_
    ((try rw [q23] at J23); (try rw [q23]); (try simp only [cd_t, cd_f, nt_t, nt_f, an_t, an_f, or_t, or_f] at J23); (try simp only [cd_t, cd_f, nt_t, nt_f, an_t, an_f, or_t, or_f]); exact J23)
  · refine x_iconst (pc' := 74) rfl rfl ?_
    refine x_goto (pc' := 78) rfl rfl ?_
    ((try rw [q23] at J23); (try rw [q23]); (try simp only [cd_t, cd_f, nt_t, nt_f, an_t, an_f, or_t, or_f] at J23); (try simp only [cd_t, cd_f, nt_t, nt_f, an_t, an_f, or_t, or_f]); exact J23)
set_option maxHeartbeats 4000000 in
set_option maxRecDepth 10000 in
theorem r160_12 {t : sT} {Q : sRs → sT → Prop} {M : sM} {n : Nat} {o0 o1 : Nat}
    (hM : rp t = M)
    (hc : Cn t)
    (hR : Ri M n)
    (ho0 : o0 < n)
    (ho1 : o1 < n)
    (hq : sI t 811 0 = 2)
    (hk0 : sA t 21 27 0 = io o0)
    (hk1 : sA t 21 27 1 = io o1)
    (q : Q (.inl (some (.inl (prF M 1 2 [o0, o1])))) t) :
    X 160 0 [.inr (.inr (12, (some 0))), .inl 1, .inl 2, sJk, sJk] [] t Q := by
  refine x_iload_n (pc' := 1) rfl rfl rfl ?_
  refine x_iconst (pc' := 2) rfl rfl ?_
  refine x_icmp (a' := 34) (pc' := 5) (z := true) rfl rfl rfl (by decide) (fun _ => ?_) (fun h => by cases h)
  refine x_iconst (pc' := 35) rfl rfl ?_
  refine x_istore_n (pc' := 36) (ls' := [_, _, _, _, _]) rfl rfl rfl rfl ?_
  refine x_iconst (pc' := 37) rfl rfl ?_
  refine x_istore (pc' := 39) (ls' := [_, _, _, _, _]) rfl rfl rfl rfl ?_
  refine x_iload (pc' := 41) rfl rfl rfl ?_
  refine x_aload_n (pc' := 42) rfl rfl rfl rfl rfl ?_
  refine x_gI (pc' := 45) (x := 2) rfl rfl rfl hq ?_
  refine x_icmp (a' := 95) (pc' := 48) (z := false) rfl rfl rfl (by decide) (fun h => by cases h) (fun _ => ?_)
  refine x_iload_n (pc' := 49) rfl rfl rfl ?_
  refine x_iload_n (pc' := 50) rfl rfl rfl ?_
  refine x_iload_n (pc' := 51) rfl rfl rfl ?_
  refine x_iload (pc' := 53) rfl rfl rfl ?_
  refine x_cs (ls0 := [_, _, _, sJk]) (rest := [_]) rfl rfl rfl rfl ?_
  refine x_iload_n (pc' := 1) rfl rfl rfl ?_
  refine x_iload_n (pc' := 2) rfl rfl rfl ?_
  refine x_iload_n (pc' := 3) rfl rfl rfl ?_
  refine x_cs (ls0 := [_, _, _, sJk, sJk, sJk]) (rest := []) rfl rfl rfl rfl ?_
  refine x_getstatic (pc' := 3) rfl rfl (show 1 < sC t 28 from gst1 hc) ?_
  refine x_iconst (pc' := 4) rfl rfl ?_
  refine x_iload_n (pc' := 5) rfl rfl rfl ?_
  refine x_imul (pc' := 6) (z := 3) rfl rfl (by decide) ?_
  refine x_iload_n (pc' := 7) rfl rfl rfl ?_
  refine x_iadd (pc' := 8) (z := 5) rfl rfl (by decide) ?_
  refine x_iald (pc' := 9) (N := 15) (x := 41) rfl rfl rfl (kN_28_1 hc) (io_in (p := 5) (N := 15) (by decide) (by decide)) (Eq.trans (congrArg (sA t 28 1) (nn_io (p := 5) (by decide))) ((hc.2.2.2.2.2 5).2.trans rfl)) ?_
  refine x_istore_n (pc' := 10) (ls' := [_, _, _, _, _, _]) rfl rfl rfl rfl ?_
  refine x_iload_n (pc' := 11) rfl rfl rfl ?_
  refine x_bipush (pc' := 13) rfl rfl ?_
  refine x_icmp (a' := 20) (pc' := 16) (z := true) rfl rfl rfl (by decide) (fun _ => ?_) (fun h => by cases h)
  refine x_iload_n (pc' := 21) rfl rfl rfl ?_
  refine x_bipush (pc' := 23) rfl rfl ?_
  refine x_icmp (a' := 30) (pc' := 26) (z := false) rfl rfl rfl (by decide) (fun h => by cases h) (fun _ => ?_)
  refine x_iconst (pc' := 27) rfl rfl ?_
  refine x_goto (pc' := 39) rfl rfl ?_
  refine x_istore (pc' := 41) (ls' := [_, _, _, _, _, _]) rfl rfl rfl rfl ?_
  refine x_iload (pc' := 43) rfl rfl rfl ?_
  refine x_iload_n (pc' := 44) rfl rfl rfl ?_
  refine x_isub (pc' := 45) (z := 2) rfl rfl (by decide) ?_
  refine x_istore (pc' := 47) (ls' := [_, _, _, _, _, _]) rfl rfl rfl rfl ?_
  refine x_iload (pc' := 49) rfl rfl rfl ?_
  refine x_if (a' := 56) (pc' := 52) (z := true) rfl rfl rfl (by decide) (fun _ => ?_) (fun h => by cases h)
  refine x_iload (pc' := 58) rfl rfl rfl ?_
  refine x_iconst (pc' := 59) rfl rfl ?_
  refine x_icmp (a' := 69) (pc' := 62) (z := true) rfl rfl rfl (by decide) (fun _ => ?_) (fun h => by cases h)
  refine x_iload (pc' := 71) rfl rfl rfl ?_
  refine x_iconst (pc' := 72) rfl rfl ?_
  refine x_icmp (a' := 85) (pc' := 75) (z := false) rfl rfl rfl (by decide) (fun h => by cases h) (fun _ => ?_)
  refine x_iload_n (pc' := 76) rfl rfl rfl ?_
  refine x_bipush (pc' := 78) rfl rfl ?_
  refine x_idiv (pc' := 79) (z := 4) rfl rfl (by decide) (by decide +kernel) ?_
  refine x_bipush (pc' := 81) rfl rfl ?_
  refine x_irem (pc' := 82) (z := 4) rfl rfl (by decide) (by decide +kernel) ?_
  refine x_goto (pc' := 89) rfl rfl ?_
  refine x_iconst (pc' := 90) rfl rfl ?_
  refine x_isub (pc' := 91) (z := 3) rfl rfl (by decide) ?_
  refine x_reti rfl rfl ?_
  refine sK_i (pc' := 6) rfl ?_
  refine x_istore_n (pc' := 7) (ls' := [_, _, _, _]) rfl rfl rfl rfl ?_
  refine x_iload_n (pc' := 8) rfl rfl rfl ?_
  refine x_iconst (pc' := 9) rfl rfl ?_
  refine x_icmp (a' := 31) (pc' := 12) (z := false) rfl rfl rfl (by decide) (fun h => by cases h) (fun _ => ?_)
  refine x_iload_n (pc' := 13) rfl rfl rfl ?_
  refine x_iconst (pc' := 14) rfl rfl ?_
  refine x_icmp (a' := 29) (pc' := 17) (z := false) rfl rfl rfl (by decide) (fun h => by cases h) (fun _ => ?_)
  refine x_iload_n (pc' := 18) rfl rfl rfl ?_
  refine x_cs (ls0 := [_]) (rest := []) rfl rfl rfl rfl ?_
  refine x_iload_n (pc' := 1) rfl rfl rfl ?_
  refine x_iconst (pc' := 2) rfl rfl ?_
  refine x_isub (pc' := 3) (z := 0) rfl rfl (by decide) ?_
  refine x_reti rfl rfl ?_
  refine sK_i (pc' := 21) rfl ?_
  refine x_iload_n (pc' := 22) rfl rfl rfl ?_
  refine x_icmp (a' := 29) (pc' := 25) (z := false) rfl rfl rfl (by decide) (fun h => by cases h) (fun _ => ?_)
  refine x_iconst (pc' := 26) rfl rfl ?_
  refine x_goto (pc' := 30) rfl rfl ?_
  refine x_retz (z := true) rfl rfl ?_
  refine sK_i (pc' := 56) rfl ?_
  refine x_if (a' := 75) (pc' := 59) (z := false) rfl rfl rfl (by decide) (fun h => by cases h) (fun _ => ?_)
  refine x_aload_n (pc' := 60) rfl rfl rfl rfl rfl ?_
  refine x_gR (pc' := 63) (r := (some 14)) rfl rfl rfl (kR_790_0 hc) ?_
  refine x_aload_n (pc' := 64) rfl rfl rfl rfl rfl ?_
  refine x_gR (pc' := 67) (r := (some 27)) rfl rfl rfl (kR_809_0 hc) ?_
  refine x_iload (pc' := 69) rfl rfl rfl ?_
  refine x_iald (pc' := 70) (N := 200) (x := (io o0)) rfl rfl rfl (kN_21_27 hc) (io_in (p := 0) (N := 200) (by decide) (by decide)) (Eq.trans (congrArg (sA t 21 27) (nn_io (p := 0) (by decide))) hk0) ?_
  refine x_iald (pc' := 71) (N := 200) (x := (mA M 14 o0)) rfl rfl rfl (kN_21_14 hc) (io_in (p := o0) (N := 200) (Nat.lt_of_lt_of_le ho0 (gn200 hR)) (by decide)) (Eq.trans (congrArg (sA t 21 14) (nn_io (p := o0) (Nat.lt_trans (Nat.lt_of_lt_of_le ho0 (gn200 hR)) (by decide)))) (gF14 hM (Fr.refl _))) ?_
  refine x_ineg (pc' := 72) rfl rfl rfl ?_
  refine x_goto (pc' := 87) rfl rfl ?_
  refine x_iadd (pc' := 88) (z := (0 + (-(mA M 14 o0)))) rfl rfl rfl ?_
  refine x_istore_n (pc' := 89) (ls' := [_, _, _, _, _]) rfl rfl rfl rfl ?_
  refine x_iinc (pc' := 92) (y := 1) (ls' := [_, _, _, _, _]) rfl rfl rfl rfl rfl ?_
  refine x_goto (pc' := 39) rfl rfl ?_
  refine x_iload (pc' := 41) rfl rfl rfl ?_
  refine x_aload_n (pc' := 42) rfl rfl rfl rfl rfl ?_
  refine x_gI (pc' := 45) (x := 2) rfl rfl rfl hq ?_
  refine x_icmp (a' := 95) (pc' := 48) (z := false) rfl rfl rfl (by decide) (fun h => by cases h) (fun _ => ?_)
  refine x_iload_n (pc' := 49) rfl rfl rfl ?_
  refine x_iload_n (pc' := 50) rfl rfl rfl ?_
  refine x_iload_n (pc' := 51) rfl rfl rfl ?_
  refine x_iload (pc' := 53) rfl rfl rfl ?_
  refine x_cs (ls0 := [_, _, _, sJk]) (rest := [_]) rfl rfl rfl rfl ?_
  refine x_iload_n (pc' := 1) rfl rfl rfl ?_
  refine x_iload_n (pc' := 2) rfl rfl rfl ?_
  refine x_iload_n (pc' := 3) rfl rfl rfl ?_
  refine x_cs (ls0 := [_, _, _, sJk, sJk, sJk]) (rest := []) rfl rfl rfl rfl ?_
  refine x_getstatic (pc' := 3) rfl rfl (show 1 < sC t 28 from gst1 hc) ?_
  refine x_iconst (pc' := 4) rfl rfl ?_
  refine x_iload_n (pc' := 5) rfl rfl rfl ?_
  refine x_imul (pc' := 6) (z := 3) rfl rfl (by decide) ?_
  refine x_iload_n (pc' := 7) rfl rfl rfl ?_
  refine x_iadd (pc' := 8) (z := 5) rfl rfl (by decide) ?_
  refine x_iald (pc' := 9) (N := 15) (x := 41) rfl rfl rfl (kN_28_1 hc) (io_in (p := 5) (N := 15) (by decide) (by decide)) (Eq.trans (congrArg (sA t 28 1) (nn_io (p := 5) (by decide))) ((hc.2.2.2.2.2 5).2.trans rfl)) ?_
  refine x_istore_n (pc' := 10) (ls' := [_, _, _, _, _, _]) rfl rfl rfl rfl ?_
  refine x_iload_n (pc' := 11) rfl rfl rfl ?_
  refine x_bipush (pc' := 13) rfl rfl ?_
  refine x_icmp (a' := 20) (pc' := 16) (z := true) rfl rfl rfl (by decide) (fun _ => ?_) (fun h => by cases h)
  refine x_iload_n (pc' := 21) rfl rfl rfl ?_
  refine x_bipush (pc' := 23) rfl rfl ?_
  refine x_icmp (a' := 30) (pc' := 26) (z := false) rfl rfl rfl (by decide) (fun h => by cases h) (fun _ => ?_)
  refine x_iconst (pc' := 27) rfl rfl ?_
  refine x_goto (pc' := 39) rfl rfl ?_
  refine x_istore (pc' := 41) (ls' := [_, _, _, _, _, _]) rfl rfl rfl rfl ?_
  refine x_iload (pc' := 43) rfl rfl rfl ?_
  refine x_iload_n (pc' := 44) rfl rfl rfl ?_
  refine x_isub (pc' := 45) (z := 1) rfl rfl (by decide) ?_
  refine x_istore (pc' := 47) (ls' := [_, _, _, _, _, _]) rfl rfl rfl rfl ?_
  refine x_iload (pc' := 49) rfl rfl rfl ?_
  refine x_if (a' := 56) (pc' := 52) (z := true) rfl rfl rfl (by decide) (fun _ => ?_) (fun h => by cases h)
  refine x_iload (pc' := 58) rfl rfl rfl ?_
  refine x_iconst (pc' := 59) rfl rfl ?_
  refine x_icmp (a' := 69) (pc' := 62) (z := true) rfl rfl rfl (by decide) (fun _ => ?_) (fun h => by cases h)
  refine x_iload (pc' := 71) rfl rfl rfl ?_
  refine x_iconst (pc' := 72) rfl rfl ?_
  refine x_icmp (a' := 85) (pc' := 75) (z := true) rfl rfl rfl (by decide) (fun _ => ?_) (fun h => by cases h)
  refine x_iload_n (pc' := 86) rfl rfl rfl ?_
  refine x_bipush (pc' := 88) rfl rfl ?_
  refine x_irem (pc' := 89) (z := 1) rfl rfl (by decide) (by decide +kernel) ?_
  refine x_iconst (pc' := 90) rfl rfl ?_
  refine x_isub (pc' := 91) (z := 0) rfl rfl (by decide) ?_
  refine x_reti rfl rfl ?_
  refine sK_i (pc' := 6) rfl ?_
  refine x_istore_n (pc' := 7) (ls' := [_, _, _, _]) rfl rfl rfl rfl ?_
  refine x_iload_n (pc' := 8) rfl rfl rfl ?_
  refine x_iconst (pc' := 9) rfl rfl ?_
  refine x_icmp (a' := 31) (pc' := 12) (z := false) rfl rfl rfl (by decide) (fun h => by cases h) (fun _ => ?_)
  refine x_iload_n (pc' := 13) rfl rfl rfl ?_
  refine x_iconst (pc' := 14) rfl rfl ?_
  refine x_icmp (a' := 29) (pc' := 17) (z := true) rfl rfl rfl (by decide) (fun _ => ?_) (fun h => by cases h)
  refine x_iconst (pc' := 30) rfl rfl ?_
  refine x_retz (z := false) rfl rfl ?_
  refine sK_i (pc' := 56) rfl ?_
  refine x_if (a' := 75) (pc' := 59) (z := true) rfl rfl rfl (by decide) (fun _ => ?_) (fun h => by cases h)
  refine x_aload_n (pc' := 76) rfl rfl rfl rfl rfl ?_
  refine x_gR (pc' := 79) (r := (some 14)) rfl rfl rfl (kR_790_0 hc) ?_
  refine x_aload_n (pc' := 80) rfl rfl rfl rfl rfl ?_
  refine x_gR (pc' := 83) (r := (some 27)) rfl rfl rfl (kR_809_0 hc) ?_
  refine x_iload (pc' := 85) rfl rfl rfl ?_
  refine x_iald (pc' := 86) (N := 200) (x := (io o1)) rfl rfl rfl (kN_21_27 hc) (io_in (p := 1) (N := 200) (by decide) (by decide)) (Eq.trans (congrArg (sA t 21 27) (nn_io (p := 1) (by decide))) hk1) ?_
  refine x_iald (pc' := 87) (N := 200) (x := (mA M 14 o1)) rfl rfl rfl (kN_21_14 hc) (io_in (p := o1) (N := 200) (Nat.lt_of_lt_of_le ho1 (gn200 hR)) (by decide)) (Eq.trans (congrArg (sA t 21 14) (nn_io (p := o1) (Nat.lt_trans (Nat.lt_of_lt_of_le ho1 (gn200 hR)) (by decide)))) (gF14 hM (Fr.refl _))) ?_
  refine x_iadd (pc' := 88) (z := ((0 + (-(mA M 14 o0))) + (mA M 14 o1))) rfl rfl rfl ?_
  refine x_istore_n (pc' := 89) (ls' := [_, _, _, _, _]) rfl rfl rfl rfl ?_
  refine x_iinc (pc' := 92) (y := 2) (ls' := [_, _, _, _, _]) rfl rfl rfl rfl rfl ?_
  refine x_goto (pc' := 39) rfl rfl ?_
  refine x_iload (pc' := 41) rfl rfl rfl ?_
  refine x_aload_n (pc' := 42) rfl rfl rfl rfl rfl ?_
  refine x_gI (pc' := 45) (x := 2) rfl rfl rfl hq ?_
  refine x_icmp (a' := 95) (pc' := 48) (z := true) rfl rfl rfl (by decide) (fun _ => ?_) (fun h => by cases h)
  refine x_iload_n (pc' := 96) rfl rfl rfl ?_
  refine x_reti rfl rfl ?_
  exact q
-- ((0 + (-(mA M 14 o0))) + (mA M 14 o1))
set_option maxHeartbeats 4000000 in
set_option maxRecDepth 10000 in
theorem r159_20 {t : sT} {Q : sRs → sT → Prop} {M : sM} {n : Nat} {s : Bool} (hM : rp t = M) (hc : Cn t) (hR : Ri M n)
    (q : ∀ t', rp t' = M → cp t' = cp t → (∀ L, lgO M n 2 s 0 = some L → Tk t' L) → Q (.inl (some (.inl (bz (lgO M n 2 s 0).isSome)))) t') :
    X 159 0 [.inr (.inr (12, (some 0))), .inl 2, .inl (bz s), .inl 0, sJk, sJk, sJk] [] t Q := by
  refine x_iload_n (pc' := 1) rfl rfl rfl ?_
  refine x_iload_n (pc' := 2) rfl rfl rfl ?_
  refine x_iconst (pc' := 3) rfl rfl ?_
  refine x_cs (ls0 := [_, _, _, sJk, sJk, sJk]) (rest := []) rfl rfl rfl rfl ?_
  refine x_getstatic (pc' := 3) rfl rfl (show 1 < sC t 28 from gst1 hc) ?_
  refine x_iconst (pc' := 4) rfl rfl ?_
  refine x_iload_n (pc' := 5) rfl rfl rfl ?_
  refine x_imul (pc' := 6) (z := 6) rfl rfl (by decide) ?_
  refine x_iload_n (pc' := 7) rfl rfl rfl ?_
  refine x_iadd (pc' := 8) (z := 6) rfl rfl (by decide) ?_
  refine x_iald (pc' := 9) (N := 15) (x := 3) rfl rfl rfl (kN_28_1 hc) (io_in (p := 6) (N := 15) (by decide) (by decide)) (Eq.trans (congrArg (sA t 28 1) (nn_io (p := 6) (by decide))) ((hc.2.2.2.2.2 6).2.trans rfl)) ?_
  refine x_istore_n (pc' := 10) (ls' := [_, _, _, _, _, _]) rfl rfl rfl rfl ?_
  refine x_iload_n (pc' := 11) rfl rfl rfl ?_
  refine x_bipush (pc' := 13) rfl rfl ?_
  refine x_icmp (a' := 20) (pc' := 16) (z := true) rfl rfl rfl (by decide) (fun _ => ?_) (fun h => by cases h)
  refine x_iload_n (pc' := 21) rfl rfl rfl ?_
  refine x_bipush (pc' := 23) rfl rfl ?_
  refine x_icmp (a' := 30) (pc' := 26) (z := true) rfl rfl rfl (by decide) (fun _ => ?_) (fun h => by cases h)
  refine x_iload_n (pc' := 31) rfl rfl rfl ?_
  refine x_if (a' := 38) (pc' := 34) (z := false) rfl rfl rfl (by decide) (fun h => by cases h) (fun _ => ?_)
  refine x_iconst (pc' := 35) rfl rfl ?_
  refine x_goto (pc' := 39) rfl rfl ?_
  refine x_istore (pc' := 41) (ls' := [_, _, _, _, _, _]) rfl rfl rfl rfl ?_
  refine x_iload (pc' := 43) rfl rfl rfl ?_
  refine x_iload_n (pc' := 44) rfl rfl rfl ?_
  refine x_isub (pc' := 45) (z := 1) rfl rfl (by decide) ?_
  refine x_istore (pc' := 47) (ls' := [_, _, _, _, _, _]) rfl rfl rfl rfl ?_
  refine x_iload (pc' := 49) rfl rfl rfl ?_
  refine x_if (a' := 56) (pc' := 52) (z := true) rfl rfl rfl (by decide) (fun _ => ?_) (fun h => by cases h)
  refine x_iload (pc' := 58) rfl rfl rfl ?_
  refine x_iconst (pc' := 59) rfl rfl ?_
  refine x_icmp (a' := 69) (pc' := 62) (z := true) rfl rfl rfl (by decide) (fun _ => ?_) (fun h => by cases h)
  refine x_iload (pc' := 71) rfl rfl rfl ?_
  refine x_iconst (pc' := 72) rfl rfl ?_
  refine x_icmp (a' := 85) (pc' := 75) (z := true) rfl rfl rfl (by decide) (fun _ => ?_) (fun h => by cases h)
  refine x_iload_n (pc' := 86) rfl rfl rfl ?_
  refine x_bipush (pc' := 88) rfl rfl ?_
  refine x_irem (pc' := 89) (z := 3) rfl rfl (by decide) (by decide +kernel) ?_
  refine x_iconst (pc' := 90) rfl rfl ?_
  refine x_isub (pc' := 91) (z := 2) rfl rfl (by decide) ?_
  refine x_reti rfl rfl ?_
  refine sK_i (pc' := 6) rfl ?_
  refine x_iconst (pc' := 7) rfl rfl ?_
  refine x_icmp (a' := 14) (pc' := 10) (z := false) rfl rfl rfl (by decide) (fun h => by cases h) (fun _ => ?_)
  refine x_iconst (pc' := 11) rfl rfl ?_
  refine x_goto (pc' := 15) rfl rfl ?_
  refine x_istore (pc' := 17) (ls' := [_, _, _, _, _, _, _]) rfl rfl rfl rfl ?_
  refine x_aload_n (pc' := 18) rfl rfl rfl rfl rfl ?_
  refine x_iconst (pc' := 19) rfl rfl ?_
  refine x_pI (pc' := 22) rfl rfl rfl ?_
  refine x_iconst (pc' := 23) rfl rfl ?_
  refine x_istore (pc' := 25) (ls' := [_, _, _, _, _, _, _]) rfl rfl rfl rfl ?_
  refine x_iload (pc' := 27) rfl rfl rfl ?_
  refine x_iconst (pc' := 28) rfl rfl ?_
  refine x_icmp (a' := 129) (pc' := 31) (z := false) rfl rfl rfl (by decide) (fun h => by cases h) (fun _ => ?_)
  refine x_iload (pc' := 33) rfl rfl rfl ?_
  refine x_if (a' := 129) (pc' := 36) (z := false) rfl rfl rfl (by decide) (fun h => by cases h) (fun _ => ?_)
  refine x_iload_n (pc' := 37) rfl rfl rfl ?_
  refine x_iload_n (pc' := 38) rfl rfl rfl ?_
  refine x_iload (pc' := 40) rfl rfl rfl ?_
  refine x_cs (ls0 := [_, _, _, sJk, sJk, sJk]) (rest := []) rfl rfl rfl rfl ?_
  refine x_getstatic (pc' := 3) rfl rfl (show 1 < sC t 28 from gst1 hc) ?_
  refine x_iconst (pc' := 4) rfl rfl ?_
  refine x_iload_n (pc' := 5) rfl rfl rfl ?_
  refine x_imul (pc' := 6) (z := 6) rfl rfl (by decide) ?_
  refine x_iload_n (pc' := 7) rfl rfl rfl ?_
  refine x_iadd (pc' := 8) (z := 6) rfl rfl (by decide) ?_
  refine x_iald (pc' := 9) (N := 15) (x := 3) rfl rfl rfl (Eq.trans rdNI (kN_28_1 hc)) (io_in (p := 6) (N := 15) (by decide) (by decide)) (Eq.trans (congrArg (sA (sIw t 811 0 0) 28 1) (nn_io (p := 6) (by decide))) (Eq.trans (b := sA t 28 1 6) rfl ((hc.2.2.2.2.2 6).2.trans rfl))) ?_
  refine x_istore_n (pc' := 10) (ls' := [_, _, _, _, _, _]) rfl rfl rfl rfl ?_
  refine x_iload_n (pc' := 11) rfl rfl rfl ?_
  refine x_bipush (pc' := 13) rfl rfl ?_
  refine x_icmp (a' := 20) (pc' := 16) (z := true) rfl rfl rfl (by decide) (fun _ => ?_) (fun h => by cases h)
  refine x_iload_n (pc' := 21) rfl rfl rfl ?_
  refine x_bipush (pc' := 23) rfl rfl ?_
  refine x_icmp (a' := 30) (pc' := 26) (z := true) rfl rfl rfl (by decide) (fun _ => ?_) (fun h => by cases h)
  refine x_iload_n (pc' := 31) rfl rfl rfl ?_
  refine x_if (a' := 38) (pc' := 34) (z := false) rfl rfl rfl (by decide) (fun h => by cases h) (fun _ => ?_)
  refine x_iconst (pc' := 35) rfl rfl ?_
  refine x_goto (pc' := 39) rfl rfl ?_
  refine x_istore (pc' := 41) (ls' := [_, _, _, _, _, _]) rfl rfl rfl rfl ?_
  refine x_iload (pc' := 43) rfl rfl rfl ?_
  refine x_iload_n (pc' := 44) rfl rfl rfl ?_
  refine x_isub (pc' := 45) (z := 1) rfl rfl (by decide) ?_
  refine x_istore (pc' := 47) (ls' := [_, _, _, _, _, _]) rfl rfl rfl rfl ?_
  refine x_iload (pc' := 49) rfl rfl rfl ?_
  refine x_if (a' := 56) (pc' := 52) (z := true) rfl rfl rfl (by decide) (fun _ => ?_) (fun h => by cases h)
  refine x_iload (pc' := 58) rfl rfl rfl ?_
  refine x_iconst (pc' := 59) rfl rfl ?_
  refine x_icmp (a' := 69) (pc' := 62) (z := true) rfl rfl rfl (by decide) (fun _ => ?_) (fun h => by cases h)
  refine x_iload (pc' := 71) rfl rfl rfl ?_
  refine x_iconst (pc' := 72) rfl rfl ?_
  refine x_icmp (a' := 85) (pc' := 75) (z := true) rfl rfl rfl (by decide) (fun _ => ?_) (fun h => by cases h)
  refine x_iload_n (pc' := 86) rfl rfl rfl ?_
  refine x_bipush (pc' := 88) rfl rfl ?_
  refine x_irem (pc' := 89) (z := 3) rfl rfl (by decide) (by decide +kernel) ?_
  refine x_iconst (pc' := 90) rfl rfl ?_
  refine x_isub (pc' := 91) (z := 2) rfl rfl (by decide) ?_
  refine x_reti rfl rfl ?_
  refine sK_i (pc' := 43) rfl ?_
  refine x_istore (pc' := 45) (ls' := [_, _, _, _, _, _, _]) rfl rfl rfl rfl ?_
  refine x_iload (pc' := 47) rfl rfl rfl ?_
  refine x_iconst (pc' := 48) rfl rfl ?_
  refine x_icmp (a' := 123) (pc' := 51) (z := false) rfl rfl rfl (by decide) (fun h => by cases h) (fun _ => ?_)
  refine x_aload_n (pc' := 52) rfl rfl rfl rfl rfl ?_
  refine x_gR (pc' := 55) (r := (some 27)) rfl rfl rfl (Eq.trans (b := sR t 809 0) rfl (kR_809_0 hc)) ?_
  refine x_aload_n (pc' := 56) rfl rfl rfl rfl rfl ?_
  refine x_gI (pc' := 59) (x := 0) rfl rfl rfl sI_s ?_
  refine x_aload_n (pc' := 60) rfl rfl rfl rfl rfl ?_
  refine x_iload (pc' := 62) rfl rfl rfl ?_
  refine x_iload_n (pc' := 63) rfl rfl rfl ?_
  refine x_iload_n (pc' := 64) rfl rfl rfl ?_
  refine x_iload (pc' := 66) rfl rfl rfl ?_
  refine x_cs (ls0 := [_, _, _, sJk]) (rest := [_, _, _, _]) rfl rfl rfl rfl ?_
  refine x_iload_n (pc' := 1) rfl rfl rfl ?_
  refine x_iload_n (pc' := 2) rfl rfl rfl ?_
  refine x_iload_n (pc' := 3) rfl rfl rfl ?_
  refine x_cs (ls0 := [_, _, _, sJk, sJk, sJk]) (rest := []) rfl rfl rfl rfl ?_
  refine x_getstatic (pc' := 3) rfl rfl (show 1 < sC t 28 from gst1 hc) ?_
  refine x_iconst (pc' := 4) rfl rfl ?_
  refine x_iload_n (pc' := 5) rfl rfl rfl ?_
  refine x_imul (pc' := 6) (z := 6) rfl rfl (by decide) ?_
  refine x_iload_n (pc' := 7) rfl rfl rfl ?_
  refine x_iadd (pc' := 8) (z := 6) rfl rfl (by decide) ?_
  refine x_iald (pc' := 9) (N := 15) (x := 3) rfl rfl rfl (Eq.trans rdNI (kN_28_1 hc)) (io_in (p := 6) (N := 15) (by decide) (by decide)) (Eq.trans (congrArg (sA (sIw t 811 0 0) 28 1) (nn_io (p := 6) (by decide))) (Eq.trans (b := sA t 28 1 6) rfl ((hc.2.2.2.2.2 6).2.trans rfl))) ?_
  refine x_istore_n (pc' := 10) (ls' := [_, _, _, _, _, _]) rfl rfl rfl rfl ?_
  refine x_iload_n (pc' := 11) rfl rfl rfl ?_
  refine x_bipush (pc' := 13) rfl rfl ?_
  refine x_icmp (a' := 20) (pc' := 16) (z := true) rfl rfl rfl (by decide) (fun _ => ?_) (fun h => by cases h)
  refine x_iload_n (pc' := 21) rfl rfl rfl ?_
  refine x_bipush (pc' := 23) rfl rfl ?_
  refine x_icmp (a' := 30) (pc' := 26) (z := true) rfl rfl rfl (by decide) (fun _ => ?_) (fun h => by cases h)
  refine x_iload_n (pc' := 31) rfl rfl rfl ?_
  refine x_if (a' := 38) (pc' := 34) (z := false) rfl rfl rfl (by decide) (fun h => by cases h) (fun _ => ?_)
  refine x_iconst (pc' := 35) rfl rfl ?_
  refine x_goto (pc' := 39) rfl rfl ?_
  refine x_istore (pc' := 41) (ls' := [_, _, _, _, _, _]) rfl rfl rfl rfl ?_
  refine x_iload (pc' := 43) rfl rfl rfl ?_
  refine x_iload_n (pc' := 44) rfl rfl rfl ?_
  refine x_isub (pc' := 45) (z := 1) rfl rfl (by decide) ?_
  refine x_istore (pc' := 47) (ls' := [_, _, _, _, _, _]) rfl rfl rfl rfl ?_
  refine x_iload (pc' := 49) rfl rfl rfl ?_
  refine x_if (a' := 56) (pc' := 52) (z := true) rfl rfl rfl (by decide) (fun _ => ?_) (fun h => by cases h)
  refine x_iload (pc' := 58) rfl rfl rfl ?_
  refine x_iconst (pc' := 59) rfl rfl ?_
  refine x_icmp (a' := 69) (pc' := 62) (z := true) rfl rfl rfl (by decide) (fun _ => ?_) (fun h => by cases h)
  refine x_iload (pc' := 71) rfl rfl rfl ?_
  refine x_iconst (pc' := 72) rfl rfl ?_
  refine x_icmp (a' := 85) (pc' := 75) (z := true) rfl rfl rfl (by decide) (fun _ => ?_) (fun h => by cases h)
  refine x_iload_n (pc' := 86) rfl rfl rfl ?_
  refine x_bipush (pc' := 88) rfl rfl ?_
  refine x_irem (pc' := 89) (z := 3) rfl rfl (by decide) (by decide +kernel) ?_
  refine x_iconst (pc' := 90) rfl rfl ?_
  refine x_isub (pc' := 91) (z := 2) rfl rfl (by decide) ?_
  refine x_reti rfl rfl ?_
  refine sK_i (pc' := 6) rfl ?_
  refine x_istore_n (pc' := 7) (ls' := [_, _, _, _]) rfl rfl rfl rfl ?_
  refine x_iload_n (pc' := 8) rfl rfl rfl ?_
  refine x_iconst (pc' := 9) rfl rfl ?_
  refine x_icmp (a' := 31) (pc' := 12) (z := false) rfl rfl rfl (by decide) (fun h => by cases h) (fun _ => ?_)
  refine x_iload_n (pc' := 13) rfl rfl rfl ?_
  refine x_iconst (pc' := 14) rfl rfl ?_
  refine x_icmp (a' := 29) (pc' := 17) (z := true) rfl rfl rfl (by decide) (fun _ => ?_) (fun h => by cases h)
  refine x_iconst (pc' := 30) rfl rfl ?_
  refine x_retz (z := false) rfl rfl ?_
  refine sK_i (pc' := 69) rfl ?_
  refine x_iload_n (pc' := 70) rfl rfl rfl ?_
  have J25 : X 159 78 [.inr (.inr (12, (some 0))), .inl 2, .inl (bz s), .inl 0, .inl 1, .inl 0, .inl 2] [.inl (bz (!(xor false s))), .inl 2, .inr (.inr (12, (some 0))), .inl 0, .inr (.inr (21, (some 27)))] (sIw t 811 0 0) Q := by
    refine x_cv (ls0 := [_, _, _, sJk, sJk, sJk]) (rest := [_, _]) rfl rfl rfl rfl rfl ?_
    refine r153 (b := 2) (s := (!(xor false s))) ((rp_Ic rfl).trans hM) (Cn_cp (cp_I rfl) hc) (Fr.ri (Fr.refl _) hR) (show 2 < 5 by decide) (fun b1 => ?_)
    refine sK_i (pc' := 81) rfl ?_
    refine x_iast (pc' := 82) (N := 200) (p := 0) rfl rfl rfl (Eq.trans rdNI (kN_21_27 hc)) (io_in (p := 0) (N := 200) (by decide) (by decide)) (nn_io (p := 0) (by decide)) ?_
    refine x_aload_n (pc' := 83) rfl rfl rfl rfl rfl ?_
    refine x_gR (pc' := 86) (r := (some 0)) rfl rfl rfl (Eq.trans (b := sR t 769 0) rfl (kR_769_0 hc)) ?_
    refine x_iload (pc' := 88) rfl rfl rfl ?_
    refine x_iald (pc' := 89) (N := 5) (x := (mA M 0 2)) rfl rfl rfl (Eq.trans rdNA (Eq.trans rdNI (kN_21_0 hc))) (io_in (p := 2) (N := 5) (by decide) (by decide)) (Eq.trans (congrArg (sA (sAw (sIw t 811 0 0) 21 27 0 (ov (bsF M n 2 (!(xor false s))))) 21 0) (nn_io (p := 2) (by decide))) (Eq.trans (b := sA t 21 0 2) rfl (gA hM rfl))) ?_
    refine x_iconst (pc' := 90) rfl rfl ?_
    have J28 : X 159 111 [.inr (.inr (12, (some 0))), .inl 2, .inl (bz s), .inl 0, .inl 1, .inl 0, .inl 2] [.inl (bz ((decide ((mA M 0 2) = 2)) && (!((bsF M n 2 (!(xor false s))).isNone))))] (sAw (sIw t 811 0 0) 21 27 0 (ov (bsF M n 2 (!(xor false s))))) Q := by
      refine x_istore (pc' := 113) (ls' := [_, _, _, _, _, _, _]) rfl rfl rfl rfl ?_
      refine x_aload_n (pc' := 114) rfl rfl rfl rfl rfl ?_
      refine x_dup (pc' := 115) rfl rfl rfl ?_
      refine x_gI (pc' := 118) (x := 0) rfl rfl rfl (Eq.trans rdIA sI_s) ?_
      refine x_iconst (pc' := 119) rfl rfl ?_
      refine x_iadd (pc' := 120) (z := 1) rfl rfl (by decide) ?_
      refine x_pI (pc' := 123) rfl rfl rfl ?_
      refine x_iinc (pc' := 126) (y := 1) (ls' := [_, _, _, _, _, _, _]) rfl rfl rfl rfl rfl ?_
      refine x_goto (pc' := 25) rfl rfl ?_
      refine x_iload (pc' := 27) rfl rfl rfl ?_
      refine x_iconst (pc' := 28) rfl rfl ?_
      refine x_icmp (a' := 129) (pc' := 31) (z := false) rfl rfl rfl (by decide) (fun h => by cases h) (fun _ => ?_)
      refine x_iload (pc' := 33) rfl rfl rfl ?_
      have J44 : X 159 129 [.inr (.inr (12, (some 0))), .inl 2, .inl (bz s), .inl 0, .inl (bz ((decide ((mA M 0 2) = 2)) && (!((bsF M n 2 (!(xor false s))).isNone)))), .inl (bif ((decide ((mA M 0 2) = 2)) && (!((bsF M n 2 (!(xor false s))).isNone))) then 3 else 1), .inl (bif ((decide ((mA M 0 2) = 2)) && (!((bsF M n 2 (!(xor false s))).isNone))) then (-1) else 2)] [] (sIw (sAw (sIw t 811 0 0) 21 27 0 (ov (bsF M n 2 (!(xor false s))))) 811 0 1) Q := by
        refine x_iload (pc' := 131) rfl rfl rfl ?_
        refine x_retz (z := ((decide ((mA M 0 2) = 2)) && (!((bsF M n 2 (!(xor false s))).isNone)))) rfl rfl ?_
        exact qv (congrArg (fun z : Bool => (.inl (some (.inl (bz z))) : sRs)) lgF_1.symm) (q _ ((rp_Ic rfl).trans ((rp_As rfl).trans ((rp_Ic rfl).trans hM))) ((cp_I rfl).trans (cp_A.trans (cp_I rfl))) (fun L hL => by obtain ⟨l0, z0, h0, j0, rfl⟩ := lgF_i hL; cases lgF_nil h0; exact ⟨rfl, ov_io (an_n z0), trivial⟩))
      refine x_ifeq_z (a' := 129) (pc' := 36) (z := ((decide ((mA M 0 2) = 2)) && (!((bsF M n 2 (!(xor false s))).isNone)))) rfl rfl rfl (fun q31 => ?_) (fun q31 => ?_)
      · ((try rw [q31] at J44); (try rw [q31]); (try simp only [cd_t, cd_f, nt_t, nt_f, an_t, an_f, or_t, or_f] at J44); (try simp only [cd_t, cd_f, nt_t, nt_f, an_t, an_f, or_t, or_f]); exact J44)
      · refine x_iload_n (pc' := 37) rfl rfl rfl ?_
        refine x_iload_n (pc' := 38) rfl rfl rfl ?_
        refine x_iload (pc' := 40) rfl rfl rfl ?_
        refine x_cs (ls0 := [_, _, _, sJk, sJk, sJk]) (rest := []) rfl rfl rfl rfl ?_
        refine x_getstatic (pc' := 3) rfl rfl (show 1 < sC t 28 from gst1 hc) ?_
        refine x_iconst (pc' := 4) rfl rfl ?_
        refine x_iload_n (pc' := 5) rfl rfl rfl ?_
        refine x_imul (pc' := 6) (z := 6) rfl rfl (by decide) ?_
        refine x_iload_n (pc' := 7) rfl rfl rfl ?_
        refine x_iadd (pc' := 8) (z := 6) rfl rfl (by decide) ?_
        refine x_iald (pc' := 9) (N := 15) (x := 3) rfl rfl rfl (Eq.trans rdNI (Eq.trans rdNA (Eq.trans rdNI (kN_28_1 hc)))) (io_in (p := 6) (N := 15) (by decide) (by decide)) (Eq.trans (congrArg (sA (sIw (sAw (sIw t 811 0 0) 21 27 0 (ov (bsF M n 2 (!(xor false s))))) 811 0 1) 28 1) (nn_io (p := 6) (by decide))) (Eq.trans (b := sA t 28 1 6) rfl ((hc.2.2.2.2.2 6).2.trans rfl))) ?_
        refine x_istore_n (pc' := 10) (ls' := [_, _, _, _, _, _]) rfl rfl rfl rfl ?_
        refine x_iload_n (pc' := 11) rfl rfl rfl ?_
        refine x_bipush (pc' := 13) rfl rfl ?_
        refine x_icmp (a' := 20) (pc' := 16) (z := true) rfl rfl rfl (by decide) (fun _ => ?_) (fun h => by cases h)
        refine x_iload_n (pc' := 21) rfl rfl rfl ?_
        refine x_bipush (pc' := 23) rfl rfl ?_
        refine x_icmp (a' := 30) (pc' := 26) (z := true) rfl rfl rfl (by decide) (fun _ => ?_) (fun h => by cases h)
        refine x_iload_n (pc' := 31) rfl rfl rfl ?_
        refine x_if (a' := 38) (pc' := 34) (z := false) rfl rfl rfl (by decide) (fun h => by cases h) (fun _ => ?_)
        refine x_iconst (pc' := 35) rfl rfl ?_
        refine x_goto (pc' := 39) rfl rfl ?_
        refine x_istore (pc' := 41) (ls' := [_, _, _, _, _, _]) rfl rfl rfl rfl ?_
        refine x_iload (pc' := 43) rfl rfl rfl ?_
        refine x_iload_n (pc' := 44) rfl rfl rfl ?_
        refine x_isub (pc' := 45) (z := 0) rfl rfl (by decide) ?_
        refine x_istore (pc' := 47) (ls' := [_, _, _, _, _, _]) rfl rfl rfl rfl ?_
        refine x_iload (pc' := 49) rfl rfl rfl ?_
        refine x_if (a' := 56) (pc' := 52) (z := false) rfl rfl rfl (by decide) (fun h => by cases h) (fun _ => ?_)
        refine x_iconst (pc' := 53) rfl rfl ?_
        refine x_goto (pc' := 91) rfl rfl ?_
        refine x_reti rfl rfl ?_
        refine sK_i (pc' := 43) rfl ?_
        refine x_istore (pc' := 45) (ls' := [_, _, _, _, _, _, _]) rfl rfl rfl rfl ?_
        refine x_iload (pc' := 47) rfl rfl rfl ?_
        refine x_iconst (pc' := 48) rfl rfl ?_
        refine x_icmp (a' := 123) (pc' := 51) (z := true) rfl rfl rfl (by decide) (fun _ => ?_) (fun h => by cases h)
        refine x_iinc (pc' := 126) (y := 2) (ls' := [_, _, _, _, _, _, _]) rfl rfl rfl rfl rfl ?_
        refine x_goto (pc' := 25) rfl rfl ?_
        refine x_iload (pc' := 27) rfl rfl rfl ?_
        refine x_iconst (pc' := 28) rfl rfl ?_
        refine x_icmp (a' := 129) (pc' := 31) (z := false) rfl rfl rfl (by decide) (fun h => by cases h) (fun _ => ?_)
        refine x_iload (pc' := 33) rfl rfl rfl ?_
        refine x_ifeq_z (a' := 129) (pc' := 36) (z := ((decide ((mA M 0 2) = 2)) && (!((bsF M n 2 (!(xor false s))).isNone)))) rfl rfl rfl (fun h => zz_no q31 h) (fun _ => ?_)
        refine x_iload_n (pc' := 37) rfl rfl rfl ?_
        refine x_iload_n (pc' := 38) rfl rfl rfl ?_
        refine x_iload (pc' := 40) rfl rfl rfl ?_
        refine x_cs (ls0 := [_, _, _, sJk, sJk, sJk]) (rest := []) rfl rfl rfl rfl ?_
        refine x_getstatic (pc' := 3) rfl rfl (show 1 < sC t 28 from gst1 hc) ?_
        refine x_iconst (pc' := 4) rfl rfl ?_
        refine x_iload_n (pc' := 5) rfl rfl rfl ?_
        refine x_imul (pc' := 6) (z := 6) rfl rfl (by decide) ?_
        refine x_iload_n (pc' := 7) rfl rfl rfl ?_
        refine x_iadd (pc' := 8) (z := 6) rfl rfl (by decide) ?_
        refine x_iald (pc' := 9) (N := 15) (x := 3) rfl rfl rfl (Eq.trans rdNI (Eq.trans rdNA (Eq.trans rdNI (kN_28_1 hc)))) (io_in (p := 6) (N := 15) (by decide) (by decide)) (Eq.trans (congrArg (sA (sIw (sAw (sIw t 811 0 0) 21 27 0 (ov (bsF M n 2 (!(xor false s))))) 811 0 1) 28 1) (nn_io (p := 6) (by decide))) (Eq.trans (b := sA t 28 1 6) rfl ((hc.2.2.2.2.2 6).2.trans rfl))) ?_
        refine x_istore_n (pc' := 10) (ls' := [_, _, _, _, _, _]) rfl rfl rfl rfl ?_
        refine x_iload_n (pc' := 11) rfl rfl rfl ?_
        refine x_bipush (pc' := 13) rfl rfl ?_
        refine x_icmp (a' := 20) (pc' := 16) (z := true) rfl rfl rfl (by decide) (fun _ => ?_) (fun h => by cases h)
        refine x_iload_n (pc' := 21) rfl rfl rfl ?_
        refine x_bipush (pc' := 23) rfl rfl ?_
        refine x_icmp (a' := 30) (pc' := 26) (z := true) rfl rfl rfl (by decide) (fun _ => ?_) (fun h => by cases h)
        refine x_iload_n (pc' := 31) rfl rfl rfl ?_
        refine x_if (a' := 38) (pc' := 34) (z := false) rfl rfl rfl (by decide) (fun h => by cases h) (fun _ => ?_)
        refine x_iconst (pc' := 35) rfl rfl ?_
        refine x_goto (pc' := 39) rfl rfl ?_
        refine x_istore (pc' := 41) (ls' := [_, _, _, _, _, _]) rfl rfl rfl rfl ?_
        refine x_iload (pc' := 43) rfl rfl rfl ?_
        refine x_iload_n (pc' := 44) rfl rfl rfl ?_
        refine x_isub (pc' := 45) (z := (-1)) rfl rfl (by decide) ?_
        refine x_istore (pc' := 47) (ls' := [_, _, _, _, _, _]) rfl rfl rfl rfl ?_
        refine x_iload (pc' := 49) rfl rfl rfl ?_
        refine x_if (a' := 56) (pc' := 52) (z := false) rfl rfl rfl (by decide) (fun h => by cases h) (fun _ => ?_)
        refine x_iconst (pc' := 53) rfl rfl ?_
        refine x_goto (pc' := 91) rfl rfl ?_
        refine x_reti rfl rfl ?_
        refine sK_i (pc' := 43) rfl ?_
        refine x_istore (pc' := 45) (ls' := [_, _, _, _, _, _, _]) rfl rfl rfl rfl ?_
        refine x_iload (pc' := 47) rfl rfl rfl ?_
        refine x_iconst (pc' := 48) rfl rfl ?_
        refine x_icmp (a' := 123) (pc' := 51) (z := true) rfl rfl rfl (by decide) (fun _ => ?_) (fun h => by cases h)
        refine x_iinc (pc' := 126) (y := 3) (ls' := [_, _, _, _, _, _, _]) rfl rfl rfl rfl rfl ?_
        refine x_goto (pc' := 25) rfl rfl ?_
        refine x_iload (pc' := 27) rfl rfl rfl ?_
        refine x_iconst (pc' := 28) rfl rfl ?_
        refine x_icmp (a' := 129) (pc' := 31) (z := true) rfl rfl rfl (by decide) (fun _ => ?_) (fun h => by cases h)
        ((try rw [q31] at J44); (try rw [q31]); (try simp only [cd_t, cd_f, nt_t, nt_f, an_t, an_f, or_t, or_f] at J44); (try simp only [cd_t, cd_f, nt_t, nt_f, an_t, an_f, or_t, or_f]); exact J44)
    refine x_icmp_n (a' := 110) (pc' := 93) (z := decide ((mA M 0 2) = 2)) rfl rfl rfl (ik_ne _ _) (fun q27 => ?_) (fun q27 => ?_)
    · refine x_iconst (pc' := 111) rfl rfl ?_
      ((try rw [q27] at J28); (try rw [q27]); (try simp only [cd_t, cd_f, nt_t, nt_f, an_t, an_f, or_t, or_f] at J28); (try simp only [cd_t, cd_f, nt_t, nt_f, an_t, an_f, or_t, or_f]); exact J28)
    · refine x_aload_n (pc' := 94) rfl rfl rfl rfl rfl ?_
      refine x_gR (pc' := 97) (r := (some 27)) rfl rfl rfl (Eq.trans (b := sR t 809 0) rfl (kR_809_0 hc)) ?_
      refine x_aload_n (pc' := 98) rfl rfl rfl rfl rfl ?_
      refine x_gI (pc' := 101) (x := 0) rfl rfl rfl (Eq.trans rdIA sI_s) ?_
      refine x_iald (pc' := 102) (N := 200) (x := (ov (bsF M n 2 (!(xor false s))))) rfl rfl rfl (Eq.trans rdNA (Eq.trans rdNI (kN_21_27 hc))) (io_in (p := 0) (N := 200) (by decide) (by decide)) (Eq.trans (congrArg (sA (sAw (sIw t 811 0 0) 21 27 0 (ov (bsF M n 2 (!(xor false s))))) 21 27) (nn_io (p := 0) (by decide))) sA_s) ?_
      refine x_iconst (pc' := 103) rfl rfl ?_
      refine x_icmp (a' := 110) (pc' := 106) (z := (bsF M n 2 (!(xor false s))).isNone) rfl rfl rfl (ov_eq (ov_31 (N := n) b1 (Nat.le_of_lt (gn31 hR)))) (fun q28 => ?_) (fun q28 => ?_)
      · refine x_iconst (pc' := 111) rfl rfl ?_
        ((try rw [q28] at J28); (try rw [q28]); (try rw [q27] at J28); (try rw [q27]); (try simp only [cd_t, cd_f, nt_t, nt_f, an_t, an_f, or_t, or_f] at J28); (try simp only [cd_t, cd_f, nt_t, nt_f, an_t, an_f, or_t, or_f]); exact J28)
      · refine x_iconst (pc' := 107) rfl rfl ?_
        refine x_goto (pc' := 111) rfl rfl ?_
        ((try rw [q28] at J28); (try rw [q28]); (try rw [q27] at J28); (try rw [q27]); (try simp only [cd_t, cd_f, nt_t, nt_f, an_t, an_f, or_t, or_f] at J28); (try simp only [cd_t, cd_f, nt_t, nt_f, an_t, an_f, or_t, or_f]); exact J28)
  refine x_icmp (a' := 77) (pc' := 73) (z := (xor false s)) rfl rfl rfl (bz_neb _ _) (fun q25 => ?_) (fun q25 => ?_)
  · refine x_iconst (pc' := 78) rfl rfl ?_
    ((try rw [q25] at J25); (try rw [q25]); (try simp only [cd_t, cd_f, nt_t, nt_f, an_t, an_f, or_t, or_f] at J25); (try simp only [cd_t, cd_f, nt_t, nt_f, an_t, an_f, or_t, or_f]); exact J25)
  · refine x_iconst (pc' := 74) rfl rfl ?_
    refine x_goto (pc' := 78) rfl rfl ?_
    ((try rw [q25] at J25); (try rw [q25]); (try simp only [cd_t, cd_f, nt_t, nt_f, an_t, an_f, or_t, or_f] at J25); (try simp only [cd_t, cd_f, nt_t, nt_f, an_t, an_f, or_t, or_f]); exact J25)
set_option maxHeartbeats 4000000 in
set_option maxRecDepth 10000 in
theorem r160_20 {t : sT} {Q : sRs → sT → Prop} {M : sM} {n : Nat} {o0 : Nat}
    (hM : rp t = M)
    (hc : Cn t)
    (hR : Ri M n)
    (ho0 : o0 < n)
    (hq : sI t 811 0 = 1)
    (hk0 : sA t 21 27 0 = io o0)
    (q : Q (.inl (some (.inl (prF M 2 0 [o0])))) t) :
    X 160 0 [.inr (.inr (12, (some 0))), .inl 2, .inl 0, sJk, sJk] [] t Q := by
  refine x_iload_n (pc' := 1) rfl rfl rfl ?_
  refine x_iconst (pc' := 2) rfl rfl ?_
  refine x_icmp (a' := 34) (pc' := 5) (z := true) rfl rfl rfl (by decide) (fun _ => ?_) (fun h => by cases h)
  refine x_iconst (pc' := 35) rfl rfl ?_
  refine x_istore_n (pc' := 36) (ls' := [_, _, _, _, _]) rfl rfl rfl rfl ?_
  refine x_iconst (pc' := 37) rfl rfl ?_
  refine x_istore (pc' := 39) (ls' := [_, _, _, _, _]) rfl rfl rfl rfl ?_
  refine x_iload (pc' := 41) rfl rfl rfl ?_
  refine x_aload_n (pc' := 42) rfl rfl rfl rfl rfl ?_
  refine x_gI (pc' := 45) (x := 1) rfl rfl rfl hq ?_
  refine x_icmp (a' := 95) (pc' := 48) (z := false) rfl rfl rfl (by decide) (fun h => by cases h) (fun _ => ?_)
  refine x_iload_n (pc' := 49) rfl rfl rfl ?_
  refine x_iload_n (pc' := 50) rfl rfl rfl ?_
  refine x_iload_n (pc' := 51) rfl rfl rfl ?_
  refine x_iload (pc' := 53) rfl rfl rfl ?_
  refine x_cs (ls0 := [_, _, _, sJk]) (rest := [_]) rfl rfl rfl rfl ?_
  refine x_iload_n (pc' := 1) rfl rfl rfl ?_
  refine x_iload_n (pc' := 2) rfl rfl rfl ?_
  refine x_iload_n (pc' := 3) rfl rfl rfl ?_
  refine x_cs (ls0 := [_, _, _, sJk, sJk, sJk]) (rest := []) rfl rfl rfl rfl ?_
  refine x_getstatic (pc' := 3) rfl rfl (show 1 < sC t 28 from gst1 hc) ?_
  refine x_iconst (pc' := 4) rfl rfl ?_
  refine x_iload_n (pc' := 5) rfl rfl rfl ?_
  refine x_imul (pc' := 6) (z := 6) rfl rfl (by decide) ?_
  refine x_iload_n (pc' := 7) rfl rfl rfl ?_
  refine x_iadd (pc' := 8) (z := 6) rfl rfl (by decide) ?_
  refine x_iald (pc' := 9) (N := 15) (x := 3) rfl rfl rfl (kN_28_1 hc) (io_in (p := 6) (N := 15) (by decide) (by decide)) (Eq.trans (congrArg (sA t 28 1) (nn_io (p := 6) (by decide))) ((hc.2.2.2.2.2 6).2.trans rfl)) ?_
  refine x_istore_n (pc' := 10) (ls' := [_, _, _, _, _, _]) rfl rfl rfl rfl ?_
  refine x_iload_n (pc' := 11) rfl rfl rfl ?_
  refine x_bipush (pc' := 13) rfl rfl ?_
  refine x_icmp (a' := 20) (pc' := 16) (z := true) rfl rfl rfl (by decide) (fun _ => ?_) (fun h => by cases h)
  refine x_iload_n (pc' := 21) rfl rfl rfl ?_
  refine x_bipush (pc' := 23) rfl rfl ?_
  refine x_icmp (a' := 30) (pc' := 26) (z := true) rfl rfl rfl (by decide) (fun _ => ?_) (fun h => by cases h)
  refine x_iload_n (pc' := 31) rfl rfl rfl ?_
  refine x_if (a' := 38) (pc' := 34) (z := false) rfl rfl rfl (by decide) (fun h => by cases h) (fun _ => ?_)
  refine x_iconst (pc' := 35) rfl rfl ?_
  refine x_goto (pc' := 39) rfl rfl ?_
  refine x_istore (pc' := 41) (ls' := [_, _, _, _, _, _]) rfl rfl rfl rfl ?_
  refine x_iload (pc' := 43) rfl rfl rfl ?_
  refine x_iload_n (pc' := 44) rfl rfl rfl ?_
  refine x_isub (pc' := 45) (z := 1) rfl rfl (by decide) ?_
  refine x_istore (pc' := 47) (ls' := [_, _, _, _, _, _]) rfl rfl rfl rfl ?_
  refine x_iload (pc' := 49) rfl rfl rfl ?_
  refine x_if (a' := 56) (pc' := 52) (z := true) rfl rfl rfl (by decide) (fun _ => ?_) (fun h => by cases h)
  refine x_iload (pc' := 58) rfl rfl rfl ?_
  refine x_iconst (pc' := 59) rfl rfl ?_
  refine x_icmp (a' := 69) (pc' := 62) (z := true) rfl rfl rfl (by decide) (fun _ => ?_) (fun h => by cases h)
  refine x_iload (pc' := 71) rfl rfl rfl ?_
  refine x_iconst (pc' := 72) rfl rfl ?_
  refine x_icmp (a' := 85) (pc' := 75) (z := true) rfl rfl rfl (by decide) (fun _ => ?_) (fun h => by cases h)
  refine x_iload_n (pc' := 86) rfl rfl rfl ?_
  refine x_bipush (pc' := 88) rfl rfl ?_
  refine x_irem (pc' := 89) (z := 3) rfl rfl (by decide) (by decide +kernel) ?_
  refine x_iconst (pc' := 90) rfl rfl ?_
  refine x_isub (pc' := 91) (z := 2) rfl rfl (by decide) ?_
  refine x_reti rfl rfl ?_
  refine sK_i (pc' := 6) rfl ?_
  refine x_istore_n (pc' := 7) (ls' := [_, _, _, _]) rfl rfl rfl rfl ?_
  refine x_iload_n (pc' := 8) rfl rfl rfl ?_
  refine x_iconst (pc' := 9) rfl rfl ?_
  refine x_icmp (a' := 31) (pc' := 12) (z := false) rfl rfl rfl (by decide) (fun h => by cases h) (fun _ => ?_)
  refine x_iload_n (pc' := 13) rfl rfl rfl ?_
  refine x_iconst (pc' := 14) rfl rfl ?_
  refine x_icmp (a' := 29) (pc' := 17) (z := true) rfl rfl rfl (by decide) (fun _ => ?_) (fun h => by cases h)
  refine x_iconst (pc' := 30) rfl rfl ?_
  refine x_retz (z := false) rfl rfl ?_
  refine sK_i (pc' := 56) rfl ?_
  refine x_if (a' := 75) (pc' := 59) (z := true) rfl rfl rfl (by decide) (fun _ => ?_) (fun h => by cases h)
  refine x_aload_n (pc' := 76) rfl rfl rfl rfl rfl ?_
  refine x_gR (pc' := 79) (r := (some 14)) rfl rfl rfl (kR_790_0 hc) ?_
  refine x_aload_n (pc' := 80) rfl rfl rfl rfl rfl ?_
  refine x_gR (pc' := 83) (r := (some 27)) rfl rfl rfl (kR_809_0 hc) ?_
  refine x_iload (pc' := 85) rfl rfl rfl ?_
  refine x_iald (pc' := 86) (N := 200) (x := (io o0)) rfl rfl rfl (kN_21_27 hc) (io_in (p := 0) (N := 200) (by decide) (by decide)) (Eq.trans (congrArg (sA t 21 27) (nn_io (p := 0) (by decide))) hk0) ?_
  refine x_iald (pc' := 87) (N := 200) (x := (mA M 14 o0)) rfl rfl rfl (kN_21_14 hc) (io_in (p := o0) (N := 200) (Nat.lt_of_lt_of_le ho0 (gn200 hR)) (by decide)) (Eq.trans (congrArg (sA t 21 14) (nn_io (p := o0) (Nat.lt_trans (Nat.lt_of_lt_of_le ho0 (gn200 hR)) (by decide)))) (gF14 hM (Fr.refl _))) ?_
  refine x_iadd (pc' := 88) (z := (0 + (mA M 14 o0))) rfl rfl rfl ?_
  refine x_istore_n (pc' := 89) (ls' := [_, _, _, _, _]) rfl rfl rfl rfl ?_
  refine x_iinc (pc' := 92) (y := 1) (ls' := [_, _, _, _, _]) rfl rfl rfl rfl rfl ?_
  refine x_goto (pc' := 39) rfl rfl ?_
  refine x_iload (pc' := 41) rfl rfl rfl ?_
  refine x_aload_n (pc' := 42) rfl rfl rfl rfl rfl ?_
  refine x_gI (pc' := 45) (x := 1) rfl rfl rfl hq ?_
  refine x_icmp (a' := 95) (pc' := 48) (z := true) rfl rfl rfl (by decide) (fun _ => ?_) (fun h => by cases h)
  refine x_iload_n (pc' := 96) rfl rfl rfl ?_
  refine x_reti rfl rfl ?_
  exact q
-- (0 + (mA M 14 o0))
set_option maxHeartbeats 4000000 in
set_option maxRecDepth 10000 in
theorem r159_21 {t : sT} {Q : sRs → sT → Prop} {M : sM} {n : Nat} {s : Bool} (hM : rp t = M) (hc : Cn t) (hR : Ri M n)
    (q : ∀ t', rp t' = M → cp t' = cp t → (∀ L, lgO M n 2 s 1 = some L → Tk t' L) → Q (.inl (some (.inl (bz (lgO M n 2 s 1).isSome)))) t') :
    X 159 0 [.inr (.inr (12, (some 0))), .inl 2, .inl (bz s), .inl 1, sJk, sJk, sJk] [] t Q := by
  refine x_iload_n (pc' := 1) rfl rfl rfl ?_
  refine x_iload_n (pc' := 2) rfl rfl rfl ?_
  refine x_iconst (pc' := 3) rfl rfl ?_
  refine x_cs (ls0 := [_, _, _, sJk, sJk, sJk]) (rest := []) rfl rfl rfl rfl ?_
  refine x_getstatic (pc' := 3) rfl rfl (show 1 < sC t 28 from gst1 hc) ?_
  refine x_iconst (pc' := 4) rfl rfl ?_
  refine x_iload_n (pc' := 5) rfl rfl rfl ?_
  refine x_imul (pc' := 6) (z := 6) rfl rfl (by decide) ?_
  refine x_iload_n (pc' := 7) rfl rfl rfl ?_
  refine x_iadd (pc' := 8) (z := 7) rfl rfl (by decide) ?_
  refine x_iald (pc' := 9) (N := 15) (x := 52) rfl rfl rfl (kN_28_1 hc) (io_in (p := 7) (N := 15) (by decide) (by decide)) (Eq.trans (congrArg (sA t 28 1) (nn_io (p := 7) (by decide))) ((hc.2.2.2.2.2 7).2.trans rfl)) ?_
  refine x_istore_n (pc' := 10) (ls' := [_, _, _, _, _, _]) rfl rfl rfl rfl ?_
  refine x_iload_n (pc' := 11) rfl rfl rfl ?_
  refine x_bipush (pc' := 13) rfl rfl ?_
  refine x_icmp (a' := 20) (pc' := 16) (z := true) rfl rfl rfl (by decide) (fun _ => ?_) (fun h => by cases h)
  refine x_iload_n (pc' := 21) rfl rfl rfl ?_
  refine x_bipush (pc' := 23) rfl rfl ?_
  refine x_icmp (a' := 30) (pc' := 26) (z := false) rfl rfl rfl (by decide) (fun h => by cases h) (fun _ => ?_)
  refine x_iconst (pc' := 27) rfl rfl ?_
  refine x_goto (pc' := 39) rfl rfl ?_
  refine x_istore (pc' := 41) (ls' := [_, _, _, _, _, _]) rfl rfl rfl rfl ?_
  refine x_iload (pc' := 43) rfl rfl rfl ?_
  refine x_iload_n (pc' := 44) rfl rfl rfl ?_
  refine x_isub (pc' := 45) (z := 2) rfl rfl (by decide) ?_
  refine x_istore (pc' := 47) (ls' := [_, _, _, _, _, _]) rfl rfl rfl rfl ?_
  refine x_iload (pc' := 49) rfl rfl rfl ?_
  refine x_if (a' := 56) (pc' := 52) (z := true) rfl rfl rfl (by decide) (fun _ => ?_) (fun h => by cases h)
  refine x_iload (pc' := 58) rfl rfl rfl ?_
  refine x_iconst (pc' := 59) rfl rfl ?_
  refine x_icmp (a' := 69) (pc' := 62) (z := true) rfl rfl rfl (by decide) (fun _ => ?_) (fun h => by cases h)
  refine x_iload (pc' := 71) rfl rfl rfl ?_
  refine x_iconst (pc' := 72) rfl rfl ?_
  refine x_icmp (a' := 85) (pc' := 75) (z := false) rfl rfl rfl (by decide) (fun h => by cases h) (fun _ => ?_)
  refine x_iload_n (pc' := 76) rfl rfl rfl ?_
  refine x_bipush (pc' := 78) rfl rfl ?_
  refine x_idiv (pc' := 79) (z := 5) rfl rfl (by decide) (by decide +kernel) ?_
  refine x_bipush (pc' := 81) rfl rfl ?_
  refine x_irem (pc' := 82) (z := 5) rfl rfl (by decide) (by decide +kernel) ?_
  refine x_goto (pc' := 89) rfl rfl ?_
  refine x_iconst (pc' := 90) rfl rfl ?_
  refine x_isub (pc' := 91) (z := 4) rfl rfl (by decide) ?_
  refine x_reti rfl rfl ?_
  refine sK_i (pc' := 6) rfl ?_
  refine x_iconst (pc' := 7) rfl rfl ?_
  refine x_icmp (a' := 14) (pc' := 10) (z := false) rfl rfl rfl (by decide) (fun h => by cases h) (fun _ => ?_)
  refine x_iconst (pc' := 11) rfl rfl ?_
  refine x_goto (pc' := 15) rfl rfl ?_
  refine x_istore (pc' := 17) (ls' := [_, _, _, _, _, _, _]) rfl rfl rfl rfl ?_
  refine x_aload_n (pc' := 18) rfl rfl rfl rfl rfl ?_
  refine x_iconst (pc' := 19) rfl rfl ?_
  refine x_pI (pc' := 22) rfl rfl rfl ?_
  refine x_iconst (pc' := 23) rfl rfl ?_
  refine x_istore (pc' := 25) (ls' := [_, _, _, _, _, _, _]) rfl rfl rfl rfl ?_
  refine x_iload (pc' := 27) rfl rfl rfl ?_
  refine x_iconst (pc' := 28) rfl rfl ?_
  refine x_icmp (a' := 129) (pc' := 31) (z := false) rfl rfl rfl (by decide) (fun h => by cases h) (fun _ => ?_)
  refine x_iload (pc' := 33) rfl rfl rfl ?_
  refine x_if (a' := 129) (pc' := 36) (z := false) rfl rfl rfl (by decide) (fun h => by cases h) (fun _ => ?_)
  refine x_iload_n (pc' := 37) rfl rfl rfl ?_
  refine x_iload_n (pc' := 38) rfl rfl rfl ?_
  refine x_iload (pc' := 40) rfl rfl rfl ?_
  refine x_cs (ls0 := [_, _, _, sJk, sJk, sJk]) (rest := []) rfl rfl rfl rfl ?_
  refine x_getstatic (pc' := 3) rfl rfl (show 1 < sC t 28 from gst1 hc) ?_
  refine x_iconst (pc' := 4) rfl rfl ?_
  refine x_iload_n (pc' := 5) rfl rfl rfl ?_
  refine x_imul (pc' := 6) (z := 6) rfl rfl (by decide) ?_
  refine x_iload_n (pc' := 7) rfl rfl rfl ?_
  refine x_iadd (pc' := 8) (z := 7) rfl rfl (by decide) ?_
  refine x_iald (pc' := 9) (N := 15) (x := 52) rfl rfl rfl (Eq.trans rdNI (kN_28_1 hc)) (io_in (p := 7) (N := 15) (by decide) (by decide)) (Eq.trans (congrArg (sA (sIw t 811 0 0) 28 1) (nn_io (p := 7) (by decide))) (Eq.trans (b := sA t 28 1 7) rfl ((hc.2.2.2.2.2 7).2.trans rfl))) ?_
  refine x_istore_n (pc' := 10) (ls' := [_, _, _, _, _, _]) rfl rfl rfl rfl ?_
  refine x_iload_n (pc' := 11) rfl rfl rfl ?_
  refine x_bipush (pc' := 13) rfl rfl ?_
  refine x_icmp (a' := 20) (pc' := 16) (z := true) rfl rfl rfl (by decide) (fun _ => ?_) (fun h => by cases h)
  refine x_iload_n (pc' := 21) rfl rfl rfl ?_
  refine x_bipush (pc' := 23) rfl rfl ?_
  refine x_icmp (a' := 30) (pc' := 26) (z := false) rfl rfl rfl (by decide) (fun h => by cases h) (fun _ => ?_)
  refine x_iconst (pc' := 27) rfl rfl ?_
  refine x_goto (pc' := 39) rfl rfl ?_
  refine x_istore (pc' := 41) (ls' := [_, _, _, _, _, _]) rfl rfl rfl rfl ?_
  refine x_iload (pc' := 43) rfl rfl rfl ?_
  refine x_iload_n (pc' := 44) rfl rfl rfl ?_
  refine x_isub (pc' := 45) (z := 2) rfl rfl (by decide) ?_
  refine x_istore (pc' := 47) (ls' := [_, _, _, _, _, _]) rfl rfl rfl rfl ?_
  refine x_iload (pc' := 49) rfl rfl rfl ?_
  refine x_if (a' := 56) (pc' := 52) (z := true) rfl rfl rfl (by decide) (fun _ => ?_) (fun h => by cases h)
  refine x_iload (pc' := 58) rfl rfl rfl ?_
  refine x_iconst (pc' := 59) rfl rfl ?_
  refine x_icmp (a' := 69) (pc' := 62) (z := true) rfl rfl rfl (by decide) (fun _ => ?_) (fun h => by cases h)
  refine x_iload (pc' := 71) rfl rfl rfl ?_
  refine x_iconst (pc' := 72) rfl rfl ?_
  refine x_icmp (a' := 85) (pc' := 75) (z := false) rfl rfl rfl (by decide) (fun h => by cases h) (fun _ => ?_)
  refine x_iload_n (pc' := 76) rfl rfl rfl ?_
  refine x_bipush (pc' := 78) rfl rfl ?_
  refine x_idiv (pc' := 79) (z := 5) rfl rfl (by decide) (by decide +kernel) ?_
  refine x_bipush (pc' := 81) rfl rfl ?_
  refine x_irem (pc' := 82) (z := 5) rfl rfl (by decide) (by decide +kernel) ?_
  refine x_goto (pc' := 89) rfl rfl ?_
  refine x_iconst (pc' := 90) rfl rfl ?_
  refine x_isub (pc' := 91) (z := 4) rfl rfl (by decide) ?_
  refine x_reti rfl rfl ?_
  refine sK_i (pc' := 43) rfl ?_
  refine x_istore (pc' := 45) (ls' := [_, _, _, _, _, _, _]) rfl rfl rfl rfl ?_
  refine x_iload (pc' := 47) rfl rfl rfl ?_
  refine x_iconst (pc' := 48) rfl rfl ?_
  refine x_icmp (a' := 123) (pc' := 51) (z := false) rfl rfl rfl (by decide) (fun h => by cases h) (fun _ => ?_)
  refine x_aload_n (pc' := 52) rfl rfl rfl rfl rfl ?_
  refine x_gR (pc' := 55) (r := (some 27)) rfl rfl rfl (Eq.trans (b := sR t 809 0) rfl (kR_809_0 hc)) ?_
  refine x_aload_n (pc' := 56) rfl rfl rfl rfl rfl ?_
  refine x_gI (pc' := 59) (x := 0) rfl rfl rfl sI_s ?_
  refine x_aload_n (pc' := 60) rfl rfl rfl rfl rfl ?_
  refine x_iload (pc' := 62) rfl rfl rfl ?_
  refine x_iload_n (pc' := 63) rfl rfl rfl ?_
  refine x_iload_n (pc' := 64) rfl rfl rfl ?_
  refine x_iload (pc' := 66) rfl rfl rfl ?_
  refine x_cs (ls0 := [_, _, _, sJk]) (rest := [_, _, _, _]) rfl rfl rfl rfl ?_
  refine x_iload_n (pc' := 1) rfl rfl rfl ?_
  refine x_iload_n (pc' := 2) rfl rfl rfl ?_
  refine x_iload_n (pc' := 3) rfl rfl rfl ?_
  refine x_cs (ls0 := [_, _, _, sJk, sJk, sJk]) (rest := []) rfl rfl rfl rfl ?_
  refine x_getstatic (pc' := 3) rfl rfl (show 1 < sC t 28 from gst1 hc) ?_
  refine x_iconst (pc' := 4) rfl rfl ?_
  refine x_iload_n (pc' := 5) rfl rfl rfl ?_
  refine x_imul (pc' := 6) (z := 6) rfl rfl (by decide) ?_
  refine x_iload_n (pc' := 7) rfl rfl rfl ?_
  refine x_iadd (pc' := 8) (z := 7) rfl rfl (by decide) ?_
  refine x_iald (pc' := 9) (N := 15) (x := 52) rfl rfl rfl (Eq.trans rdNI (kN_28_1 hc)) (io_in (p := 7) (N := 15) (by decide) (by decide)) (Eq.trans (congrArg (sA (sIw t 811 0 0) 28 1) (nn_io (p := 7) (by decide))) (Eq.trans (b := sA t 28 1 7) rfl ((hc.2.2.2.2.2 7).2.trans rfl))) ?_
  refine x_istore_n (pc' := 10) (ls' := [_, _, _, _, _, _]) rfl rfl rfl rfl ?_
  refine x_iload_n (pc' := 11) rfl rfl rfl ?_
  refine x_bipush (pc' := 13) rfl rfl ?_
  refine x_icmp (a' := 20) (pc' := 16) (z := true) rfl rfl rfl (by decide) (fun _ => ?_) (fun h => by cases h)
  refine x_iload_n (pc' := 21) rfl rfl rfl ?_
  refine x_bipush (pc' := 23) rfl rfl ?_
  refine x_icmp (a' := 30) (pc' := 26) (z := false) rfl rfl rfl (by decide) (fun h => by cases h) (fun _ => ?_)
  refine x_iconst (pc' := 27) rfl rfl ?_
  refine x_goto (pc' := 39) rfl rfl ?_
  refine x_istore (pc' := 41) (ls' := [_, _, _, _, _, _]) rfl rfl rfl rfl ?_
  refine x_iload (pc' := 43) rfl rfl rfl ?_
  refine x_iload_n (pc' := 44) rfl rfl rfl ?_
  refine x_isub (pc' := 45) (z := 2) rfl rfl (by decide) ?_
  refine x_istore (pc' := 47) (ls' := [_, _, _, _, _, _]) rfl rfl rfl rfl ?_
  refine x_iload (pc' := 49) rfl rfl rfl ?_
  refine x_if (a' := 56) (pc' := 52) (z := true) rfl rfl rfl (by decide) (fun _ => ?_) (fun h => by cases h)
  refine x_iload (pc' := 58) rfl rfl rfl ?_
  refine x_iconst (pc' := 59) rfl rfl ?_
  refine x_icmp (a' := 69) (pc' := 62) (z := true) rfl rfl rfl (by decide) (fun _ => ?_) (fun h => by cases h)
  refine x_iload (pc' := 71) rfl rfl rfl ?_
  refine x_iconst (pc' := 72) rfl rfl ?_
  refine x_icmp (a' := 85) (pc' := 75) (z := false) rfl rfl rfl (by decide) (fun h => by cases h) (fun _ => ?_)
  refine x_iload_n (pc' := 76) rfl rfl rfl ?_
  refine x_bipush (pc' := 78) rfl rfl ?_
  refine x_idiv (pc' := 79) (z := 5) rfl rfl (by decide) (by decide +kernel) ?_
  refine x_bipush (pc' := 81) rfl rfl ?_
  refine x_irem (pc' := 82) (z := 5) rfl rfl (by decide) (by decide +kernel) ?_
  refine x_goto (pc' := 89) rfl rfl ?_
  refine x_iconst (pc' := 90) rfl rfl ?_
  refine x_isub (pc' := 91) (z := 4) rfl rfl (by decide) ?_
  refine x_reti rfl rfl ?_
  refine sK_i (pc' := 6) rfl ?_
  refine x_istore_n (pc' := 7) (ls' := [_, _, _, _]) rfl rfl rfl rfl ?_
  refine x_iload_n (pc' := 8) rfl rfl rfl ?_
  refine x_iconst (pc' := 9) rfl rfl ?_
  refine x_icmp (a' := 31) (pc' := 12) (z := false) rfl rfl rfl (by decide) (fun h => by cases h) (fun _ => ?_)
  refine x_iload_n (pc' := 13) rfl rfl rfl ?_
  refine x_iconst (pc' := 14) rfl rfl ?_
  refine x_icmp (a' := 29) (pc' := 17) (z := false) rfl rfl rfl (by decide) (fun h => by cases h) (fun _ => ?_)
  refine x_iload_n (pc' := 18) rfl rfl rfl ?_
  refine x_cs (ls0 := [_]) (rest := []) rfl rfl rfl rfl ?_
  refine x_iload_n (pc' := 1) rfl rfl rfl ?_
  refine x_iconst (pc' := 2) rfl rfl ?_
  refine x_isub (pc' := 3) (z := 1) rfl rfl (by decide) ?_
  refine x_reti rfl rfl ?_
  refine sK_i (pc' := 21) rfl ?_
  refine x_iload_n (pc' := 22) rfl rfl rfl ?_
  refine x_icmp (a' := 29) (pc' := 25) (z := false) rfl rfl rfl (by decide) (fun h => by cases h) (fun _ => ?_)
  refine x_iconst (pc' := 26) rfl rfl ?_
  refine x_goto (pc' := 30) rfl rfl ?_
  refine x_retz (z := true) rfl rfl ?_
  refine sK_i (pc' := 69) rfl ?_
  refine x_iload_n (pc' := 70) rfl rfl rfl ?_
  have J23 : X 159 78 [.inr (.inr (12, (some 0))), .inl 2, .inl (bz s), .inl 1, .inl 1, .inl 0, .inl 4] [.inl (bz (!(xor true s))), .inl 4, .inr (.inr (12, (some 0))), .inl 0, .inr (.inr (21, (some 27)))] (sIw t 811 0 0) Q := by
    refine x_cv (ls0 := [_, _, _, sJk, sJk, sJk]) (rest := [_, _]) rfl rfl rfl rfl rfl ?_
    refine r153 (b := 4) (s := (!(xor true s))) ((rp_Ic rfl).trans hM) (Cn_cp (cp_I rfl) hc) (Fr.ri (Fr.refl _) hR) (show 4 < 5 by decide) (fun b1 => ?_)
    refine sK_i (pc' := 81) rfl ?_
    refine x_iast (pc' := 82) (N := 200) (p := 0) rfl rfl rfl (Eq.trans rdNI (kN_21_27 hc)) (io_in (p := 0) (N := 200) (by decide) (by decide)) (nn_io (p := 0) (by decide)) ?_
    refine x_aload_n (pc' := 83) rfl rfl rfl rfl rfl ?_
    refine x_gR (pc' := 86) (r := (some 0)) rfl rfl rfl (Eq.trans (b := sR t 769 0) rfl (kR_769_0 hc)) ?_
    refine x_iload (pc' := 88) rfl rfl rfl ?_
    refine x_iald (pc' := 89) (N := 5) (x := (mA M 0 4)) rfl rfl rfl (Eq.trans rdNA (Eq.trans rdNI (kN_21_0 hc))) (io_in (p := 4) (N := 5) (by decide) (by decide)) (Eq.trans (congrArg (sA (sAw (sIw t 811 0 0) 21 27 0 (ov (bsF M n 4 (!(xor true s))))) 21 0) (nn_io (p := 4) (by decide))) (Eq.trans (b := sA t 21 0 4) rfl (gA hM rfl))) ?_
    refine x_iconst (pc' := 90) rfl rfl ?_
    have J26 : X 159 111 [.inr (.inr (12, (some 0))), .inl 2, .inl (bz s), .inl 1, .inl 1, .inl 0, .inl 4] [.inl (bz ((decide ((mA M 0 4) = 2)) && (!((bsF M n 4 (!(xor true s))).isNone))))] (sAw (sIw t 811 0 0) 21 27 0 (ov (bsF M n 4 (!(xor true s))))) Q := by
      refine x_istore (pc' := 113) (ls' := [_, _, _, _, _, _, _]) rfl rfl rfl rfl ?_
      refine x_aload_n (pc' := 114) rfl rfl rfl rfl rfl ?_
      refine x_dup (pc' := 115) rfl rfl rfl ?_
      refine x_gI (pc' := 118) (x := 0) rfl rfl rfl (Eq.trans rdIA sI_s) ?_
      refine x_iconst (pc' := 119) rfl rfl ?_
      refine x_iadd (pc' := 120) (z := 1) rfl rfl (by decide) ?_
      refine x_pI (pc' := 123) rfl rfl rfl ?_
      refine x_iinc (pc' := 126) (y := 1) (ls' := [_, _, _, _, _, _, _]) rfl rfl rfl rfl rfl ?_
      refine x_goto (pc' := 25) rfl rfl ?_
      refine x_iload (pc' := 27) rfl rfl rfl ?_
      refine x_iconst (pc' := 28) rfl rfl ?_
      refine x_icmp (a' := 129) (pc' := 31) (z := false) rfl rfl rfl (by decide) (fun h => by cases h) (fun _ => ?_)
      refine x_iload (pc' := 33) rfl rfl rfl ?_
      refine x_ifeq_z (a' := 129) (pc' := 36) (z := ((decide ((mA M 0 4) = 2)) && (!((bsF M n 4 (!(xor true s))).isNone)))) rfl rfl rfl (fun q29 => ?_) (fun q29 => ?_)
      · refine x_iload (pc' := 131) rfl rfl rfl ?_
        refine x_retz (z := ((decide ((mA M 0 4) = 2)) && (!((bsF M n 4 (!(xor true s))).isNone)))) rfl rfl ?_
        exact qv (congrArg (fun z : Bool => (.inl (some (.inl (bz z))) : sRs)) (Eq.trans (lgF_n q29) q29.symm).symm) (q _ ((rp_Ic rfl).trans ((rp_As rfl).trans ((rp_Ic rfl).trans hM))) ((cp_I rfl).trans (cp_A.trans (cp_I rfl))) (fun L hL => by obtain ⟨l0, z0, h0, j0, rfl⟩ := lgF_i hL; exact zz_no z0 q29))
      · refine x_iload_n (pc' := 37) rfl rfl rfl ?_
        refine x_iload_n (pc' := 38) rfl rfl rfl ?_
        refine x_iload (pc' := 40) rfl rfl rfl ?_
        refine x_cs (ls0 := [_, _, _, sJk, sJk, sJk]) (rest := []) rfl rfl rfl rfl ?_
        refine x_getstatic (pc' := 3) rfl rfl (show 1 < sC t 28 from gst1 hc) ?_
        refine x_iconst (pc' := 4) rfl rfl ?_
        refine x_iload_n (pc' := 5) rfl rfl rfl ?_
        refine x_imul (pc' := 6) (z := 6) rfl rfl (by decide) ?_
        refine x_iload_n (pc' := 7) rfl rfl rfl ?_
        refine x_iadd (pc' := 8) (z := 7) rfl rfl (by decide) ?_
        refine x_iald (pc' := 9) (N := 15) (x := 52) rfl rfl rfl (Eq.trans rdNI (Eq.trans rdNA (Eq.trans rdNI (kN_28_1 hc)))) (io_in (p := 7) (N := 15) (by decide) (by decide)) (Eq.trans (congrArg (sA (sIw (sAw (sIw t 811 0 0) 21 27 0 (ov (bsF M n 4 (!(xor true s))))) 811 0 1) 28 1) (nn_io (p := 7) (by decide))) (Eq.trans (b := sA t 28 1 7) rfl ((hc.2.2.2.2.2 7).2.trans rfl))) ?_
        refine x_istore_n (pc' := 10) (ls' := [_, _, _, _, _, _]) rfl rfl rfl rfl ?_
        refine x_iload_n (pc' := 11) rfl rfl rfl ?_
        refine x_bipush (pc' := 13) rfl rfl ?_
        refine x_icmp (a' := 20) (pc' := 16) (z := true) rfl rfl rfl (by decide) (fun _ => ?_) (fun h => by cases h)
        refine x_iload_n (pc' := 21) rfl rfl rfl ?_
        refine x_bipush (pc' := 23) rfl rfl ?_
        refine x_icmp (a' := 30) (pc' := 26) (z := false) rfl rfl rfl (by decide) (fun h => by cases h) (fun _ => ?_)
        refine x_iconst (pc' := 27) rfl rfl ?_
        refine x_goto (pc' := 39) rfl rfl ?_
        refine x_istore (pc' := 41) (ls' := [_, _, _, _, _, _]) rfl rfl rfl rfl ?_
        refine x_iload (pc' := 43) rfl rfl rfl ?_
        refine x_iload_n (pc' := 44) rfl rfl rfl ?_
        refine x_isub (pc' := 45) (z := 1) rfl rfl (by decide) ?_
        refine x_istore (pc' := 47) (ls' := [_, _, _, _, _, _]) rfl rfl rfl rfl ?_
        refine x_iload (pc' := 49) rfl rfl rfl ?_
        refine x_if (a' := 56) (pc' := 52) (z := true) rfl rfl rfl (by decide) (fun _ => ?_) (fun h => by cases h)
        refine x_iload (pc' := 58) rfl rfl rfl ?_
        refine x_iconst (pc' := 59) rfl rfl ?_
        refine x_icmp (a' := 69) (pc' := 62) (z := true) rfl rfl rfl (by decide) (fun _ => ?_) (fun h => by cases h)
        refine x_iload (pc' := 71) rfl rfl rfl ?_
        refine x_iconst (pc' := 72) rfl rfl ?_
        refine x_icmp (a' := 85) (pc' := 75) (z := true) rfl rfl rfl (by decide) (fun _ => ?_) (fun h => by cases h)
        refine x_iload_n (pc' := 86) rfl rfl rfl ?_
        refine x_bipush (pc' := 88) rfl rfl ?_
        refine x_irem (pc' := 89) (z := 2) rfl rfl (by decide) (by decide +kernel) ?_
        refine x_iconst (pc' := 90) rfl rfl ?_
        refine x_isub (pc' := 91) (z := 1) rfl rfl (by decide) ?_
        refine x_reti rfl rfl ?_
        refine sK_i (pc' := 43) rfl ?_
        refine x_istore (pc' := 45) (ls' := [_, _, _, _, _, _, _]) rfl rfl rfl rfl ?_
        refine x_iload (pc' := 47) rfl rfl rfl ?_
        refine x_iconst (pc' := 48) rfl rfl ?_
        refine x_icmp (a' := 123) (pc' := 51) (z := false) rfl rfl rfl (by decide) (fun h => by cases h) (fun _ => ?_)
        refine x_aload_n (pc' := 52) rfl rfl rfl rfl rfl ?_
        refine x_gR (pc' := 55) (r := (some 27)) rfl rfl rfl (Eq.trans (b := sR t 809 0) rfl (kR_809_0 hc)) ?_
        refine x_aload_n (pc' := 56) rfl rfl rfl rfl rfl ?_
        refine x_gI (pc' := 59) (x := 1) rfl rfl rfl sI_s ?_
        refine x_aload_n (pc' := 60) rfl rfl rfl rfl rfl ?_
        refine x_iload (pc' := 62) rfl rfl rfl ?_
        refine x_iload_n (pc' := 63) rfl rfl rfl ?_
        refine x_iload_n (pc' := 64) rfl rfl rfl ?_
        refine x_iload (pc' := 66) rfl rfl rfl ?_
        refine x_cs (ls0 := [_, _, _, sJk]) (rest := [_, _, _, _]) rfl rfl rfl rfl ?_
        refine x_iload_n (pc' := 1) rfl rfl rfl ?_
        refine x_iload_n (pc' := 2) rfl rfl rfl ?_
        refine x_iload_n (pc' := 3) rfl rfl rfl ?_
        refine x_cs (ls0 := [_, _, _, sJk, sJk, sJk]) (rest := []) rfl rfl rfl rfl ?_
        refine x_getstatic (pc' := 3) rfl rfl (show 1 < sC t 28 from gst1 hc) ?_
        refine x_iconst (pc' := 4) rfl rfl ?_
        refine x_iload_n (pc' := 5) rfl rfl rfl ?_
        refine x_imul (pc' := 6) (z := 6) rfl rfl (by decide) ?_
        refine x_iload_n (pc' := 7) rfl rfl rfl ?_
        refine x_iadd (pc' := 8) (z := 7) rfl rfl (by decide) ?_
        refine x_iald (pc' := 9) (N := 15) (x := 52) rfl rfl rfl (Eq.trans rdNI (Eq.trans rdNA (Eq.trans rdNI (kN_28_1 hc)))) (io_in (p := 7) (N := 15) (by decide) (by decide)) (Eq.trans (congrArg (sA (sIw (sAw (sIw t 811 0 0) 21 27 0 (ov (bsF M n 4 (!(xor true s))))) 811 0 1) 28 1) (nn_io (p := 7) (by decide))) (Eq.trans (b := sA t 28 1 7) rfl ((hc.2.2.2.2.2 7).2.trans rfl))) ?_
        refine x_istore_n (pc' := 10) (ls' := [_, _, _, _, _, _]) rfl rfl rfl rfl ?_
        refine x_iload_n (pc' := 11) rfl rfl rfl ?_
        refine x_bipush (pc' := 13) rfl rfl ?_
        refine x_icmp (a' := 20) (pc' := 16) (z := true) rfl rfl rfl (by decide) (fun _ => ?_) (fun h => by cases h)
        refine x_iload_n (pc' := 21) rfl rfl rfl ?_
        refine x_bipush (pc' := 23) rfl rfl ?_
        refine x_icmp (a' := 30) (pc' := 26) (z := false) rfl rfl rfl (by decide) (fun h => by cases h) (fun _ => ?_)
        refine x_iconst (pc' := 27) rfl rfl ?_
        refine x_goto (pc' := 39) rfl rfl ?_
        refine x_istore (pc' := 41) (ls' := [_, _, _, _, _, _]) rfl rfl rfl rfl ?_
        refine x_iload (pc' := 43) rfl rfl rfl ?_
        refine x_iload_n (pc' := 44) rfl rfl rfl ?_
        refine x_isub (pc' := 45) (z := 1) rfl rfl (by decide) ?_
        refine x_istore (pc' := 47) (ls' := [_, _, _, _, _, _]) rfl rfl rfl rfl ?_
        refine x_iload (pc' := 49) rfl rfl rfl ?_
        refine x_if (a' := 56) (pc' := 52) (z := true) rfl rfl rfl (by decide) (fun _ => ?_) (fun h => by cases h)
        refine x_iload (pc' := 58) rfl rfl rfl ?_
        refine x_iconst (pc' := 59) rfl rfl ?_
        refine x_icmp (a' := 69) (pc' := 62) (z := true) rfl rfl rfl (by decide) (fun _ => ?_) (fun h => by cases h)
        refine x_iload (pc' := 71) rfl rfl rfl ?_
        refine x_iconst (pc' := 72) rfl rfl ?_
        refine x_icmp (a' := 85) (pc' := 75) (z := true) rfl rfl rfl (by decide) (fun _ => ?_) (fun h => by cases h)
        refine x_iload_n (pc' := 86) rfl rfl rfl ?_
        refine x_bipush (pc' := 88) rfl rfl ?_
        refine x_irem (pc' := 89) (z := 2) rfl rfl (by decide) (by decide +kernel) ?_
        refine x_iconst (pc' := 90) rfl rfl ?_
        refine x_isub (pc' := 91) (z := 1) rfl rfl (by decide) ?_
        refine x_reti rfl rfl ?_
        refine sK_i (pc' := 6) rfl ?_
        refine x_istore_n (pc' := 7) (ls' := [_, _, _, _]) rfl rfl rfl rfl ?_
        refine x_iload_n (pc' := 8) rfl rfl rfl ?_
        refine x_iconst (pc' := 9) rfl rfl ?_
        refine x_icmp (a' := 31) (pc' := 12) (z := false) rfl rfl rfl (by decide) (fun h => by cases h) (fun _ => ?_)
        refine x_iload_n (pc' := 13) rfl rfl rfl ?_
        refine x_iconst (pc' := 14) rfl rfl ?_
        refine x_icmp (a' := 29) (pc' := 17) (z := true) rfl rfl rfl (by decide) (fun _ => ?_) (fun h => by cases h)
        refine x_iconst (pc' := 30) rfl rfl ?_
        refine x_retz (z := false) rfl rfl ?_
        refine sK_i (pc' := 69) rfl ?_
        refine x_iload_n (pc' := 70) rfl rfl rfl ?_
        have J43 : X 159 78 [.inr (.inr (12, (some 0))), .inl 2, .inl (bz s), .inl 1, .inl (bz ((decide ((mA M 0 4) = 2)) && (!((bsF M n 4 (!(xor true s))).isNone)))), .inl 1, .inl 1] [.inl (bz (!(xor false s))), .inl 1, .inr (.inr (12, (some 0))), .inl 1, .inr (.inr (21, (some 27)))] (sIw (sAw (sIw t 811 0 0) 21 27 0 (ov (bsF M n 4 (!(xor true s))))) 811 0 1) Q := by
          refine x_cv (ls0 := [_, _, _, sJk, sJk, sJk]) (rest := [_, _]) rfl rfl rfl rfl rfl ?_
          refine r153 (b := 1) (s := (!(xor false s))) ((rp_Ic rfl).trans ((rp_As rfl).trans ((rp_Ic rfl).trans hM))) (Cn_cp ((cp_I rfl).trans (cp_A.trans (cp_I rfl))) hc) (Fr.ri (Fr.refl _) hR) (show 1 < 5 by decide) (fun b3 => ?_)
          refine sK_i (pc' := 81) rfl ?_
          refine x_iast (pc' := 82) (N := 200) (p := 1) rfl rfl rfl (Eq.trans rdNI (Eq.trans rdNA (Eq.trans rdNI (kN_21_27 hc)))) (io_in (p := 1) (N := 200) (by decide) (by decide)) (nn_io (p := 1) (by decide)) ?_
          refine x_aload_n (pc' := 83) rfl rfl rfl rfl rfl ?_
          refine x_gR (pc' := 86) (r := (some 0)) rfl rfl rfl (Eq.trans (b := sR t 769 0) rfl (kR_769_0 hc)) ?_
          refine x_iload (pc' := 88) rfl rfl rfl ?_
          refine x_iald (pc' := 89) (N := 5) (x := (mA M 0 1)) rfl rfl rfl (Eq.trans rdNA (Eq.trans rdNI (Eq.trans rdNA (Eq.trans rdNI (kN_21_0 hc))))) (io_in (p := 1) (N := 5) (by decide) (by decide)) (Eq.trans (congrArg (sA (sAw (sIw (sAw (sIw t 811 0 0) 21 27 0 (ov (bsF M n 4 (!(xor true s))))) 811 0 1) 21 27 1 (ov (bsF M n 1 (!(xor false s))))) 21 0) (nn_io (p := 1) (by decide))) (Eq.trans (b := sA t 21 0 1) rfl (gA hM rfl))) ?_
          refine x_iconst (pc' := 90) rfl rfl ?_
          have J46 : X 159 111 [.inr (.inr (12, (some 0))), .inl 2, .inl (bz s), .inl 1, .inl (bz ((decide ((mA M 0 4) = 2)) && (!((bsF M n 4 (!(xor true s))).isNone)))), .inl 1, .inl 1] [.inl (bz ((decide ((mA M 0 1) = 2)) && (!((bsF M n 1 (!(xor false s))).isNone))))] (sAw (sIw (sAw (sIw t 811 0 0) 21 27 0 (ov (bsF M n 4 (!(xor true s))))) 811 0 1) 21 27 1 (ov (bsF M n 1 (!(xor false s))))) Q := by
            refine x_istore (pc' := 113) (ls' := [_, _, _, _, _, _, _]) rfl rfl rfl rfl ?_
            refine x_aload_n (pc' := 114) rfl rfl rfl rfl rfl ?_
            refine x_dup (pc' := 115) rfl rfl rfl ?_
            refine x_gI (pc' := 118) (x := 1) rfl rfl rfl (Eq.trans rdIA sI_s) ?_
            refine x_iconst (pc' := 119) rfl rfl ?_
            refine x_iadd (pc' := 120) (z := 2) rfl rfl (by decide) ?_
            refine x_pI (pc' := 123) rfl rfl rfl ?_
            refine x_iinc (pc' := 126) (y := 2) (ls' := [_, _, _, _, _, _, _]) rfl rfl rfl rfl rfl ?_
            refine x_goto (pc' := 25) rfl rfl ?_
            refine x_iload (pc' := 27) rfl rfl rfl ?_
            refine x_iconst (pc' := 28) rfl rfl ?_
            refine x_icmp (a' := 129) (pc' := 31) (z := false) rfl rfl rfl (by decide) (fun h => by cases h) (fun _ => ?_)
            refine x_iload (pc' := 33) rfl rfl rfl ?_
            have J54 : X 159 129 [.inr (.inr (12, (some 0))), .inl 2, .inl (bz s), .inl 1, .inl (bz ((decide ((mA M 0 1) = 2)) && (!((bsF M n 1 (!(xor false s))).isNone)))), .inl (bif ((decide ((mA M 0 1) = 2)) && (!((bsF M n 1 (!(xor false s))).isNone))) then 3 else 2), .inl (bif ((decide ((mA M 0 1) = 2)) && (!((bsF M n 1 (!(xor false s))).isNone))) then (-1) else 1)] [] (sIw (sAw (sIw (sAw (sIw t 811 0 0) 21 27 0 (ov (bsF M n 4 (!(xor true s))))) 811 0 1) 21 27 1 (ov (bsF M n 1 (!(xor false s))))) 811 0 2) Q := by
              refine x_iload (pc' := 131) rfl rfl rfl ?_
              refine x_retz (z := ((decide ((mA M 0 1) = 2)) && (!((bsF M n 1 (!(xor false s))).isNone)))) rfl rfl ?_
              exact qv (congrArg (fun z : Bool => (.inl (some (.inl (bz z))) : sRs)) (Eq.trans (lgF_s q29) lgF_1).symm) (q _ ((rp_Ic rfl).trans ((rp_As rfl).trans ((rp_Ic rfl).trans ((rp_As rfl).trans ((rp_Ic rfl).trans hM))))) ((cp_I rfl).trans (cp_A.trans ((cp_I rfl).trans (cp_A.trans (cp_I rfl))))) (fun L hL => by obtain ⟨l0, z0, h0, j0, rfl⟩ := lgF_i hL; obtain ⟨l1, z1, h1, j1, rfl⟩ := lgF_i h0; cases lgF_nil h1; exact ⟨rfl, ov_io (an_n z0), ov_io (an_n z1), trivial⟩))
            refine x_ifeq_z (a' := 129) (pc' := 36) (z := ((decide ((mA M 0 1) = 2)) && (!((bsF M n 1 (!(xor false s))).isNone)))) rfl rfl rfl (fun q49 => ?_) (fun q49 => ?_)
            · ((try rw [q49] at J54); (try rw [q49]); (try simp only [cd_t, cd_f, nt_t, nt_f, an_t, an_f, or_t, or_f] at J54); (try simp only [cd_t, cd_f, nt_t, nt_f, an_t, an_f, or_t, or_f]); exact J54)
            · refine x_iload_n (pc' := 37) rfl rfl rfl ?_
              refine x_iload_n (pc' := 38) rfl rfl rfl ?_
              refine x_iload (pc' := 40) rfl rfl rfl ?_
              refine x_cs (ls0 := [_, _, _, sJk, sJk, sJk]) (rest := []) rfl rfl rfl rfl ?_
              refine x_getstatic (pc' := 3) rfl rfl (show 1 < sC t 28 from gst1 hc) ?_
              refine x_iconst (pc' := 4) rfl rfl ?_
              refine x_iload_n (pc' := 5) rfl rfl rfl ?_
              refine x_imul (pc' := 6) (z := 6) rfl rfl (by decide) ?_
              refine x_iload_n (pc' := 7) rfl rfl rfl ?_
              refine x_iadd (pc' := 8) (z := 7) rfl rfl (by decide) ?_
              refine x_iald (pc' := 9) (N := 15) (x := 52) rfl rfl rfl (Eq.trans rdNI (Eq.trans rdNA (Eq.trans rdNI (Eq.trans rdNA (Eq.trans rdNI (kN_28_1 hc)))))) (io_in (p := 7) (N := 15) (by decide) (by decide)) (Eq.trans (congrArg (sA (sIw (sAw (sIw (sAw (sIw t 811 0 0) 21 27 0 (ov (bsF M n 4 (!(xor true s))))) 811 0 1) 21 27 1 (ov (bsF M n 1 (!(xor false s))))) 811 0 2) 28 1) (nn_io (p := 7) (by decide))) (Eq.trans (b := sA t 28 1 7) rfl ((hc.2.2.2.2.2 7).2.trans rfl))) ?_
              refine x_istore_n (pc' := 10) (ls' := [_, _, _, _, _, _]) rfl rfl rfl rfl ?_
              refine x_iload_n (pc' := 11) rfl rfl rfl ?_
              refine x_bipush (pc' := 13) rfl rfl ?_
              refine x_icmp (a' := 20) (pc' := 16) (z := true) rfl rfl rfl (by decide) (fun _ => ?_) (fun h => by cases h)
              refine x_iload_n (pc' := 21) rfl rfl rfl ?_
              refine x_bipush (pc' := 23) rfl rfl ?_
              refine x_icmp (a' := 30) (pc' := 26) (z := false) rfl rfl rfl (by decide) (fun h => by cases h) (fun _ => ?_)
              refine x_iconst (pc' := 27) rfl rfl ?_
              refine x_goto (pc' := 39) rfl rfl ?_
              refine x_istore (pc' := 41) (ls' := [_, _, _, _, _, _]) rfl rfl rfl rfl ?_
              refine x_iload (pc' := 43) rfl rfl rfl ?_
              refine x_iload_n (pc' := 44) rfl rfl rfl ?_
              refine x_isub (pc' := 45) (z := 0) rfl rfl (by decide) ?_
              refine x_istore (pc' := 47) (ls' := [_, _, _, _, _, _]) rfl rfl rfl rfl ?_
              refine x_iload (pc' := 49) rfl rfl rfl ?_
              refine x_if (a' := 56) (pc' := 52) (z := false) rfl rfl rfl (by decide) (fun h => by cases h) (fun _ => ?_)
              refine x_iconst (pc' := 53) rfl rfl ?_
              refine x_goto (pc' := 91) rfl rfl ?_
              refine x_reti rfl rfl ?_
              refine sK_i (pc' := 43) rfl ?_
              refine x_istore (pc' := 45) (ls' := [_, _, _, _, _, _, _]) rfl rfl rfl rfl ?_
              refine x_iload (pc' := 47) rfl rfl rfl ?_
              refine x_iconst (pc' := 48) rfl rfl ?_
              refine x_icmp (a' := 123) (pc' := 51) (z := true) rfl rfl rfl (by decide) (fun _ => ?_) (fun h => by cases h)
              refine x_iinc (pc' := 126) (y := 3) (ls' := [_, _, _, _, _, _, _]) rfl rfl rfl rfl rfl ?_
              refine x_goto (pc' := 25) rfl rfl ?_
              refine x_iload (pc' := 27) rfl rfl rfl ?_
              refine x_iconst (pc' := 28) rfl rfl ?_
              refine x_icmp (a' := 129) (pc' := 31) (z := true) rfl rfl rfl (by decide) (fun _ => ?_) (fun h => by cases h)
              ((try rw [q49] at J54); (try rw [q49]); (try simp only [cd_t, cd_f, nt_t, nt_f, an_t, an_f, or_t, or_f] at J54); (try simp only [cd_t, cd_f, nt_t, nt_f, an_t, an_f, or_t, or_f]); exact J54)
          refine x_icmp_n (a' := 110) (pc' := 93) (z := decide ((mA M 0 1) = 2)) rfl rfl rfl (ik_ne _ _) (fun q45 => ?_) (fun q45 => ?_)
          · refine x_iconst (pc' := 111) rfl rfl ?_
            ((try rw [q45] at J46); (try rw [q45]); (try simp only [cd_t, cd_f, nt_t, nt_f, an_t, an_f, or_t, or_f] at J46); (try simp only [cd_t, cd_f, nt_t, nt_f, an_t, an_f, or_t, or_f]); exact J46)
          · refine x_aload_n (pc' := 94) rfl rfl rfl rfl rfl ?_
            refine x_gR (pc' := 97) (r := (some 27)) rfl rfl rfl (Eq.trans (b := sR t 809 0) rfl (kR_809_0 hc)) ?_
            refine x_aload_n (pc' := 98) rfl rfl rfl rfl rfl ?_
            refine x_gI (pc' := 101) (x := 1) rfl rfl rfl (Eq.trans rdIA sI_s) ?_
            refine x_iald (pc' := 102) (N := 200) (x := (ov (bsF M n 1 (!(xor false s))))) rfl rfl rfl (Eq.trans rdNA (Eq.trans rdNI (Eq.trans rdNA (Eq.trans rdNI (kN_21_27 hc))))) (io_in (p := 1) (N := 200) (by decide) (by decide)) (Eq.trans (congrArg (sA (sAw (sIw (sAw (sIw t 811 0 0) 21 27 0 (ov (bsF M n 4 (!(xor true s))))) 811 0 1) 21 27 1 (ov (bsF M n 1 (!(xor false s))))) 21 27) (nn_io (p := 1) (by decide))) sA_s) ?_
            refine x_iconst (pc' := 103) rfl rfl ?_
            refine x_icmp (a' := 110) (pc' := 106) (z := (bsF M n 1 (!(xor false s))).isNone) rfl rfl rfl (ov_eq (ov_31 (N := n) b3 (Nat.le_of_lt (gn31 hR)))) (fun q46 => ?_) (fun q46 => ?_)
            · refine x_iconst (pc' := 111) rfl rfl ?_
              ((try rw [q46] at J46); (try rw [q46]); (try rw [q45] at J46); (try rw [q45]); (try simp only [cd_t, cd_f, nt_t, nt_f, an_t, an_f, or_t, or_f] at J46); (try simp only [cd_t, cd_f, nt_t, nt_f, an_t, an_f, or_t, or_f]); exact J46)
            · refine x_iconst (pc' := 107) rfl rfl ?_
              refine x_goto (pc' := 111) rfl rfl ?_
              ((try rw [q46] at J46); (try rw [q46]); (try rw [q45] at J46); (try rw [q45]); (try simp only [cd_t, cd_f, nt_t, nt_f, an_t, an_f, or_t, or_f] at J46); (try simp only [cd_t, cd_f, nt_t, nt_f, an_t, an_f, or_t, or_f]); exact J46)
        refine x_icmp (a' := 77) (pc' := 73) (z := (xor false s)) rfl rfl rfl (bz_neb _ _) (fun q43 => ?_) (fun q43 => ?_)
        · refine x_iconst (pc' := 78) rfl rfl ?_
          ((try rw [q43] at J43); (try rw [q43]); (try simp only [cd_t, cd_f, nt_t, nt_f, an_t, an_f, or_t, or_f] at J43); (try simp only [cd_t, cd_f, nt_t, nt_f, an_t, an_f, or_t, or_f]); exact J43)
        · refine x_iconst (pc' := 74) rfl rfl ?_
          refine x_goto (pc' := 78) rfl rfl ?_
          ((try rw [q43] at J43); (try rw [q43]); (try simp only [cd_t, cd_f, nt_t, nt_f, an_t, an_f, or_t, or_f] at J43); (try simp only [cd_t, cd_f, nt_t, nt_f, an_t, an_f, or_t, or_f]); exact J43)
    refine x_icmp_n (a' := 110) (pc' := 93) (z := decide ((mA M 0 4) = 2)) rfl rfl rfl (ik_ne _ _) (fun q25 => ?_) (fun q25 => ?_)
    · refine x_iconst (pc' := 111) rfl rfl ?_
      ((try rw [q25] at J26); (try rw [q25]); (try simp only [cd_t, cd_f, nt_t, nt_f, an_t, an_f, or_t, or_f] at J26); (try simp only [cd_t, cd_f, nt_t, nt_f, an_t, an_f, or_t, or_f]); exact J26)
    · refine x_aload_n (pc' := 94) rfl rfl rfl rfl rfl ?_
      refine x_gR (pc' := 97) (r := (some 27)) rfl rfl rfl (Eq.trans (b := sR t 809 0) rfl (kR_809_0 hc)) ?_
      refine x_aload_n (pc' := 98) rfl rfl rfl rfl rfl ?_
      refine x_gI (pc' := 101) (x := 0) rfl rfl rfl (Eq.trans rdIA sI_s) ?_
      refine x_iald (pc' := 102) (N := 200) (x := (ov (bsF M n 4 (!(xor true s))))) rfl rfl rfl (Eq.trans rdNA (Eq.trans rdNI (kN_21_27 hc))) (io_in (p := 0) (N := 200) (by decide) (by decide)) (Eq.trans (congrArg (sA (sAw (sIw t 811 0 0) 21 27 0 (ov (bsF M n 4 (!(xor true s))))) 21 27) (nn_io (p := 0) (by decide))) sA_s) ?_
      refine x_iconst (pc' := 103) rfl rfl ?_
      refine x_icmp (a' := 110) (pc' := 106) (z := (bsF M n 4 (!(xor true s))).isNone) rfl rfl rfl (ov_eq (ov_31 (N := n) b1 (Nat.le_of_lt (gn31 hR)))) (fun q26 => ?_) (fun q26 => ?_)
      · refine x_iconst (pc' := 111) rfl rfl ?_
        ((try rw [q26] at J26); (try rw [q26]); (try rw [q25] at J26); (try rw [q25]); (try simp only [cd_t, cd_f, nt_t, nt_f, an_t, an_f, or_t, or_f] at J26); (try simp only [cd_t, cd_f, nt_t, nt_f, an_t, an_f, or_t, or_f]); exact J26)
      · refine x_iconst (pc' := 107) rfl rfl ?_
        refine x_goto (pc' := 111) rfl rfl ?_
        ((try rw [q26] at J26); (try rw [q26]); (try rw [q25] at J26); (try rw [q25]); (try simp only [cd_t, cd_f, nt_t, nt_f, an_t, an_f, or_t, or_f] at J26); (try simp only [cd_t, cd_f, nt_t, nt_f, an_t, an_f, or_t, or_f]); exact J26)
  refine x_icmp (a' := 77) (pc' := 73) (z := (xor true s)) rfl rfl rfl (bz_neb _ _) (fun q23 => ?_) (fun q23 => ?_)
  · refine x_iconst (pc' := 78) rfl rfl ?_
    ((try rw [q23] at J23); (try rw [q23]); (try simp only [cd_t, cd_f, nt_t, nt_f, an_t, an_f, or_t, or_f] at J23); (try simp only [cd_t, cd_f, nt_t, nt_f, an_t, an_f, or_t, or_f]); exact J23)
  · refine x_iconst (pc' := 74) rfl rfl ?_
    refine x_goto (pc' := 78) rfl rfl ?_
    ((try rw [q23] at J23); (try rw [q23]); (try simp only [cd_t, cd_f, nt_t, nt_f, an_t, an_f, or_t, or_f] at J23); (try simp only [cd_t, cd_f, nt_t, nt_f, an_t, an_f, or_t, or_f]); exact J23)
set_option maxHeartbeats 4000000 in
set_option maxRecDepth 10000 in
theorem r160_21 {t : sT} {Q : sRs → sT → Prop} {M : sM} {n : Nat} {o0 o1 : Nat}
    (hM : rp t = M)
    (hc : Cn t)
    (hR : Ri M n)
    (ho0 : o0 < n)
    (ho1 : o1 < n)
    (hq : sI t 811 0 = 2)
    (hk0 : sA t 21 27 0 = io o0)
    (hk1 : sA t 21 27 1 = io o1)
    (q : Q (.inl (some (.inl (prF M 2 1 [o0, o1])))) t) :
    X 160 0 [.inr (.inr (12, (some 0))), .inl 2, .inl 1, sJk, sJk] [] t Q := by
  refine x_iload_n (pc' := 1) rfl rfl rfl ?_
  refine x_iconst (pc' := 2) rfl rfl ?_
  refine x_icmp (a' := 34) (pc' := 5) (z := true) rfl rfl rfl (by decide) (fun _ => ?_) (fun h => by cases h)
  refine x_iconst (pc' := 35) rfl rfl ?_
  refine x_istore_n (pc' := 36) (ls' := [_, _, _, _, _]) rfl rfl rfl rfl ?_
  refine x_iconst (pc' := 37) rfl rfl ?_
  refine x_istore (pc' := 39) (ls' := [_, _, _, _, _]) rfl rfl rfl rfl ?_
  refine x_iload (pc' := 41) rfl rfl rfl ?_
  refine x_aload_n (pc' := 42) rfl rfl rfl rfl rfl ?_
  refine x_gI (pc' := 45) (x := 2) rfl rfl rfl hq ?_
  refine x_icmp (a' := 95) (pc' := 48) (z := false) rfl rfl rfl (by decide) (fun h => by cases h) (fun _ => ?_)
  refine x_iload_n (pc' := 49) rfl rfl rfl ?_
  refine x_iload_n (pc' := 50) rfl rfl rfl ?_
  refine x_iload_n (pc' := 51) rfl rfl rfl ?_
  refine x_iload (pc' := 53) rfl rfl rfl ?_
  refine x_cs (ls0 := [_, _, _, sJk]) (rest := [_]) rfl rfl rfl rfl ?_
  refine x_iload_n (pc' := 1) rfl rfl rfl ?_
  refine x_iload_n (pc' := 2) rfl rfl rfl ?_
  refine x_iload_n (pc' := 3) rfl rfl rfl ?_
  refine x_cs (ls0 := [_, _, _, sJk, sJk, sJk]) (rest := []) rfl rfl rfl rfl ?_
  refine x_getstatic (pc' := 3) rfl rfl (show 1 < sC t 28 from gst1 hc) ?_
  refine x_iconst (pc' := 4) rfl rfl ?_
  refine x_iload_n (pc' := 5) rfl rfl rfl ?_
  refine x_imul (pc' := 6) (z := 6) rfl rfl (by decide) ?_
  refine x_iload_n (pc' := 7) rfl rfl rfl ?_
  refine x_iadd (pc' := 8) (z := 7) rfl rfl (by decide) ?_
  refine x_iald (pc' := 9) (N := 15) (x := 52) rfl rfl rfl (kN_28_1 hc) (io_in (p := 7) (N := 15) (by decide) (by decide)) (Eq.trans (congrArg (sA t 28 1) (nn_io (p := 7) (by decide))) ((hc.2.2.2.2.2 7).2.trans rfl)) ?_
  refine x_istore_n (pc' := 10) (ls' := [_, _, _, _, _, _]) rfl rfl rfl rfl ?_
  refine x_iload_n (pc' := 11) rfl rfl rfl ?_
  refine x_bipush (pc' := 13) rfl rfl ?_
  refine x_icmp (a' := 20) (pc' := 16) (z := true) rfl rfl rfl (by decide) (fun _ => ?_) (fun h => by cases h)
  refine x_iload_n (pc' := 21) rfl rfl rfl ?_
  refine x_bipush (pc' := 23) rfl rfl ?_
  refine x_icmp (a' := 30) (pc' := 26) (z := false) rfl rfl rfl (by decide) (fun h => by cases h) (fun _ => ?_)
  refine x_iconst (pc' := 27) rfl rfl ?_
  refine x_goto (pc' := 39) rfl rfl ?_
  refine x_istore (pc' := 41) (ls' := [_, _, _, _, _, _]) rfl rfl rfl rfl ?_
  refine x_iload (pc' := 43) rfl rfl rfl ?_
  refine x_iload_n (pc' := 44) rfl rfl rfl ?_
  refine x_isub (pc' := 45) (z := 2) rfl rfl (by decide) ?_
  refine x_istore (pc' := 47) (ls' := [_, _, _, _, _, _]) rfl rfl rfl rfl ?_
  refine x_iload (pc' := 49) rfl rfl rfl ?_
  refine x_if (a' := 56) (pc' := 52) (z := true) rfl rfl rfl (by decide) (fun _ => ?_) (fun h => by cases h)
  refine x_iload (pc' := 58) rfl rfl rfl ?_
  refine x_iconst (pc' := 59) rfl rfl ?_
  refine x_icmp (a' := 69) (pc' := 62) (z := true) rfl rfl rfl (by decide) (fun _ => ?_) (fun h => by cases h)
  refine x_iload (pc' := 71) rfl rfl rfl ?_
  refine x_iconst (pc' := 72) rfl rfl ?_
  refine x_icmp (a' := 85) (pc' := 75) (z := false) rfl rfl rfl (by decide) (fun h => by cases h) (fun _ => ?_)
  refine x_iload_n (pc' := 76) rfl rfl rfl ?_
  refine x_bipush (pc' := 78) rfl rfl ?_
  refine x_idiv (pc' := 79) (z := 5) rfl rfl (by decide) (by decide +kernel) ?_
  refine x_bipush (pc' := 81) rfl rfl ?_
  refine x_irem (pc' := 82) (z := 5) rfl rfl (by decide) (by decide +kernel) ?_
  refine x_goto (pc' := 89) rfl rfl ?_
  refine x_iconst (pc' := 90) rfl rfl ?_
  refine x_isub (pc' := 91) (z := 4) rfl rfl (by decide) ?_
  refine x_reti rfl rfl ?_
  refine sK_i (pc' := 6) rfl ?_
  refine x_istore_n (pc' := 7) (ls' := [_, _, _, _]) rfl rfl rfl rfl ?_
  refine x_iload_n (pc' := 8) rfl rfl rfl ?_
  refine x_iconst (pc' := 9) rfl rfl ?_
  refine x_icmp (a' := 31) (pc' := 12) (z := false) rfl rfl rfl (by decide) (fun h => by cases h) (fun _ => ?_)
  refine x_iload_n (pc' := 13) rfl rfl rfl ?_
  refine x_iconst (pc' := 14) rfl rfl ?_
  refine x_icmp (a' := 29) (pc' := 17) (z := false) rfl rfl rfl (by decide) (fun h => by cases h) (fun _ => ?_)
  refine x_iload_n (pc' := 18) rfl rfl rfl ?_
  refine x_cs (ls0 := [_]) (rest := []) rfl rfl rfl rfl ?_
  refine x_iload_n (pc' := 1) rfl rfl rfl ?_
  refine x_iconst (pc' := 2) rfl rfl ?_
  refine x_isub (pc' := 3) (z := 1) rfl rfl (by decide) ?_
  refine x_reti rfl rfl ?_
  refine sK_i (pc' := 21) rfl ?_
  refine x_iload_n (pc' := 22) rfl rfl rfl ?_
  refine x_icmp (a' := 29) (pc' := 25) (z := false) rfl rfl rfl (by decide) (fun h => by cases h) (fun _ => ?_)
  refine x_iconst (pc' := 26) rfl rfl ?_
  refine x_goto (pc' := 30) rfl rfl ?_
  refine x_retz (z := true) rfl rfl ?_
  refine sK_i (pc' := 56) rfl ?_
  refine x_if (a' := 75) (pc' := 59) (z := false) rfl rfl rfl (by decide) (fun h => by cases h) (fun _ => ?_)
  refine x_aload_n (pc' := 60) rfl rfl rfl rfl rfl ?_
  refine x_gR (pc' := 63) (r := (some 14)) rfl rfl rfl (kR_790_0 hc) ?_
  refine x_aload_n (pc' := 64) rfl rfl rfl rfl rfl ?_
  refine x_gR (pc' := 67) (r := (some 27)) rfl rfl rfl (kR_809_0 hc) ?_
  refine x_iload (pc' := 69) rfl rfl rfl ?_
  refine x_iald (pc' := 70) (N := 200) (x := (io o0)) rfl rfl rfl (kN_21_27 hc) (io_in (p := 0) (N := 200) (by decide) (by decide)) (Eq.trans (congrArg (sA t 21 27) (nn_io (p := 0) (by decide))) hk0) ?_
  refine x_iald (pc' := 71) (N := 200) (x := (mA M 14 o0)) rfl rfl rfl (kN_21_14 hc) (io_in (p := o0) (N := 200) (Nat.lt_of_lt_of_le ho0 (gn200 hR)) (by decide)) (Eq.trans (congrArg (sA t 21 14) (nn_io (p := o0) (Nat.lt_trans (Nat.lt_of_lt_of_le ho0 (gn200 hR)) (by decide)))) (gF14 hM (Fr.refl _))) ?_
  refine x_ineg (pc' := 72) rfl rfl rfl ?_
  refine x_goto (pc' := 87) rfl rfl ?_
  refine x_iadd (pc' := 88) (z := (0 + (-(mA M 14 o0)))) rfl rfl rfl ?_
  refine x_istore_n (pc' := 89) (ls' := [_, _, _, _, _]) rfl rfl rfl rfl ?_
  refine x_iinc (pc' := 92) (y := 1) (ls' := [_, _, _, _, _]) rfl rfl rfl rfl rfl ?_
  refine x_goto (pc' := 39) rfl rfl ?_
  refine x_iload (pc' := 41) rfl rfl rfl ?_
  refine x_aload_n (pc' := 42) rfl rfl rfl rfl rfl ?_
  refine x_gI (pc' := 45) (x := 2) rfl rfl rfl hq ?_
  refine x_icmp (a' := 95) (pc' := 48) (z := false) rfl rfl rfl (by decide) (fun h => by cases h) (fun _ => ?_)
  refine x_iload_n (pc' := 49) rfl rfl rfl ?_
  refine x_iload_n (pc' := 50) rfl rfl rfl ?_
  refine x_iload_n (pc' := 51) rfl rfl rfl ?_
  refine x_iload (pc' := 53) rfl rfl rfl ?_
  refine x_cs (ls0 := [_, _, _, sJk]) (rest := [_]) rfl rfl rfl rfl ?_
  refine x_iload_n (pc' := 1) rfl rfl rfl ?_
  refine x_iload_n (pc' := 2) rfl rfl rfl ?_
  refine x_iload_n (pc' := 3) rfl rfl rfl ?_
  refine x_cs (ls0 := [_, _, _, sJk, sJk, sJk]) (rest := []) rfl rfl rfl rfl ?_
  refine x_getstatic (pc' := 3) rfl rfl (show 1 < sC t 28 from gst1 hc) ?_
  refine x_iconst (pc' := 4) rfl rfl ?_
  refine x_iload_n (pc' := 5) rfl rfl rfl ?_
  refine x_imul (pc' := 6) (z := 6) rfl rfl (by decide) ?_
  refine x_iload_n (pc' := 7) rfl rfl rfl ?_
  refine x_iadd (pc' := 8) (z := 7) rfl rfl (by decide) ?_
  refine x_iald (pc' := 9) (N := 15) (x := 52) rfl rfl rfl (kN_28_1 hc) (io_in (p := 7) (N := 15) (by decide) (by decide)) (Eq.trans (congrArg (sA t 28 1) (nn_io (p := 7) (by decide))) ((hc.2.2.2.2.2 7).2.trans rfl)) ?_
  refine x_istore_n (pc' := 10) (ls' := [_, _, _, _, _, _]) rfl rfl rfl rfl ?_
  refine x_iload_n (pc' := 11) rfl rfl rfl ?_
  refine x_bipush (pc' := 13) rfl rfl ?_
  refine x_icmp (a' := 20) (pc' := 16) (z := true) rfl rfl rfl (by decide) (fun _ => ?_) (fun h => by cases h)
  refine x_iload_n (pc' := 21) rfl rfl rfl ?_
  refine x_bipush (pc' := 23) rfl rfl ?_
  refine x_icmp (a' := 30) (pc' := 26) (z := false) rfl rfl rfl (by decide) (fun h => by cases h) (fun _ => ?_)
  refine x_iconst (pc' := 27) rfl rfl ?_
  refine x_goto (pc' := 39) rfl rfl ?_
  refine x_istore (pc' := 41) (ls' := [_, _, _, _, _, _]) rfl rfl rfl rfl ?_
  refine x_iload (pc' := 43) rfl rfl rfl ?_
  refine x_iload_n (pc' := 44) rfl rfl rfl ?_
  refine x_isub (pc' := 45) (z := 1) rfl rfl (by decide) ?_
  refine x_istore (pc' := 47) (ls' := [_, _, _, _, _, _]) rfl rfl rfl rfl ?_
  refine x_iload (pc' := 49) rfl rfl rfl ?_
  refine x_if (a' := 56) (pc' := 52) (z := true) rfl rfl rfl (by decide) (fun _ => ?_) (fun h => by cases h)
  refine x_iload (pc' := 58) rfl rfl rfl ?_
  refine x_iconst (pc' := 59) rfl rfl ?_
  refine x_icmp (a' := 69) (pc' := 62) (z := true) rfl rfl rfl (by decide) (fun _ => ?_) (fun h => by cases h)
  refine x_iload (pc' := 71) rfl rfl rfl ?_
  refine x_iconst (pc' := 72) rfl rfl ?_
  refine x_icmp (a' := 85) (pc' := 75) (z := true) rfl rfl rfl (by decide) (fun _ => ?_) (fun h => by cases h)
  refine x_iload_n (pc' := 86) rfl rfl rfl ?_
  refine x_bipush (pc' := 88) rfl rfl ?_
  refine x_irem (pc' := 89) (z := 2) rfl rfl (by decide) (by decide +kernel) ?_
  refine x_iconst (pc' := 90) rfl rfl ?_
  refine x_isub (pc' := 91) (z := 1) rfl rfl (by decide) ?_
  refine x_reti rfl rfl ?_
  refine sK_i (pc' := 6) rfl ?_
  refine x_istore_n (pc' := 7) (ls' := [_, _, _, _]) rfl rfl rfl rfl ?_
  refine x_iload_n (pc' := 8) rfl rfl rfl ?_
  refine x_iconst (pc' := 9) rfl rfl ?_
  refine x_icmp (a' := 31) (pc' := 12) (z := false) rfl rfl rfl (by decide) (fun h => by cases h) (fun _ => ?_)
  refine x_iload_n (pc' := 13) rfl rfl rfl ?_
  refine x_iconst (pc' := 14) rfl rfl ?_
  refine x_icmp (a' := 29) (pc' := 17) (z := true) rfl rfl rfl (by decide) (fun _ => ?_) (fun h => by cases h)
  refine x_iconst (pc' := 30) rfl rfl ?_
  refine x_retz (z := false) rfl rfl ?_
  refine sK_i (pc' := 56) rfl ?_
  refine x_if (a' := 75) (pc' := 59) (z := true) rfl rfl rfl (by decide) (fun _ => ?_) (fun h => by cases h)
  refine x_aload_n (pc' := 76) rfl rfl rfl rfl rfl ?_
  refine x_gR (pc' := 79) (r := (some 14)) rfl rfl rfl (kR_790_0 hc) ?_
  refine x_aload_n (pc' := 80) rfl rfl rfl rfl rfl ?_
  refine x_gR (pc' := 83) (r := (some 27)) rfl rfl rfl (kR_809_0 hc) ?_
  refine x_iload (pc' := 85) rfl rfl rfl ?_
  refine x_iald (pc' := 86) (N := 200) (x := (io o1)) rfl rfl rfl (kN_21_27 hc) (io_in (p := 1) (N := 200) (by decide) (by decide)) (Eq.trans (congrArg (sA t 21 27) (nn_io (p := 1) (by decide))) hk1) ?_
  refine x_iald (pc' := 87) (N := 200) (x := (mA M 14 o1)) rfl rfl rfl (kN_21_14 hc) (io_in (p := o1) (N := 200) (Nat.lt_of_lt_of_le ho1 (gn200 hR)) (by decide)) (Eq.trans (congrArg (sA t 21 14) (nn_io (p := o1) (Nat.lt_trans (Nat.lt_of_lt_of_le ho1 (gn200 hR)) (by decide)))) (gF14 hM (Fr.refl _))) ?_
  refine x_iadd (pc' := 88) (z := ((0 + (-(mA M 14 o0))) + (mA M 14 o1))) rfl rfl rfl ?_
  refine x_istore_n (pc' := 89) (ls' := [_, _, _, _, _]) rfl rfl rfl rfl ?_
  refine x_iinc (pc' := 92) (y := 2) (ls' := [_, _, _, _, _]) rfl rfl rfl rfl rfl ?_
  refine x_goto (pc' := 39) rfl rfl ?_
  refine x_iload (pc' := 41) rfl rfl rfl ?_
  refine x_aload_n (pc' := 42) rfl rfl rfl rfl rfl ?_
  refine x_gI (pc' := 45) (x := 2) rfl rfl rfl hq ?_
  refine x_icmp (a' := 95) (pc' := 48) (z := true) rfl rfl rfl (by decide) (fun _ => ?_) (fun h => by cases h)
  refine x_iload_n (pc' := 96) rfl rfl rfl ?_
  refine x_reti rfl rfl ?_
  exact q
-- ((0 + (-(mA M 14 o0))) + (mA M 14 o1))
set_option maxHeartbeats 4000000 in
set_option maxRecDepth 10000 in
theorem r159_22 {t : sT} {Q : sRs → sT → Prop} {M : sM} {n : Nat} {s : Bool} (hM : rp t = M) (hc : Cn t) (hR : Ri M n)
    (q : ∀ t', rp t' = M → cp t' = cp t → (∀ L, lgO M n 2 s 2 = some L → Tk t' L) → Q (.inl (some (.inl (bz (lgO M n 2 s 2).isSome)))) t') :
    X 159 0 [.inr (.inr (12, (some 0))), .inl 2, .inl (bz s), .inl 2, sJk, sJk, sJk] [] t Q := by
  refine x_iload_n (pc' := 1) rfl rfl rfl ?_
  refine x_iload_n (pc' := 2) rfl rfl rfl ?_
  refine x_iconst (pc' := 3) rfl rfl ?_
  refine x_cs (ls0 := [_, _, _, sJk, sJk, sJk]) (rest := []) rfl rfl rfl rfl ?_
  refine x_getstatic (pc' := 3) rfl rfl (show 1 < sC t 28 from gst1 hc) ?_
  refine x_iconst (pc' := 4) rfl rfl ?_
  refine x_iload_n (pc' := 5) rfl rfl rfl ?_
  refine x_imul (pc' := 6) (z := 6) rfl rfl (by decide) ?_
  refine x_iload_n (pc' := 7) rfl rfl rfl ?_
  refine x_iadd (pc' := 8) (z := 8) rfl rfl (by decide) ?_
  refine x_iald (pc' := 9) (N := 15) (x := 541) rfl rfl rfl (kN_28_1 hc) (io_in (p := 8) (N := 15) (by decide) (by decide)) (Eq.trans (congrArg (sA t 28 1) (nn_io (p := 8) (by decide))) ((hc.2.2.2.2.2 8).2.trans rfl)) ?_
  refine x_istore_n (pc' := 10) (ls' := [_, _, _, _, _, _]) rfl rfl rfl rfl ?_
  refine x_iload_n (pc' := 11) rfl rfl rfl ?_
  refine x_bipush (pc' := 13) rfl rfl ?_
  refine x_icmp (a' := 20) (pc' := 16) (z := false) rfl rfl rfl (by decide) (fun h => by cases h) (fun _ => ?_)
  refine x_iconst (pc' := 17) rfl rfl ?_
  refine x_goto (pc' := 39) rfl rfl ?_
  refine x_istore (pc' := 41) (ls' := [_, _, _, _, _, _]) rfl rfl rfl rfl ?_
  refine x_iload (pc' := 43) rfl rfl rfl ?_
  refine x_iload_n (pc' := 44) rfl rfl rfl ?_
  refine x_isub (pc' := 45) (z := 3) rfl rfl (by decide) ?_
  refine x_istore (pc' := 47) (ls' := [_, _, _, _, _, _]) rfl rfl rfl rfl ?_
  refine x_iload (pc' := 49) rfl rfl rfl ?_
  refine x_if (a' := 56) (pc' := 52) (z := true) rfl rfl rfl (by decide) (fun _ => ?_) (fun h => by cases h)
  refine x_iload (pc' := 58) rfl rfl rfl ?_
  refine x_iconst (pc' := 59) rfl rfl ?_
  refine x_icmp (a' := 69) (pc' := 62) (z := false) rfl rfl rfl (by decide) (fun h => by cases h) (fun _ => ?_)
  refine x_iload_n (pc' := 63) rfl rfl rfl ?_
  refine x_bipush (pc' := 65) rfl rfl ?_
  refine x_idiv (pc' := 66) (z := 5) rfl rfl (by decide) (by decide +kernel) ?_
  refine x_goto (pc' := 89) rfl rfl ?_
  refine x_iconst (pc' := 90) rfl rfl ?_
  refine x_isub (pc' := 91) (z := 4) rfl rfl (by decide) ?_
  refine x_reti rfl rfl ?_
  refine sK_i (pc' := 6) rfl ?_
  refine x_iconst (pc' := 7) rfl rfl ?_
  refine x_icmp (a' := 14) (pc' := 10) (z := false) rfl rfl rfl (by decide) (fun h => by cases h) (fun _ => ?_)
  refine x_iconst (pc' := 11) rfl rfl ?_
  refine x_goto (pc' := 15) rfl rfl ?_
  refine x_istore (pc' := 17) (ls' := [_, _, _, _, _, _, _]) rfl rfl rfl rfl ?_
  refine x_aload_n (pc' := 18) rfl rfl rfl rfl rfl ?_
  refine x_iconst (pc' := 19) rfl rfl ?_
  refine x_pI (pc' := 22) rfl rfl rfl ?_
  refine x_iconst (pc' := 23) rfl rfl ?_
  refine x_istore (pc' := 25) (ls' := [_, _, _, _, _, _, _]) rfl rfl rfl rfl ?_
  refine x_iload (pc' := 27) rfl rfl rfl ?_
  refine x_iconst (pc' := 28) rfl rfl ?_
  refine x_icmp (a' := 129) (pc' := 31) (z := false) rfl rfl rfl (by decide) (fun h => by cases h) (fun _ => ?_)
  refine x_iload (pc' := 33) rfl rfl rfl ?_
  refine x_if (a' := 129) (pc' := 36) (z := false) rfl rfl rfl (by decide) (fun h => by cases h) (fun _ => ?_)
  refine x_iload_n (pc' := 37) rfl rfl rfl ?_
  refine x_iload_n (pc' := 38) rfl rfl rfl ?_
  refine x_iload (pc' := 40) rfl rfl rfl ?_
  refine x_cs (ls0 := [_, _, _, sJk, sJk, sJk]) (rest := []) rfl rfl rfl rfl ?_
  refine x_getstatic (pc' := 3) rfl rfl (show 1 < sC t 28 from gst1 hc) ?_
  refine x_iconst (pc' := 4) rfl rfl ?_
  refine x_iload_n (pc' := 5) rfl rfl rfl ?_
  refine x_imul (pc' := 6) (z := 6) rfl rfl (by decide) ?_
  refine x_iload_n (pc' := 7) rfl rfl rfl ?_
  refine x_iadd (pc' := 8) (z := 8) rfl rfl (by decide) ?_
  refine x_iald (pc' := 9) (N := 15) (x := 541) rfl rfl rfl (Eq.trans rdNI (kN_28_1 hc)) (io_in (p := 8) (N := 15) (by decide) (by decide)) (Eq.trans (congrArg (sA (sIw t 811 0 0) 28 1) (nn_io (p := 8) (by decide))) (Eq.trans (b := sA t 28 1 8) rfl ((hc.2.2.2.2.2 8).2.trans rfl))) ?_
  refine x_istore_n (pc' := 10) (ls' := [_, _, _, _, _, _]) rfl rfl rfl rfl ?_
  refine x_iload_n (pc' := 11) rfl rfl rfl ?_
  refine x_bipush (pc' := 13) rfl rfl ?_
  refine x_icmp (a' := 20) (pc' := 16) (z := false) rfl rfl rfl (by decide) (fun h => by cases h) (fun _ => ?_)
  refine x_iconst (pc' := 17) rfl rfl ?_
  refine x_goto (pc' := 39) rfl rfl ?_
  refine x_istore (pc' := 41) (ls' := [_, _, _, _, _, _]) rfl rfl rfl rfl ?_
  refine x_iload (pc' := 43) rfl rfl rfl ?_
  refine x_iload_n (pc' := 44) rfl rfl rfl ?_
  refine x_isub (pc' := 45) (z := 3) rfl rfl (by decide) ?_
  refine x_istore (pc' := 47) (ls' := [_, _, _, _, _, _]) rfl rfl rfl rfl ?_
  refine x_iload (pc' := 49) rfl rfl rfl ?_
  refine x_if (a' := 56) (pc' := 52) (z := true) rfl rfl rfl (by decide) (fun _ => ?_) (fun h => by cases h)
  refine x_iload (pc' := 58) rfl rfl rfl ?_
  refine x_iconst (pc' := 59) rfl rfl ?_
  refine x_icmp (a' := 69) (pc' := 62) (z := false) rfl rfl rfl (by decide) (fun h => by cases h) (fun _ => ?_)
  refine x_iload_n (pc' := 63) rfl rfl rfl ?_
  refine x_bipush (pc' := 65) rfl rfl ?_
  refine x_idiv (pc' := 66) (z := 5) rfl rfl (by decide) (by decide +kernel) ?_
  refine x_goto (pc' := 89) rfl rfl ?_
  refine x_iconst (pc' := 90) rfl rfl ?_
  refine x_isub (pc' := 91) (z := 4) rfl rfl (by decide) ?_
  refine x_reti rfl rfl ?_
  refine sK_i (pc' := 43) rfl ?_
  refine x_istore (pc' := 45) (ls' := [_, _, _, _, _, _, _]) rfl rfl rfl rfl ?_
  refine x_iload (pc' := 47) rfl rfl rfl ?_
  refine x_iconst (pc' := 48) rfl rfl ?_
  refine x_icmp (a' := 123) (pc' := 51) (z := false) rfl rfl rfl (by decide) (fun h => by cases h) (fun _ => ?_)
  refine x_aload_n (pc' := 52) rfl rfl rfl rfl rfl ?_
  refine x_gR (pc' := 55) (r := (some 27)) rfl rfl rfl (Eq.trans (b := sR t 809 0) rfl (kR_809_0 hc)) ?_
  refine x_aload_n (pc' := 56) rfl rfl rfl rfl rfl ?_
  refine x_gI (pc' := 59) (x := 0) rfl rfl rfl sI_s ?_
  refine x_aload_n (pc' := 60) rfl rfl rfl rfl rfl ?_
  refine x_iload (pc' := 62) rfl rfl rfl ?_
  refine x_iload_n (pc' := 63) rfl rfl rfl ?_
  refine x_iload_n (pc' := 64) rfl rfl rfl ?_
  refine x_iload (pc' := 66) rfl rfl rfl ?_
  refine x_cs (ls0 := [_, _, _, sJk]) (rest := [_, _, _, _]) rfl rfl rfl rfl ?_
  refine x_iload_n (pc' := 1) rfl rfl rfl ?_
  refine x_iload_n (pc' := 2) rfl rfl rfl ?_
  refine x_iload_n (pc' := 3) rfl rfl rfl ?_
  refine x_cs (ls0 := [_, _, _, sJk, sJk, sJk]) (rest := []) rfl rfl rfl rfl ?_
  refine x_getstatic (pc' := 3) rfl rfl (show 1 < sC t 28 from gst1 hc) ?_
  refine x_iconst (pc' := 4) rfl rfl ?_
  refine x_iload_n (pc' := 5) rfl rfl rfl ?_
  refine x_imul (pc' := 6) (z := 6) rfl rfl (by decide) ?_
  refine x_iload_n (pc' := 7) rfl rfl rfl ?_
  refine x_iadd (pc' := 8) (z := 8) rfl rfl (by decide) ?_
  refine x_iald (pc' := 9) (N := 15) (x := 541) rfl rfl rfl (Eq.trans rdNI (kN_28_1 hc)) (io_in (p := 8) (N := 15) (by decide) (by decide)) (Eq.trans (congrArg (sA (sIw t 811 0 0) 28 1) (nn_io (p := 8) (by decide))) (Eq.trans (b := sA t 28 1 8) rfl ((hc.2.2.2.2.2 8).2.trans rfl))) ?_
  refine x_istore_n (pc' := 10) (ls' := [_, _, _, _, _, _]) rfl rfl rfl rfl ?_
  refine x_iload_n (pc' := 11) rfl rfl rfl ?_
  refine x_bipush (pc' := 13) rfl rfl ?_
  refine x_icmp (a' := 20) (pc' := 16) (z := false) rfl rfl rfl (by decide) (fun h => by cases h) (fun _ => ?_)
  refine x_iconst (pc' := 17) rfl rfl ?_
  refine x_goto (pc' := 39) rfl rfl ?_
  refine x_istore (pc' := 41) (ls' := [_, _, _, _, _, _]) rfl rfl rfl rfl ?_
  refine x_iload (pc' := 43) rfl rfl rfl ?_
  refine x_iload_n (pc' := 44) rfl rfl rfl ?_
  refine x_isub (pc' := 45) (z := 3) rfl rfl (by decide) ?_
  refine x_istore (pc' := 47) (ls' := [_, _, _, _, _, _]) rfl rfl rfl rfl ?_
  refine x_iload (pc' := 49) rfl rfl rfl ?_
  refine x_if (a' := 56) (pc' := 52) (z := true) rfl rfl rfl (by decide) (fun _ => ?_) (fun h => by cases h)
  refine x_iload (pc' := 58) rfl rfl rfl ?_
  refine x_iconst (pc' := 59) rfl rfl ?_
  refine x_icmp (a' := 69) (pc' := 62) (z := false) rfl rfl rfl (by decide) (fun h => by cases h) (fun _ => ?_)
  refine x_iload_n (pc' := 63) rfl rfl rfl ?_
  refine x_bipush (pc' := 65) rfl rfl ?_
  refine x_idiv (pc' := 66) (z := 5) rfl rfl (by decide) (by decide +kernel) ?_
  refine x_goto (pc' := 89) rfl rfl ?_
  refine x_iconst (pc' := 90) rfl rfl ?_
  refine x_isub (pc' := 91) (z := 4) rfl rfl (by decide) ?_
  refine x_reti rfl rfl ?_
  refine sK_i (pc' := 6) rfl ?_
  refine x_istore_n (pc' := 7) (ls' := [_, _, _, _]) rfl rfl rfl rfl ?_
  refine x_iload_n (pc' := 8) rfl rfl rfl ?_
  refine x_iconst (pc' := 9) rfl rfl ?_
  refine x_icmp (a' := 31) (pc' := 12) (z := false) rfl rfl rfl (by decide) (fun h => by cases h) (fun _ => ?_)
  refine x_iload_n (pc' := 13) rfl rfl rfl ?_
  refine x_iconst (pc' := 14) rfl rfl ?_
  refine x_icmp (a' := 29) (pc' := 17) (z := false) rfl rfl rfl (by decide) (fun h => by cases h) (fun _ => ?_)
  refine x_iload_n (pc' := 18) rfl rfl rfl ?_
  refine x_cs (ls0 := [_]) (rest := []) rfl rfl rfl rfl ?_
  refine x_iload_n (pc' := 1) rfl rfl rfl ?_
  refine x_iconst (pc' := 2) rfl rfl ?_
  refine x_isub (pc' := 3) (z := 1) rfl rfl (by decide) ?_
  refine x_reti rfl rfl ?_
  refine sK_i (pc' := 21) rfl ?_
  refine x_iload_n (pc' := 22) rfl rfl rfl ?_
  refine x_icmp (a' := 29) (pc' := 25) (z := false) rfl rfl rfl (by decide) (fun h => by cases h) (fun _ => ?_)
  refine x_iconst (pc' := 26) rfl rfl ?_
  refine x_goto (pc' := 30) rfl rfl ?_
  refine x_retz (z := true) rfl rfl ?_
  refine sK_i (pc' := 69) rfl ?_
  refine x_iload_n (pc' := 70) rfl rfl rfl ?_
  have J17 : X 159 78 [.inr (.inr (12, (some 0))), .inl 2, .inl (bz s), .inl 2, .inl 1, .inl 0, .inl 4] [.inl (bz (!(xor true s))), .inl 4, .inr (.inr (12, (some 0))), .inl 0, .inr (.inr (21, (some 27)))] (sIw t 811 0 0) Q := by
    refine x_cv (ls0 := [_, _, _, sJk, sJk, sJk]) (rest := [_, _]) rfl rfl rfl rfl rfl ?_
    refine r153 (b := 4) (s := (!(xor true s))) ((rp_Ic rfl).trans hM) (Cn_cp (cp_I rfl) hc) (Fr.ri (Fr.refl _) hR) (show 4 < 5 by decide) (fun b1 => ?_)
    refine sK_i (pc' := 81) rfl ?_
    refine x_iast (pc' := 82) (N := 200) (p := 0) rfl rfl rfl (Eq.trans rdNI (kN_21_27 hc)) (io_in (p := 0) (N := 200) (by decide) (by decide)) (nn_io (p := 0) (by decide)) ?_
    refine x_aload_n (pc' := 83) rfl rfl rfl rfl rfl ?_
    refine x_gR (pc' := 86) (r := (some 0)) rfl rfl rfl (Eq.trans (b := sR t 769 0) rfl (kR_769_0 hc)) ?_
    refine x_iload (pc' := 88) rfl rfl rfl ?_
    refine x_iald (pc' := 89) (N := 5) (x := (mA M 0 4)) rfl rfl rfl (Eq.trans rdNA (Eq.trans rdNI (kN_21_0 hc))) (io_in (p := 4) (N := 5) (by decide) (by decide)) (Eq.trans (congrArg (sA (sAw (sIw t 811 0 0) 21 27 0 (ov (bsF M n 4 (!(xor true s))))) 21 0) (nn_io (p := 4) (by decide))) (Eq.trans (b := sA t 21 0 4) rfl (gA hM rfl))) ?_
    refine x_iconst (pc' := 90) rfl rfl ?_
    have J20 : X 159 111 [.inr (.inr (12, (some 0))), .inl 2, .inl (bz s), .inl 2, .inl 1, .inl 0, .inl 4] [.inl (bz ((decide ((mA M 0 4) = 2)) && (!((bsF M n 4 (!(xor true s))).isNone))))] (sAw (sIw t 811 0 0) 21 27 0 (ov (bsF M n 4 (!(xor true s))))) Q := by
      refine x_istore (pc' := 113) (ls' := [_, _, _, _, _, _, _]) rfl rfl rfl rfl ?_
      refine x_aload_n (pc' := 114) rfl rfl rfl rfl rfl ?_
      refine x_dup (pc' := 115) rfl rfl rfl ?_
      refine x_gI (pc' := 118) (x := 0) rfl rfl rfl (Eq.trans rdIA sI_s) ?_
      refine x_iconst (pc' := 119) rfl rfl ?_
      refine x_iadd (pc' := 120) (z := 1) rfl rfl (by decide) ?_
      refine x_pI (pc' := 123) rfl rfl rfl ?_
      refine x_iinc (pc' := 126) (y := 1) (ls' := [_, _, _, _, _, _, _]) rfl rfl rfl rfl rfl ?_
      refine x_goto (pc' := 25) rfl rfl ?_
      refine x_iload (pc' := 27) rfl rfl rfl ?_
      refine x_iconst (pc' := 28) rfl rfl ?_
      refine x_icmp (a' := 129) (pc' := 31) (z := false) rfl rfl rfl (by decide) (fun h => by cases h) (fun _ => ?_)
      refine x_iload (pc' := 33) rfl rfl rfl ?_
      refine x_ifeq_z (a' := 129) (pc' := 36) (z := ((decide ((mA M 0 4) = 2)) && (!((bsF M n 4 (!(xor true s))).isNone)))) rfl rfl rfl (fun q23 => ?_) (fun q23 => ?_)
      · refine x_iload (pc' := 131) rfl rfl rfl ?_
        refine x_retz (z := ((decide ((mA M 0 4) = 2)) && (!((bsF M n 4 (!(xor true s))).isNone)))) rfl rfl ?_
        exact qv (congrArg (fun z : Bool => (.inl (some (.inl (bz z))) : sRs)) (Eq.trans (lgF_n q23) q23.symm).symm) (q _ ((rp_Ic rfl).trans ((rp_As rfl).trans ((rp_Ic rfl).trans hM))) ((cp_I rfl).trans (cp_A.trans (cp_I rfl))) (fun L hL => by obtain ⟨l0, z0, h0, j0, rfl⟩ := lgF_i hL; exact zz_no z0 q23))
      · refine x_iload_n (pc' := 37) rfl rfl rfl ?_
        refine x_iload_n (pc' := 38) rfl rfl rfl ?_
        refine x_iload (pc' := 40) rfl rfl rfl ?_
        refine x_cs (ls0 := [_, _, _, sJk, sJk, sJk]) (rest := []) rfl rfl rfl rfl ?_
        refine x_getstatic (pc' := 3) rfl rfl (show 1 < sC t 28 from gst1 hc) ?_
        refine x_iconst (pc' := 4) rfl rfl ?_
        refine x_iload_n (pc' := 5) rfl rfl rfl ?_
        refine x_imul (pc' := 6) (z := 6) rfl rfl (by decide) ?_
        refine x_iload_n (pc' := 7) rfl rfl rfl ?_
        refine x_iadd (pc' := 8) (z := 8) rfl rfl (by decide) ?_
        refine x_iald (pc' := 9) (N := 15) (x := 541) rfl rfl rfl (Eq.trans rdNI (Eq.trans rdNA (Eq.trans rdNI (kN_28_1 hc)))) (io_in (p := 8) (N := 15) (by decide) (by decide)) (Eq.trans (congrArg (sA (sIw (sAw (sIw t 811 0 0) 21 27 0 (ov (bsF M n 4 (!(xor true s))))) 811 0 1) 28 1) (nn_io (p := 8) (by decide))) (Eq.trans (b := sA t 28 1 8) rfl ((hc.2.2.2.2.2 8).2.trans rfl))) ?_
        refine x_istore_n (pc' := 10) (ls' := [_, _, _, _, _, _]) rfl rfl rfl rfl ?_
        refine x_iload_n (pc' := 11) rfl rfl rfl ?_
        refine x_bipush (pc' := 13) rfl rfl ?_
        refine x_icmp (a' := 20) (pc' := 16) (z := false) rfl rfl rfl (by decide) (fun h => by cases h) (fun _ => ?_)
        refine x_iconst (pc' := 17) rfl rfl ?_
        refine x_goto (pc' := 39) rfl rfl ?_
        refine x_istore (pc' := 41) (ls' := [_, _, _, _, _, _]) rfl rfl rfl rfl ?_
        refine x_iload (pc' := 43) rfl rfl rfl ?_
        refine x_iload_n (pc' := 44) rfl rfl rfl ?_
        refine x_isub (pc' := 45) (z := 2) rfl rfl (by decide) ?_
        refine x_istore (pc' := 47) (ls' := [_, _, _, _, _, _]) rfl rfl rfl rfl ?_
        refine x_iload (pc' := 49) rfl rfl rfl ?_
        refine x_if (a' := 56) (pc' := 52) (z := true) rfl rfl rfl (by decide) (fun _ => ?_) (fun h => by cases h)
        refine x_iload (pc' := 58) rfl rfl rfl ?_
        refine x_iconst (pc' := 59) rfl rfl ?_
        refine x_icmp (a' := 69) (pc' := 62) (z := true) rfl rfl rfl (by decide) (fun _ => ?_) (fun h => by cases h)
        refine x_iload (pc' := 71) rfl rfl rfl ?_
        refine x_iconst (pc' := 72) rfl rfl ?_
        refine x_icmp (a' := 85) (pc' := 75) (z := false) rfl rfl rfl (by decide) (fun h => by cases h) (fun _ => ?_)
        refine x_iload_n (pc' := 76) rfl rfl rfl ?_
        refine x_bipush (pc' := 78) rfl rfl ?_
        refine x_idiv (pc' := 79) (z := 54) rfl rfl (by decide) (by decide +kernel) ?_
        refine x_bipush (pc' := 81) rfl rfl ?_
        refine x_irem (pc' := 82) (z := 4) rfl rfl (by decide) (by decide +kernel) ?_
        refine x_goto (pc' := 89) rfl rfl ?_
        refine x_iconst (pc' := 90) rfl rfl ?_
        refine x_isub (pc' := 91) (z := 3) rfl rfl (by decide) ?_
        refine x_reti rfl rfl ?_
        refine sK_i (pc' := 43) rfl ?_
        refine x_istore (pc' := 45) (ls' := [_, _, _, _, _, _, _]) rfl rfl rfl rfl ?_
        refine x_iload (pc' := 47) rfl rfl rfl ?_
        refine x_iconst (pc' := 48) rfl rfl ?_
        refine x_icmp (a' := 123) (pc' := 51) (z := false) rfl rfl rfl (by decide) (fun h => by cases h) (fun _ => ?_)
        refine x_aload_n (pc' := 52) rfl rfl rfl rfl rfl ?_
        refine x_gR (pc' := 55) (r := (some 27)) rfl rfl rfl (Eq.trans (b := sR t 809 0) rfl (kR_809_0 hc)) ?_
        refine x_aload_n (pc' := 56) rfl rfl rfl rfl rfl ?_
        refine x_gI (pc' := 59) (x := 1) rfl rfl rfl sI_s ?_
        refine x_aload_n (pc' := 60) rfl rfl rfl rfl rfl ?_
        refine x_iload (pc' := 62) rfl rfl rfl ?_
        refine x_iload_n (pc' := 63) rfl rfl rfl ?_
        refine x_iload_n (pc' := 64) rfl rfl rfl ?_
        refine x_iload (pc' := 66) rfl rfl rfl ?_
        refine x_cs (ls0 := [_, _, _, sJk]) (rest := [_, _, _, _]) rfl rfl rfl rfl ?_
        refine x_iload_n (pc' := 1) rfl rfl rfl ?_
        refine x_iload_n (pc' := 2) rfl rfl rfl ?_
        refine x_iload_n (pc' := 3) rfl rfl rfl ?_
        refine x_cs (ls0 := [_, _, _, sJk, sJk, sJk]) (rest := []) rfl rfl rfl rfl ?_
        refine x_getstatic (pc' := 3) rfl rfl (show 1 < sC t 28 from gst1 hc) ?_
        refine x_iconst (pc' := 4) rfl rfl ?_
        refine x_iload_n (pc' := 5) rfl rfl rfl ?_
        refine x_imul (pc' := 6) (z := 6) rfl rfl (by decide) ?_
        refine x_iload_n (pc' := 7) rfl rfl rfl ?_
        refine x_iadd (pc' := 8) (z := 8) rfl rfl (by decide) ?_
        refine x_iald (pc' := 9) (N := 15) (x := 541) rfl rfl rfl (Eq.trans rdNI (Eq.trans rdNA (Eq.trans rdNI (kN_28_1 hc)))) (io_in (p := 8) (N := 15) (by decide) (by decide)) (Eq.trans (congrArg (sA (sIw (sAw (sIw t 811 0 0) 21 27 0 (ov (bsF M n 4 (!(xor true s))))) 811 0 1) 28 1) (nn_io (p := 8) (by decide))) (Eq.trans (b := sA t 28 1 8) rfl ((hc.2.2.2.2.2 8).2.trans rfl))) ?_
        refine x_istore_n (pc' := 10) (ls' := [_, _, _, _, _, _]) rfl rfl rfl rfl ?_
        refine x_iload_n (pc' := 11) rfl rfl rfl ?_
        refine x_bipush (pc' := 13) rfl rfl ?_
        refine x_icmp (a' := 20) (pc' := 16) (z := false) rfl rfl rfl (by decide) (fun h => by cases h) (fun _ => ?_)
        refine x_iconst (pc' := 17) rfl rfl ?_
        refine x_goto (pc' := 39) rfl rfl ?_
        refine x_istore (pc' := 41) (ls' := [_, _, _, _, _, _]) rfl rfl rfl rfl ?_
        refine x_iload (pc' := 43) rfl rfl rfl ?_
        refine x_iload_n (pc' := 44) rfl rfl rfl ?_
        refine x_isub (pc' := 45) (z := 2) rfl rfl (by decide) ?_
        refine x_istore (pc' := 47) (ls' := [_, _, _, _, _, _]) rfl rfl rfl rfl ?_
        refine x_iload (pc' := 49) rfl rfl rfl ?_
        refine x_if (a' := 56) (pc' := 52) (z := true) rfl rfl rfl (by decide) (fun _ => ?_) (fun h => by cases h)
        refine x_iload (pc' := 58) rfl rfl rfl ?_
        refine x_iconst (pc' := 59) rfl rfl ?_
        refine x_icmp (a' := 69) (pc' := 62) (z := true) rfl rfl rfl (by decide) (fun _ => ?_) (fun h => by cases h)
        refine x_iload (pc' := 71) rfl rfl rfl ?_
        refine x_iconst (pc' := 72) rfl rfl ?_
        refine x_icmp (a' := 85) (pc' := 75) (z := false) rfl rfl rfl (by decide) (fun h => by cases h) (fun _ => ?_)
        refine x_iload_n (pc' := 76) rfl rfl rfl ?_
        refine x_bipush (pc' := 78) rfl rfl ?_
        refine x_idiv (pc' := 79) (z := 54) rfl rfl (by decide) (by decide +kernel) ?_
        refine x_bipush (pc' := 81) rfl rfl ?_
        refine x_irem (pc' := 82) (z := 4) rfl rfl (by decide) (by decide +kernel) ?_
        refine x_goto (pc' := 89) rfl rfl ?_
        refine x_iconst (pc' := 90) rfl rfl ?_
        refine x_isub (pc' := 91) (z := 3) rfl rfl (by decide) ?_
        refine x_reti rfl rfl ?_
        refine sK_i (pc' := 6) rfl ?_
        refine x_istore_n (pc' := 7) (ls' := [_, _, _, _]) rfl rfl rfl rfl ?_
        refine x_iload_n (pc' := 8) rfl rfl rfl ?_
        refine x_iconst (pc' := 9) rfl rfl ?_
        refine x_icmp (a' := 31) (pc' := 12) (z := false) rfl rfl rfl (by decide) (fun h => by cases h) (fun _ => ?_)
        refine x_iload_n (pc' := 13) rfl rfl rfl ?_
        refine x_iconst (pc' := 14) rfl rfl ?_
        refine x_icmp (a' := 29) (pc' := 17) (z := false) rfl rfl rfl (by decide) (fun h => by cases h) (fun _ => ?_)
        refine x_iload_n (pc' := 18) rfl rfl rfl ?_
        refine x_cs (ls0 := [_]) (rest := []) rfl rfl rfl rfl ?_
        refine x_iload_n (pc' := 1) rfl rfl rfl ?_
        refine x_iconst (pc' := 2) rfl rfl ?_
        refine x_isub (pc' := 3) (z := 0) rfl rfl (by decide) ?_
        refine x_reti rfl rfl ?_
        refine sK_i (pc' := 21) rfl ?_
        refine x_iload_n (pc' := 22) rfl rfl rfl ?_
        refine x_icmp (a' := 29) (pc' := 25) (z := false) rfl rfl rfl (by decide) (fun h => by cases h) (fun _ => ?_)
        refine x_iconst (pc' := 26) rfl rfl ?_
        refine x_goto (pc' := 30) rfl rfl ?_
        refine x_retz (z := true) rfl rfl ?_
        refine sK_i (pc' := 69) rfl ?_
        refine x_iload_n (pc' := 70) rfl rfl rfl ?_
        have J36 : X 159 78 [.inr (.inr (12, (some 0))), .inl 2, .inl (bz s), .inl 2, .inl (bz ((decide ((mA M 0 4) = 2)) && (!((bsF M n 4 (!(xor true s))).isNone)))), .inl 1, .inl 3] [.inl (bz (!(xor true s))), .inl 3, .inr (.inr (12, (some 0))), .inl 1, .inr (.inr (21, (some 27)))] (sIw (sAw (sIw t 811 0 0) 21 27 0 (ov (bsF M n 4 (!(xor true s))))) 811 0 1) Q := by
          refine x_cv (ls0 := [_, _, _, sJk, sJk, sJk]) (rest := [_, _]) rfl rfl rfl rfl rfl ?_
          refine r153 (b := 3) (s := (!(xor true s))) ((rp_Ic rfl).trans ((rp_As rfl).trans ((rp_Ic rfl).trans hM))) (Cn_cp ((cp_I rfl).trans (cp_A.trans (cp_I rfl))) hc) (Fr.ri (Fr.refl _) hR) (show 3 < 5 by decide) (fun b4 => ?_)
          refine sK_i (pc' := 81) rfl ?_
          refine x_iast (pc' := 82) (N := 200) (p := 1) rfl rfl rfl (Eq.trans rdNI (Eq.trans rdNA (Eq.trans rdNI (kN_21_27 hc)))) (io_in (p := 1) (N := 200) (by decide) (by decide)) (nn_io (p := 1) (by decide)) ?_
          refine x_aload_n (pc' := 83) rfl rfl rfl rfl rfl ?_
          refine x_gR (pc' := 86) (r := (some 0)) rfl rfl rfl (Eq.trans (b := sR t 769 0) rfl (kR_769_0 hc)) ?_
          refine x_iload (pc' := 88) rfl rfl rfl ?_
          refine x_iald (pc' := 89) (N := 5) (x := (mA M 0 3)) rfl rfl rfl (Eq.trans rdNA (Eq.trans rdNI (Eq.trans rdNA (Eq.trans rdNI (kN_21_0 hc))))) (io_in (p := 3) (N := 5) (by decide) (by decide)) (Eq.trans (congrArg (sA (sAw (sIw (sAw (sIw t 811 0 0) 21 27 0 (ov (bsF M n 4 (!(xor true s))))) 811 0 1) 21 27 1 (ov (bsF M n 3 (!(xor true s))))) 21 0) (nn_io (p := 3) (by decide))) (Eq.trans (b := sA t 21 0 3) rfl (gA hM rfl))) ?_
          refine x_iconst (pc' := 90) rfl rfl ?_
          have J39 : X 159 111 [.inr (.inr (12, (some 0))), .inl 2, .inl (bz s), .inl 2, .inl (bz ((decide ((mA M 0 4) = 2)) && (!((bsF M n 4 (!(xor true s))).isNone)))), .inl 1, .inl 3] [.inl (bz ((decide ((mA M 0 3) = 2)) && (!((bsF M n 3 (!(xor true s))).isNone))))] (sAw (sIw (sAw (sIw t 811 0 0) 21 27 0 (ov (bsF M n 4 (!(xor true s))))) 811 0 1) 21 27 1 (ov (bsF M n 3 (!(xor true s))))) Q := by
            refine x_istore (pc' := 113) (ls' := [_, _, _, _, _, _, _]) rfl rfl rfl rfl ?_
            refine x_aload_n (pc' := 114) rfl rfl rfl rfl rfl ?_
            refine x_dup (pc' := 115) rfl rfl rfl ?_
            refine x_gI (pc' := 118) (x := 1) rfl rfl rfl (Eq.trans rdIA sI_s) ?_
            refine x_iconst (pc' := 119) rfl rfl ?_
            refine x_iadd (pc' := 120) (z := 2) rfl rfl (by decide) ?_
            refine x_pI (pc' := 123) rfl rfl rfl ?_
            refine x_iinc (pc' := 126) (y := 2) (ls' := [_, _, _, _, _, _, _]) rfl rfl rfl rfl rfl ?_
            refine x_goto (pc' := 25) rfl rfl ?_
            refine x_iload (pc' := 27) rfl rfl rfl ?_
            refine x_iconst (pc' := 28) rfl rfl ?_
            refine x_icmp (a' := 129) (pc' := 31) (z := false) rfl rfl rfl (by decide) (fun h => by cases h) (fun _ => ?_)
            refine x_iload (pc' := 33) rfl rfl rfl ?_
            refine x_ifeq_z (a' := 129) (pc' := 36) (z := ((decide ((mA M 0 3) = 2)) && (!((bsF M n 3 (!(xor true s))).isNone)))) rfl rfl rfl (fun q42 => ?_) (fun q42 => ?_)
            · refine x_iload (pc' := 131) rfl rfl rfl ?_
              refine x_retz (z := ((decide ((mA M 0 3) = 2)) && (!((bsF M n 3 (!(xor true s))).isNone)))) rfl rfl ?_
              exact qv (congrArg (fun z : Bool => (.inl (some (.inl (bz z))) : sRs)) (Eq.trans (Eq.trans (lgF_s q23) (lgF_n q42)) q42.symm).symm) (q _ ((rp_Ic rfl).trans ((rp_As rfl).trans ((rp_Ic rfl).trans ((rp_As rfl).trans ((rp_Ic rfl).trans hM))))) ((cp_I rfl).trans (cp_A.trans ((cp_I rfl).trans (cp_A.trans (cp_I rfl))))) (fun L hL => by obtain ⟨l0, z0, h0, j0, rfl⟩ := lgF_i hL; obtain ⟨l1, z1, h1, j1, rfl⟩ := lgF_i h0; exact zz_no z1 q42))
            · refine x_iload_n (pc' := 37) rfl rfl rfl ?_
              refine x_iload_n (pc' := 38) rfl rfl rfl ?_
              refine x_iload (pc' := 40) rfl rfl rfl ?_
              refine x_cs (ls0 := [_, _, _, sJk, sJk, sJk]) (rest := []) rfl rfl rfl rfl ?_
              refine x_getstatic (pc' := 3) rfl rfl (show 1 < sC t 28 from gst1 hc) ?_
              refine x_iconst (pc' := 4) rfl rfl ?_
              refine x_iload_n (pc' := 5) rfl rfl rfl ?_
              refine x_imul (pc' := 6) (z := 6) rfl rfl (by decide) ?_
              refine x_iload_n (pc' := 7) rfl rfl rfl ?_
              refine x_iadd (pc' := 8) (z := 8) rfl rfl (by decide) ?_
              refine x_iald (pc' := 9) (N := 15) (x := 541) rfl rfl rfl (Eq.trans rdNI (Eq.trans rdNA (Eq.trans rdNI (Eq.trans rdNA (Eq.trans rdNI (kN_28_1 hc)))))) (io_in (p := 8) (N := 15) (by decide) (by decide)) (Eq.trans (congrArg (sA (sIw (sAw (sIw (sAw (sIw t 811 0 0) 21 27 0 (ov (bsF M n 4 (!(xor true s))))) 811 0 1) 21 27 1 (ov (bsF M n 3 (!(xor true s))))) 811 0 2) 28 1) (nn_io (p := 8) (by decide))) (Eq.trans (b := sA t 28 1 8) rfl ((hc.2.2.2.2.2 8).2.trans rfl))) ?_
              refine x_istore_n (pc' := 10) (ls' := [_, _, _, _, _, _]) rfl rfl rfl rfl ?_
              refine x_iload_n (pc' := 11) rfl rfl rfl ?_
              refine x_bipush (pc' := 13) rfl rfl ?_
              refine x_icmp (a' := 20) (pc' := 16) (z := false) rfl rfl rfl (by decide) (fun h => by cases h) (fun _ => ?_)
              refine x_iconst (pc' := 17) rfl rfl ?_
              refine x_goto (pc' := 39) rfl rfl ?_
              refine x_istore (pc' := 41) (ls' := [_, _, _, _, _, _]) rfl rfl rfl rfl ?_
              refine x_iload (pc' := 43) rfl rfl rfl ?_
              refine x_iload_n (pc' := 44) rfl rfl rfl ?_
              refine x_isub (pc' := 45) (z := 1) rfl rfl (by decide) ?_
              refine x_istore (pc' := 47) (ls' := [_, _, _, _, _, _]) rfl rfl rfl rfl ?_
              refine x_iload (pc' := 49) rfl rfl rfl ?_
              refine x_if (a' := 56) (pc' := 52) (z := true) rfl rfl rfl (by decide) (fun _ => ?_) (fun h => by cases h)
              refine x_iload (pc' := 58) rfl rfl rfl ?_
              refine x_iconst (pc' := 59) rfl rfl ?_
              refine x_icmp (a' := 69) (pc' := 62) (z := true) rfl rfl rfl (by decide) (fun _ => ?_) (fun h => by cases h)
              refine x_iload (pc' := 71) rfl rfl rfl ?_
              refine x_iconst (pc' := 72) rfl rfl ?_
              refine x_icmp (a' := 85) (pc' := 75) (z := true) rfl rfl rfl (by decide) (fun _ => ?_) (fun h => by cases h)
              refine x_iload_n (pc' := 86) rfl rfl rfl ?_
              refine x_bipush (pc' := 88) rfl rfl ?_
              refine x_irem (pc' := 89) (z := 1) rfl rfl (by decide) (by decide +kernel) ?_
              refine x_iconst (pc' := 90) rfl rfl ?_
              refine x_isub (pc' := 91) (z := 0) rfl rfl (by decide) ?_
              refine x_reti rfl rfl ?_
              refine sK_i (pc' := 43) rfl ?_
              refine x_istore (pc' := 45) (ls' := [_, _, _, _, _, _, _]) rfl rfl rfl rfl ?_
              refine x_iload (pc' := 47) rfl rfl rfl ?_
              refine x_iconst (pc' := 48) rfl rfl ?_
              refine x_icmp (a' := 123) (pc' := 51) (z := false) rfl rfl rfl (by decide) (fun h => by cases h) (fun _ => ?_)
              refine x_aload_n (pc' := 52) rfl rfl rfl rfl rfl ?_
              refine x_gR (pc' := 55) (r := (some 27)) rfl rfl rfl (Eq.trans (b := sR t 809 0) rfl (kR_809_0 hc)) ?_
              refine x_aload_n (pc' := 56) rfl rfl rfl rfl rfl ?_
              refine x_gI (pc' := 59) (x := 2) rfl rfl rfl sI_s ?_
              refine x_aload_n (pc' := 60) rfl rfl rfl rfl rfl ?_
              refine x_iload (pc' := 62) rfl rfl rfl ?_
              refine x_iload_n (pc' := 63) rfl rfl rfl ?_
              refine x_iload_n (pc' := 64) rfl rfl rfl ?_
              refine x_iload (pc' := 66) rfl rfl rfl ?_
              refine x_cs (ls0 := [_, _, _, sJk]) (rest := [_, _, _, _]) rfl rfl rfl rfl ?_
              refine x_iload_n (pc' := 1) rfl rfl rfl ?_
              refine x_iload_n (pc' := 2) rfl rfl rfl ?_
              refine x_iload_n (pc' := 3) rfl rfl rfl ?_
              refine x_cs (ls0 := [_, _, _, sJk, sJk, sJk]) (rest := []) rfl rfl rfl rfl ?_
              refine x_getstatic (pc' := 3) rfl rfl (show 1 < sC t 28 from gst1 hc) ?_
              refine x_iconst (pc' := 4) rfl rfl ?_
              refine x_iload_n (pc' := 5) rfl rfl rfl ?_
              refine x_imul (pc' := 6) (z := 6) rfl rfl (by decide) ?_
              refine x_iload_n (pc' := 7) rfl rfl rfl ?_
              refine x_iadd (pc' := 8) (z := 8) rfl rfl (by decide) ?_
              refine x_iald (pc' := 9) (N := 15) (x := 541) rfl rfl rfl (Eq.trans rdNI (Eq.trans rdNA (Eq.trans rdNI (Eq.trans rdNA (Eq.trans rdNI (kN_28_1 hc)))))) (io_in (p := 8) (N := 15) (by decide) (by decide)) (Eq.trans (congrArg (sA (sIw (sAw (sIw (sAw (sIw t 811 0 0) 21 27 0 (ov (bsF M n 4 (!(xor true s))))) 811 0 1) 21 27 1 (ov (bsF M n 3 (!(xor true s))))) 811 0 2) 28 1) (nn_io (p := 8) (by decide))) (Eq.trans (b := sA t 28 1 8) rfl ((hc.2.2.2.2.2 8).2.trans rfl))) ?_
              refine x_istore_n (pc' := 10) (ls' := [_, _, _, _, _, _]) rfl rfl rfl rfl ?_
              refine x_iload_n (pc' := 11) rfl rfl rfl ?_
              refine x_bipush (pc' := 13) rfl rfl ?_
              refine x_icmp (a' := 20) (pc' := 16) (z := false) rfl rfl rfl (by decide) (fun h => by cases h) (fun _ => ?_)
              refine x_iconst (pc' := 17) rfl rfl ?_
              refine x_goto (pc' := 39) rfl rfl ?_
              refine x_istore (pc' := 41) (ls' := [_, _, _, _, _, _]) rfl rfl rfl rfl ?_
              refine x_iload (pc' := 43) rfl rfl rfl ?_
              refine x_iload_n (pc' := 44) rfl rfl rfl ?_
              refine x_isub (pc' := 45) (z := 1) rfl rfl (by decide) ?_
              refine x_istore (pc' := 47) (ls' := [_, _, _, _, _, _]) rfl rfl rfl rfl ?_
              refine x_iload (pc' := 49) rfl rfl rfl ?_
              refine x_if (a' := 56) (pc' := 52) (z := true) rfl rfl rfl (by decide) (fun _ => ?_) (fun h => by cases h)
              refine x_iload (pc' := 58) rfl rfl rfl ?_
              refine x_iconst (pc' := 59) rfl rfl ?_
              refine x_icmp (a' := 69) (pc' := 62) (z := true) rfl rfl rfl (by decide) (fun _ => ?_) (fun h => by cases h)
              refine x_iload (pc' := 71) rfl rfl rfl ?_
              refine x_iconst (pc' := 72) rfl rfl ?_
              refine x_icmp (a' := 85) (pc' := 75) (z := true) rfl rfl rfl (by decide) (fun _ => ?_) (fun h => by cases h)
              refine x_iload_n (pc' := 86) rfl rfl rfl ?_
              refine x_bipush (pc' := 88) rfl rfl ?_
              refine x_irem (pc' := 89) (z := 1) rfl rfl (by decide) (by decide +kernel) ?_
              refine x_iconst (pc' := 90) rfl rfl ?_
              refine x_isub (pc' := 91) (z := 0) rfl rfl (by decide) ?_
              refine x_reti rfl rfl ?_
              refine sK_i (pc' := 6) rfl ?_
              refine x_istore_n (pc' := 7) (ls' := [_, _, _, _]) rfl rfl rfl rfl ?_
              refine x_iload_n (pc' := 8) rfl rfl rfl ?_
              refine x_iconst (pc' := 9) rfl rfl ?_
              refine x_icmp (a' := 31) (pc' := 12) (z := false) rfl rfl rfl (by decide) (fun h => by cases h) (fun _ => ?_)
              refine x_iload_n (pc' := 13) rfl rfl rfl ?_
              refine x_iconst (pc' := 14) rfl rfl ?_
              refine x_icmp (a' := 29) (pc' := 17) (z := true) rfl rfl rfl (by decide) (fun _ => ?_) (fun h => by cases h)
              refine x_iconst (pc' := 30) rfl rfl ?_
              refine x_retz (z := false) rfl rfl ?_
              refine sK_i (pc' := 69) rfl ?_
              refine x_iload_n (pc' := 70) rfl rfl rfl ?_
              have J54 : X 159 78 [.inr (.inr (12, (some 0))), .inl 2, .inl (bz s), .inl 2, .inl (bz ((decide ((mA M 0 3) = 2)) && (!((bsF M n 3 (!(xor true s))).isNone)))), .inl 2, .inl 0] [.inl (bz (!(xor false s))), .inl 0, .inr (.inr (12, (some 0))), .inl 2, .inr (.inr (21, (some 27)))] (sIw (sAw (sIw (sAw (sIw t 811 0 0) 21 27 0 (ov (bsF M n 4 (!(xor true s))))) 811 0 1) 21 27 1 (ov (bsF M n 3 (!(xor true s))))) 811 0 2) Q := by
                refine x_cv (ls0 := [_, _, _, sJk, sJk, sJk]) (rest := [_, _]) rfl rfl rfl rfl rfl ?_
                refine r153 (b := 0) (s := (!(xor false s))) ((rp_Ic rfl).trans ((rp_As rfl).trans ((rp_Ic rfl).trans ((rp_As rfl).trans ((rp_Ic rfl).trans hM))))) (Cn_cp ((cp_I rfl).trans (cp_A.trans ((cp_I rfl).trans (cp_A.trans (cp_I rfl))))) hc) (Fr.ri (Fr.refl _) hR) (show 0 < 5 by decide) (fun b6 => ?_)
                refine sK_i (pc' := 81) rfl ?_
                refine x_iast (pc' := 82) (N := 200) (p := 2) rfl rfl rfl (Eq.trans rdNI (Eq.trans rdNA (Eq.trans rdNI (Eq.trans rdNA (Eq.trans rdNI (kN_21_27 hc)))))) (io_in (p := 2) (N := 200) (by decide) (by decide)) (nn_io (p := 2) (by decide)) ?_
                refine x_aload_n (pc' := 83) rfl rfl rfl rfl rfl ?_
                refine x_gR (pc' := 86) (r := (some 0)) rfl rfl rfl (Eq.trans (b := sR t 769 0) rfl (kR_769_0 hc)) ?_
                refine x_iload (pc' := 88) rfl rfl rfl ?_
                refine x_iald (pc' := 89) (N := 5) (x := (mA M 0 0)) rfl rfl rfl (Eq.trans rdNA (Eq.trans rdNI (Eq.trans rdNA (Eq.trans rdNI (Eq.trans rdNA (Eq.trans rdNI (kN_21_0 hc))))))) (io_in (p := 0) (N := 5) (by decide) (by decide)) (Eq.trans (congrArg (sA (sAw (sIw (sAw (sIw (sAw (sIw t 811 0 0) 21 27 0 (ov (bsF M n 4 (!(xor true s))))) 811 0 1) 21 27 1 (ov (bsF M n 3 (!(xor true s))))) 811 0 2) 21 27 2 (ov (bsF M n 0 (!(xor false s))))) 21 0) (nn_io (p := 0) (by decide))) (Eq.trans (b := sA t 21 0 0) rfl (gA hM rfl))) ?_
                refine x_iconst (pc' := 90) rfl rfl ?_
                have J57 : X 159 111 [.inr (.inr (12, (some 0))), .inl 2, .inl (bz s), .inl 2, .inl (bz ((decide ((mA M 0 3) = 2)) && (!((bsF M n 3 (!(xor true s))).isNone)))), .inl 2, .inl 0] [.inl (bz ((decide ((mA M 0 0) = 2)) && (!((bsF M n 0 (!(xor false s))).isNone))))] (sAw (sIw (sAw (sIw (sAw (sIw t 811 0 0) 21 27 0 (ov (bsF M n 4 (!(xor true s))))) 811 0 1) 21 27 1 (ov (bsF M n 3 (!(xor true s))))) 811 0 2) 21 27 2 (ov (bsF M n 0 (!(xor false s))))) Q := by
                  refine x_istore (pc' := 113) (ls' := [_, _, _, _, _, _, _]) rfl rfl rfl rfl ?_
                  refine x_aload_n (pc' := 114) rfl rfl rfl rfl rfl ?_
                  refine x_dup (pc' := 115) rfl rfl rfl ?_
                  refine x_gI (pc' := 118) (x := 2) rfl rfl rfl (Eq.trans rdIA sI_s) ?_
                  refine x_iconst (pc' := 119) rfl rfl ?_
                  refine x_iadd (pc' := 120) (z := 3) rfl rfl (by decide) ?_
                  refine x_pI (pc' := 123) rfl rfl rfl ?_
                  refine x_iinc (pc' := 126) (y := 3) (ls' := [_, _, _, _, _, _, _]) rfl rfl rfl rfl rfl ?_
                  refine x_goto (pc' := 25) rfl rfl ?_
                  refine x_iload (pc' := 27) rfl rfl rfl ?_
                  refine x_iconst (pc' := 28) rfl rfl ?_
                  refine x_icmp (a' := 129) (pc' := 31) (z := true) rfl rfl rfl (by decide) (fun _ => ?_) (fun h => by cases h)
                  refine x_iload (pc' := 131) rfl rfl rfl ?_
                  refine x_retz (z := ((decide ((mA M 0 0) = 2)) && (!((bsF M n 0 (!(xor false s))).isNone)))) rfl rfl ?_
                  exact qv (congrArg (fun z : Bool => (.inl (some (.inl (bz z))) : sRs)) (Eq.trans (lgF_s q23) (Eq.trans (lgF_s q42) lgF_1)).symm) (q _ ((rp_Ic rfl).trans ((rp_As rfl).trans ((rp_Ic rfl).trans ((rp_As rfl).trans ((rp_Ic rfl).trans ((rp_As rfl).trans ((rp_Ic rfl).trans hM))))))) ((cp_I rfl).trans (cp_A.trans ((cp_I rfl).trans (cp_A.trans ((cp_I rfl).trans (cp_A.trans (cp_I rfl))))))) (fun L hL => by obtain ⟨l0, z0, h0, j0, rfl⟩ := lgF_i hL; obtain ⟨l1, z1, h1, j1, rfl⟩ := lgF_i h0; obtain ⟨l2, z2, h2, j2, rfl⟩ := lgF_i h1; cases lgF_nil h2; exact ⟨rfl, ov_io (an_n z0), ov_io (an_n z1), ov_io (an_n z2), trivial⟩))
                refine x_icmp_n (a' := 110) (pc' := 93) (z := decide ((mA M 0 0) = 2)) rfl rfl rfl (ik_ne _ _) (fun q56 => ?_) (fun q56 => ?_)
                · refine x_iconst (pc' := 111) rfl rfl ?_
                  ((try rw [q56] at J57); (try rw [q56]); (try simp only [cd_t, cd_f, nt_t, nt_f, an_t, an_f, or_t, or_f] at J57); (try simp only [cd_t, cd_f, nt_t, nt_f, an_t, an_f, or_t, or_f]); exact J57)
                · refine x_aload_n (pc' := 94) rfl rfl rfl rfl rfl ?_
                  refine x_gR (pc' := 97) (r := (some 27)) rfl rfl rfl (Eq.trans (b := sR t 809 0) rfl (kR_809_0 hc)) ?_
                  refine x_aload_n (pc' := 98) rfl rfl rfl rfl rfl ?_
                  refine x_gI (pc' := 101) (x := 2) rfl rfl rfl (Eq.trans rdIA sI_s) ?_
                  refine x_iald (pc' := 102) (N := 200) (x := (ov (bsF M n 0 (!(xor false s))))) rfl rfl rfl (Eq.trans rdNA (Eq.trans rdNI (Eq.trans rdNA (Eq.trans rdNI (Eq.trans rdNA (Eq.trans rdNI (kN_21_27 hc))))))) (io_in (p := 2) (N := 200) (by decide) (by decide)) (Eq.trans (congrArg (sA (sAw (sIw (sAw (sIw (sAw (sIw t 811 0 0) 21 27 0 (ov (bsF M n 4 (!(xor true s))))) 811 0 1) 21 27 1 (ov (bsF M n 3 (!(xor true s))))) 811 0 2) 21 27 2 (ov (bsF M n 0 (!(xor false s))))) 21 27) (nn_io (p := 2) (by decide))) sA_s) ?_
                  refine x_iconst (pc' := 103) rfl rfl ?_
                  refine x_icmp (a' := 110) (pc' := 106) (z := (bsF M n 0 (!(xor false s))).isNone) rfl rfl rfl (ov_eq (ov_31 (N := n) b6 (Nat.le_of_lt (gn31 hR)))) (fun q57 => ?_) (fun q57 => ?_)
                  · refine x_iconst (pc' := 111) rfl rfl ?_
                    ((try rw [q57] at J57); (try rw [q57]); (try rw [q56] at J57); (try rw [q56]); (try simp only [cd_t, cd_f, nt_t, nt_f, an_t, an_f, or_t, or_f] at J57); (try simp only [cd_t, cd_f, nt_t, nt_f, an_t, an_f, or_t, or_f]); exact J57)
                  · refine x_iconst (pc' := 107) rfl rfl ?_
                    refine x_goto (pc' := 111) rfl rfl ?_
                    ((try rw [q57] at J57); (try rw [q57]); (try rw [q56] at J57); (try rw [q56]); (try simp only [cd_t, cd_f, nt_t, nt_f, an_t, an_f, or_t, or_f] at J57); (try simp only [cd_t, cd_f, nt_t, nt_f, an_t, an_f, or_t, or_f]); exact J57)
              refine x_icmp (a' := 77) (pc' := 73) (z := (xor false s)) rfl rfl rfl (bz_neb _ _) (fun q54 => ?_) (fun q54 => ?_)
              · refine x_iconst (pc' := 78) rfl rfl ?_
                ((try rw [q54] at J54); (try rw [q54]); (try simp only [cd_t, cd_f, nt_t, nt_f, an_t, an_f, or_t, or_f] at J54); (try simp only [cd_t, cd_f, nt_t, nt_f, an_t, an_f, or_t, or_f]); exact J54)
              · refine x_iconst (pc' := 74) rfl rfl ?_
                refine x_goto (pc' := 78) rfl rfl ?_
                ((try rw [q54] at J54); (try rw [q54]); (try simp only [cd_t, cd_f, nt_t, nt_f, an_t, an_f, or_t, or_f] at J54); (try simp only [cd_t, cd_f, nt_t, nt_f, an_t, an_f, or_t, or_f]); exact J54)
          refine x_icmp_n (a' := 110) (pc' := 93) (z := decide ((mA M 0 3) = 2)) rfl rfl rfl (ik_ne _ _) (fun q38 => ?_) (fun q38 => ?_)
          · refine x_iconst (pc' := 111) rfl rfl ?_
            ((try rw [q38] at J39); (try rw [q38]); (try simp only [cd_t, cd_f, nt_t, nt_f, an_t, an_f, or_t, or_f] at J39); (try simp only [cd_t, cd_f, nt_t, nt_f, an_t, an_f, or_t, or_f]); exact J39)
          · refine x_aload_n (pc' := 94) rfl rfl rfl rfl rfl ?_
            refine x_gR (pc' := 97) (r := (some 27)) rfl rfl rfl (Eq.trans (b := sR t 809 0) rfl (kR_809_0 hc)) ?_
            refine x_aload_n (pc' := 98) rfl rfl rfl rfl rfl ?_
            refine x_gI (pc' := 101) (x := 1) rfl rfl rfl (Eq.trans rdIA sI_s) ?_
            refine x_iald (pc' := 102) (N := 200) (x := (ov (bsF M n 3 (!(xor true s))))) rfl rfl rfl (Eq.trans rdNA (Eq.trans rdNI (Eq.trans rdNA (Eq.trans rdNI (kN_21_27 hc))))) (io_in (p := 1) (N := 200) (by decide) (by decide)) (Eq.trans (congrArg (sA (sAw (sIw (sAw (sIw t 811 0 0) 21 27 0 (ov (bsF M n 4 (!(xor true s))))) 811 0 1) 21 27 1 (ov (bsF M n 3 (!(xor true s))))) 21 27) (nn_io (p := 1) (by decide))) sA_s) ?_
            refine x_iconst (pc' := 103) rfl rfl ?_
            refine x_icmp (a' := 110) (pc' := 106) (z := (bsF M n 3 (!(xor true s))).isNone) rfl rfl rfl (ov_eq (ov_31 (N := n) b4 (Nat.le_of_lt (gn31 hR)))) (fun q39 => ?_) (fun q39 => ?_)
            · refine x_iconst (pc' := 111) rfl rfl ?_
              ((try rw [q39] at J39); (try rw [q39]); (try rw [q38] at J39); (try rw [q38]); (try simp only [cd_t, cd_f, nt_t, nt_f, an_t, an_f, or_t, or_f] at J39); (try simp only [cd_t, cd_f, nt_t, nt_f, an_t, an_f, or_t, or_f]); exact J39)
            · refine x_iconst (pc' := 107) rfl rfl ?_
              refine x_goto (pc' := 111) rfl rfl ?_
              ((try rw [q39] at J39); (try rw [q39]); (try rw [q38] at J39); (try rw [q38]); (try simp only [cd_t, cd_f, nt_t, nt_f, an_t, an_f, or_t, or_f] at J39); (try simp only [cd_t, cd_f, nt_t, nt_f, an_t, an_f, or_t, or_f]); exact J39)
        refine x_icmp (a' := 77) (pc' := 73) (z := (xor true s)) rfl rfl rfl (bz_neb _ _) (fun q36 => ?_) (fun q36 => ?_)
        · refine x_iconst (pc' := 78) rfl rfl ?_
          ((try rw [q36] at J36); (try rw [q36]); (try simp only [cd_t, cd_f, nt_t, nt_f, an_t, an_f, or_t, or_f] at J36); (try simp only [cd_t, cd_f, nt_t, nt_f, an_t, an_f, or_t, or_f]); exact J36)
        · refine x_iconst (pc' := 74) rfl rfl ?_
          refine x_goto (pc' := 78) rfl rfl ?_
          ((try rw [q36] at J36); (try rw [q36]); (try simp only [cd_t, cd_f, nt_t, nt_f, an_t, an_f, or_t, or_f] at J36); (try simp only [cd_t, cd_f, nt_t, nt_f, an_t, an_f, or_t, or_f]); exact J36)
    refine x_icmp_n (a' := 110) (pc' := 93) (z := decide ((mA M 0 4) = 2)) rfl rfl rfl (ik_ne _ _) (fun q19 => ?_) (fun q19 => ?_)
    · refine x_iconst (pc' := 111) rfl rfl ?_
      ((try rw [q19] at J20); (try rw [q19]); (try simp only [cd_t, cd_f, nt_t, nt_f, an_t, an_f, or_t, or_f] at J20); (try simp only [cd_t, cd_f, nt_t, nt_f, an_t, an_f, or_t, or_f]); exact J20)
    · refine x_aload_n (pc' := 94) rfl rfl rfl rfl rfl ?_
      refine x_gR (pc' := 97) (r := (some 27)) rfl rfl rfl (Eq.trans (b := sR t 809 0) rfl (kR_809_0 hc)) ?_
      refine x_aload_n (pc' := 98) rfl rfl rfl rfl rfl ?_
      refine x_gI (pc' := 101) (x := 0) rfl rfl rfl (Eq.trans rdIA sI_s) ?_
      refine x_iald (pc' := 102) (N := 200) (x := (ov (bsF M n 4 (!(xor true s))))) rfl rfl rfl (Eq.trans rdNA (Eq.trans rdNI (kN_21_27 hc))) (io_in (p := 0) (N := 200) (by decide) (by decide)) (Eq.trans (congrArg (sA (sAw (sIw t 811 0 0) 21 27 0 (ov (bsF M n 4 (!(xor true s))))) 21 27) (nn_io (p := 0) (by decide))) sA_s) ?_
      refine x_iconst (pc' := 103) rfl rfl ?_
      refine x_icmp (a' := 110) (pc' := 106) (z := (bsF M n 4 (!(xor true s))).isNone) rfl rfl rfl (ov_eq (ov_31 (N := n) b1 (Nat.le_of_lt (gn31 hR)))) (fun q20 => ?_) (fun q20 => ?_)
      · refine x_iconst (pc' := 111) rfl rfl ?_
        ((try rw [q20] at J20); (try rw [q20]); (try rw [q19] at J20); (try rw [q19]); (try simp only [cd_t, cd_f, nt_t, nt_f, an_t, an_f, or_t, or_f] at J20); (try simp only [cd_t, cd_f, nt_t, nt_f, an_t, an_f, or_t, or_f]); exact J20)
      · refine x_iconst (pc' := 107) rfl rfl ?_
        refine x_goto (pc' := 111) rfl rfl ?_
        ((try rw [q20] at J20); (try rw [q20]); (try rw [q19] at J20); (try rw [q19]); (try simp only [cd_t, cd_f, nt_t, nt_f, an_t, an_f, or_t, or_f] at J20); (try simp only [cd_t, cd_f, nt_t, nt_f, an_t, an_f, or_t, or_f]); exact J20)
  refine x_icmp (a' := 77) (pc' := 73) (z := (xor true s)) rfl rfl rfl (bz_neb _ _) (fun q17 => ?_) (fun q17 => ?_)
  · refine x_iconst (pc' := 78) rfl rfl ?_
    ((try rw [q17] at J17); (try rw [q17]); (try simp only [cd_t, cd_f, nt_t, nt_f, an_t, an_f, or_t, or_f] at J17); (try simp only [cd_t, cd_f, nt_t, nt_f, an_t, an_f, or_t, or_f]); exact J17)
  · refine x_iconst (pc' := 74) rfl rfl ?_
    refine x_goto (pc' := 78) rfl rfl ?_
    ((try rw [q17] at J17); (try rw [q17]); (try simp only [cd_t, cd_f, nt_t, nt_f, an_t, an_f, or_t, or_f] at J17); (try simp only [cd_t, cd_f, nt_t, nt_f, an_t, an_f, or_t, or_f]); exact J17)
set_option maxHeartbeats 4000000 in
set_option maxRecDepth 10000 in
theorem r160_22 {t : sT} {Q : sRs → sT → Prop} {M : sM} {n : Nat} {o0 o1 o2 : Nat}
    (hM : rp t = M)
    (hc : Cn t)
    (hR : Ri M n)
    (ho0 : o0 < n)
    (ho1 : o1 < n)
    (ho2 : o2 < n)
    (hq : sI t 811 0 = 3)
    (hk0 : sA t 21 27 0 = io o0)
    (hk1 : sA t 21 27 1 = io o1)
    (hk2 : sA t 21 27 2 = io o2)
    (q : Q (.inl (some (.inl (prF M 2 2 [o0, o1, o2])))) t) :
    X 160 0 [.inr (.inr (12, (some 0))), .inl 2, .inl 2, sJk, sJk] [] t Q := by
  refine x_iload_n (pc' := 1) rfl rfl rfl ?_
  refine x_iconst (pc' := 2) rfl rfl ?_
  refine x_icmp (a' := 34) (pc' := 5) (z := true) rfl rfl rfl (by decide) (fun _ => ?_) (fun h => by cases h)
  refine x_iconst (pc' := 35) rfl rfl ?_
  refine x_istore_n (pc' := 36) (ls' := [_, _, _, _, _]) rfl rfl rfl rfl ?_
  refine x_iconst (pc' := 37) rfl rfl ?_
  refine x_istore (pc' := 39) (ls' := [_, _, _, _, _]) rfl rfl rfl rfl ?_
  refine x_iload (pc' := 41) rfl rfl rfl ?_
  refine x_aload_n (pc' := 42) rfl rfl rfl rfl rfl ?_
  refine x_gI (pc' := 45) (x := 3) rfl rfl rfl hq ?_
  refine x_icmp (a' := 95) (pc' := 48) (z := false) rfl rfl rfl (by decide) (fun h => by cases h) (fun _ => ?_)
  refine x_iload_n (pc' := 49) rfl rfl rfl ?_
  refine x_iload_n (pc' := 50) rfl rfl rfl ?_
  refine x_iload_n (pc' := 51) rfl rfl rfl ?_
  refine x_iload (pc' := 53) rfl rfl rfl ?_
  refine x_cs (ls0 := [_, _, _, sJk]) (rest := [_]) rfl rfl rfl rfl ?_
  refine x_iload_n (pc' := 1) rfl rfl rfl ?_
  refine x_iload_n (pc' := 2) rfl rfl rfl ?_
  refine x_iload_n (pc' := 3) rfl rfl rfl ?_
  refine x_cs (ls0 := [_, _, _, sJk, sJk, sJk]) (rest := []) rfl rfl rfl rfl ?_
  refine x_getstatic (pc' := 3) rfl rfl (show 1 < sC t 28 from gst1 hc) ?_
  refine x_iconst (pc' := 4) rfl rfl ?_
  refine x_iload_n (pc' := 5) rfl rfl rfl ?_
  refine x_imul (pc' := 6) (z := 6) rfl rfl (by decide) ?_
  refine x_iload_n (pc' := 7) rfl rfl rfl ?_
  refine x_iadd (pc' := 8) (z := 8) rfl rfl (by decide) ?_
  refine x_iald (pc' := 9) (N := 15) (x := 541) rfl rfl rfl (kN_28_1 hc) (io_in (p := 8) (N := 15) (by decide) (by decide)) (Eq.trans (congrArg (sA t 28 1) (nn_io (p := 8) (by decide))) ((hc.2.2.2.2.2 8).2.trans rfl)) ?_
  refine x_istore_n (pc' := 10) (ls' := [_, _, _, _, _, _]) rfl rfl rfl rfl ?_
  refine x_iload_n (pc' := 11) rfl rfl rfl ?_
  refine x_bipush (pc' := 13) rfl rfl ?_
  refine x_icmp (a' := 20) (pc' := 16) (z := false) rfl rfl rfl (by decide) (fun h => by cases h) (fun _ => ?_)
  refine x_iconst (pc' := 17) rfl rfl ?_
  refine x_goto (pc' := 39) rfl rfl ?_
  refine x_istore (pc' := 41) (ls' := [_, _, _, _, _, _]) rfl rfl rfl rfl ?_
  refine x_iload (pc' := 43) rfl rfl rfl ?_
  refine x_iload_n (pc' := 44) rfl rfl rfl ?_
  refine x_isub (pc' := 45) (z := 3) rfl rfl (by decide) ?_
  refine x_istore (pc' := 47) (ls' := [_, _, _, _, _, _]) rfl rfl rfl rfl ?_
  refine x_iload (pc' := 49) rfl rfl rfl ?_
  refine x_if (a' := 56) (pc' := 52) (z := true) rfl rfl rfl (by decide) (fun _ => ?_) (fun h => by cases h)
  refine x_iload (pc' := 58) rfl rfl rfl ?_
  refine x_iconst (pc' := 59) rfl rfl ?_
  refine x_icmp (a' := 69) (pc' := 62) (z := false) rfl rfl rfl (by decide) (fun h => by cases h) (fun _ => ?_)
  refine x_iload_n (pc' := 63) rfl rfl rfl ?_
  refine x_bipush (pc' := 65) rfl rfl ?_
  refine x_idiv (pc' := 66) (z := 5) rfl rfl (by decide) (by decide +kernel) ?_
  refine x_goto (pc' := 89) rfl rfl ?_
  refine x_iconst (pc' := 90) rfl rfl ?_
  refine x_isub (pc' := 91) (z := 4) rfl rfl (by decide) ?_
  refine x_reti rfl rfl ?_
  refine sK_i (pc' := 6) rfl ?_
  refine x_istore_n (pc' := 7) (ls' := [_, _, _, _]) rfl rfl rfl rfl ?_
  refine x_iload_n (pc' := 8) rfl rfl rfl ?_
  refine x_iconst (pc' := 9) rfl rfl ?_
  refine x_icmp (a' := 31) (pc' := 12) (z := false) rfl rfl rfl (by decide) (fun h => by cases h) (fun _ => ?_)
  refine x_iload_n (pc' := 13) rfl rfl rfl ?_
  refine x_iconst (pc' := 14) rfl rfl ?_
  refine x_icmp (a' := 29) (pc' := 17) (z := false) rfl rfl rfl (by decide) (fun h => by cases h) (fun _ => ?_)
  refine x_iload_n (pc' := 18) rfl rfl rfl ?_
  refine x_cs (ls0 := [_]) (rest := []) rfl rfl rfl rfl ?_
  refine x_iload_n (pc' := 1) rfl rfl rfl ?_
  refine x_iconst (pc' := 2) rfl rfl ?_
  refine x_isub (pc' := 3) (z := 1) rfl rfl (by decide) ?_
  refine x_reti rfl rfl ?_
  refine sK_i (pc' := 21) rfl ?_
  refine x_iload_n (pc' := 22) rfl rfl rfl ?_
  refine x_icmp (a' := 29) (pc' := 25) (z := false) rfl rfl rfl (by decide) (fun h => by cases h) (fun _ => ?_)
  refine x_iconst (pc' := 26) rfl rfl ?_
  refine x_goto (pc' := 30) rfl rfl ?_
  refine x_retz (z := true) rfl rfl ?_
  refine sK_i (pc' := 56) rfl ?_
  refine x_if (a' := 75) (pc' := 59) (z := false) rfl rfl rfl (by decide) (fun h => by cases h) (fun _ => ?_)
  refine x_aload_n (pc' := 60) rfl rfl rfl rfl rfl ?_
  refine x_gR (pc' := 63) (r := (some 14)) rfl rfl rfl (kR_790_0 hc) ?_
  refine x_aload_n (pc' := 64) rfl rfl rfl rfl rfl ?_
  refine x_gR (pc' := 67) (r := (some 27)) rfl rfl rfl (kR_809_0 hc) ?_
  refine x_iload (pc' := 69) rfl rfl rfl ?_
  refine x_iald (pc' := 70) (N := 200) (x := (io o0)) rfl rfl rfl (kN_21_27 hc) (io_in (p := 0) (N := 200) (by decide) (by decide)) (Eq.trans (congrArg (sA t 21 27) (nn_io (p := 0) (by decide))) hk0) ?_
  refine x_iald (pc' := 71) (N := 200) (x := (mA M 14 o0)) rfl rfl rfl (kN_21_14 hc) (io_in (p := o0) (N := 200) (Nat.lt_of_lt_of_le ho0 (gn200 hR)) (by decide)) (Eq.trans (congrArg (sA t 21 14) (nn_io (p := o0) (Nat.lt_trans (Nat.lt_of_lt_of_le ho0 (gn200 hR)) (by decide)))) (gF14 hM (Fr.refl _))) ?_
  refine x_ineg (pc' := 72) rfl rfl rfl ?_
  refine x_goto (pc' := 87) rfl rfl ?_
  refine x_iadd (pc' := 88) (z := (0 + (-(mA M 14 o0)))) rfl rfl rfl ?_
  refine x_istore_n (pc' := 89) (ls' := [_, _, _, _, _]) rfl rfl rfl rfl ?_
  refine x_iinc (pc' := 92) (y := 1) (ls' := [_, _, _, _, _]) rfl rfl rfl rfl rfl ?_
  refine x_goto (pc' := 39) rfl rfl ?_
  refine x_iload (pc' := 41) rfl rfl rfl ?_
  refine x_aload_n (pc' := 42) rfl rfl rfl rfl rfl ?_
  refine x_gI (pc' := 45) (x := 3) rfl rfl rfl hq ?_
  refine x_icmp (a' := 95) (pc' := 48) (z := false) rfl rfl rfl (by decide) (fun h => by cases h) (fun _ => ?_)
  refine x_iload_n (pc' := 49) rfl rfl rfl ?_
  refine x_iload_n (pc' := 50) rfl rfl rfl ?_
  refine x_iload_n (pc' := 51) rfl rfl rfl ?_
  refine x_iload (pc' := 53) rfl rfl rfl ?_
  refine x_cs (ls0 := [_, _, _, sJk]) (rest := [_]) rfl rfl rfl rfl ?_
  refine x_iload_n (pc' := 1) rfl rfl rfl ?_
  refine x_iload_n (pc' := 2) rfl rfl rfl ?_
  refine x_iload_n (pc' := 3) rfl rfl rfl ?_
  refine x_cs (ls0 := [_, _, _, sJk, sJk, sJk]) (rest := []) rfl rfl rfl rfl ?_
  refine x_getstatic (pc' := 3) rfl rfl (show 1 < sC t 28 from gst1 hc) ?_
  refine x_iconst (pc' := 4) rfl rfl ?_
  refine x_iload_n (pc' := 5) rfl rfl rfl ?_
  refine x_imul (pc' := 6) (z := 6) rfl rfl (by decide) ?_
  refine x_iload_n (pc' := 7) rfl rfl rfl ?_
  refine x_iadd (pc' := 8) (z := 8) rfl rfl (by decide) ?_
  refine x_iald (pc' := 9) (N := 15) (x := 541) rfl rfl rfl (kN_28_1 hc) (io_in (p := 8) (N := 15) (by decide) (by decide)) (Eq.trans (congrArg (sA t 28 1) (nn_io (p := 8) (by decide))) ((hc.2.2.2.2.2 8).2.trans rfl)) ?_
  refine x_istore_n (pc' := 10) (ls' := [_, _, _, _, _, _]) rfl rfl rfl rfl ?_
  refine x_iload_n (pc' := 11) rfl rfl rfl ?_
  refine x_bipush (pc' := 13) rfl rfl ?_
  refine x_icmp (a' := 20) (pc' := 16) (z := false) rfl rfl rfl (by decide) (fun h => by cases h) (fun _ => ?_)
  refine x_iconst (pc' := 17) rfl rfl ?_
  refine x_goto (pc' := 39) rfl rfl ?_
  refine x_istore (pc' := 41) (ls' := [_, _, _, _, _, _]) rfl rfl rfl rfl ?_
  refine x_iload (pc' := 43) rfl rfl rfl ?_
  refine x_iload_n (pc' := 44) rfl rfl rfl ?_
  refine x_isub (pc' := 45) (z := 2) rfl rfl (by decide) ?_
  refine x_istore (pc' := 47) (ls' := [_, _, _, _, _, _]) rfl rfl rfl rfl ?_
  refine x_iload (pc' := 49) rfl rfl rfl ?_
  refine x_if (a' := 56) (pc' := 52) (z := true) rfl rfl rfl (by decide) (fun _ => ?_) (fun h => by cases h)
  refine x_iload (pc' := 58) rfl rfl rfl ?_
  refine x_iconst (pc' := 59) rfl rfl ?_
  refine x_icmp (a' := 69) (pc' := 62) (z := true) rfl rfl rfl (by decide) (fun _ => ?_) (fun h => by cases h)
  refine x_iload (pc' := 71) rfl rfl rfl ?_
  refine x_iconst (pc' := 72) rfl rfl ?_
  refine x_icmp (a' := 85) (pc' := 75) (z := false) rfl rfl rfl (by decide) (fun h => by cases h) (fun _ => ?_)
  refine x_iload_n (pc' := 76) rfl rfl rfl ?_
  refine x_bipush (pc' := 78) rfl rfl ?_
  refine x_idiv (pc' := 79) (z := 54) rfl rfl (by decide) (by decide +kernel) ?_
  refine x_bipush (pc' := 81) rfl rfl ?_
  refine x_irem (pc' := 82) (z := 4) rfl rfl (by decide) (by decide +kernel) ?_
  refine x_goto (pc' := 89) rfl rfl ?_
  refine x_iconst (pc' := 90) rfl rfl ?_
  refine x_isub (pc' := 91) (z := 3) rfl rfl (by decide) ?_
  refine x_reti rfl rfl ?_
  refine sK_i (pc' := 6) rfl ?_
  refine x_istore_n (pc' := 7) (ls' := [_, _, _, _]) rfl rfl rfl rfl ?_
  refine x_iload_n (pc' := 8) rfl rfl rfl ?_
  refine x_iconst (pc' := 9) rfl rfl ?_
  refine x_icmp (a' := 31) (pc' := 12) (z := false) rfl rfl rfl (by decide) (fun h => by cases h) (fun _ => ?_)
  refine x_iload_n (pc' := 13) rfl rfl rfl ?_
  refine x_iconst (pc' := 14) rfl rfl ?_
  refine x_icmp (a' := 29) (pc' := 17) (z := false) rfl rfl rfl (by decide) (fun h => by cases h) (fun _ => ?_)
  refine x_iload_n (pc' := 18) rfl rfl rfl ?_
  refine x_cs (ls0 := [_]) (rest := []) rfl rfl rfl rfl ?_
  refine x_iload_n (pc' := 1) rfl rfl rfl ?_
  refine x_iconst (pc' := 2) rfl rfl ?_
  refine x_isub (pc' := 3) (z := 0) rfl rfl (by decide) ?_
  refine x_reti rfl rfl ?_
  refine sK_i (pc' := 21) rfl ?_
  refine x_iload_n (pc' := 22) rfl rfl rfl ?_
  refine x_icmp (a' := 29) (pc' := 25) (z := false) rfl rfl rfl (by decide) (fun h => by cases h) (fun _ => ?_)
  refine x_iconst (pc' := 26) rfl rfl ?_
  refine x_goto (pc' := 30) rfl rfl ?_
  refine x_retz (z := true) rfl rfl ?_
  refine sK_i (pc' := 56) rfl ?_
  refine x_if (a' := 75) (pc' := 59) (z := false) rfl rfl rfl (by decide) (fun h => by cases h) (fun _ => ?_)
  refine x_aload_n (pc' := 60) rfl rfl rfl rfl rfl ?_
  refine x_gR (pc' := 63) (r := (some 14)) rfl rfl rfl (kR_790_0 hc) ?_
  refine x_aload_n (pc' := 64) rfl rfl rfl rfl rfl ?_
  refine x_gR (pc' := 67) (r := (some 27)) rfl rfl rfl (kR_809_0 hc) ?_
  refine x_iload (pc' := 69) rfl rfl rfl ?_
  refine x_iald (pc' := 70) (N := 200) (x := (io o1)) rfl rfl rfl (kN_21_27 hc) (io_in (p := 1) (N := 200) (by decide) (by decide)) (Eq.trans (congrArg (sA t 21 27) (nn_io (p := 1) (by decide))) hk1) ?_
  refine x_iald (pc' := 71) (N := 200) (x := (mA M 14 o1)) rfl rfl rfl (kN_21_14 hc) (io_in (p := o1) (N := 200) (Nat.lt_of_lt_of_le ho1 (gn200 hR)) (by decide)) (Eq.trans (congrArg (sA t 21 14) (nn_io (p := o1) (Nat.lt_trans (Nat.lt_of_lt_of_le ho1 (gn200 hR)) (by decide)))) (gF14 hM (Fr.refl _))) ?_
  refine x_ineg (pc' := 72) rfl rfl rfl ?_
  refine x_goto (pc' := 87) rfl rfl ?_
  refine x_iadd (pc' := 88) (z := ((0 + (-(mA M 14 o0))) + (-(mA M 14 o1)))) rfl rfl rfl ?_
  refine x_istore_n (pc' := 89) (ls' := [_, _, _, _, _]) rfl rfl rfl rfl ?_
  refine x_iinc (pc' := 92) (y := 2) (ls' := [_, _, _, _, _]) rfl rfl rfl rfl rfl ?_
  refine x_goto (pc' := 39) rfl rfl ?_
  refine x_iload (pc' := 41) rfl rfl rfl ?_
  refine x_aload_n (pc' := 42) rfl rfl rfl rfl rfl ?_
  refine x_gI (pc' := 45) (x := 3) rfl rfl rfl hq ?_
  refine x_icmp (a' := 95) (pc' := 48) (z := false) rfl rfl rfl (by decide) (fun h => by cases h) (fun _ => ?_)
  refine x_iload_n (pc' := 49) rfl rfl rfl ?_
  refine x_iload_n (pc' := 50) rfl rfl rfl ?_
  refine x_iload_n (pc' := 51) rfl rfl rfl ?_
  refine x_iload (pc' := 53) rfl rfl rfl ?_
  refine x_cs (ls0 := [_, _, _, sJk]) (rest := [_]) rfl rfl rfl rfl ?_
  refine x_iload_n (pc' := 1) rfl rfl rfl ?_
  refine x_iload_n (pc' := 2) rfl rfl rfl ?_
  refine x_iload_n (pc' := 3) rfl rfl rfl ?_
  refine x_cs (ls0 := [_, _, _, sJk, sJk, sJk]) (rest := []) rfl rfl rfl rfl ?_
  refine x_getstatic (pc' := 3) rfl rfl (show 1 < sC t 28 from gst1 hc) ?_
  refine x_iconst (pc' := 4) rfl rfl ?_
  refine x_iload_n (pc' := 5) rfl rfl rfl ?_
  refine x_imul (pc' := 6) (z := 6) rfl rfl (by decide) ?_
  refine x_iload_n (pc' := 7) rfl rfl rfl ?_
  refine x_iadd (pc' := 8) (z := 8) rfl rfl (by decide) ?_
  refine x_iald (pc' := 9) (N := 15) (x := 541) rfl rfl rfl (kN_28_1 hc) (io_in (p := 8) (N := 15) (by decide) (by decide)) (Eq.trans (congrArg (sA t 28 1) (nn_io (p := 8) (by decide))) ((hc.2.2.2.2.2 8).2.trans rfl)) ?_
  refine x_istore_n (pc' := 10) (ls' := [_, _, _, _, _, _]) rfl rfl rfl rfl ?_
  refine x_iload_n (pc' := 11) rfl rfl rfl ?_
  refine x_bipush (pc' := 13) rfl rfl ?_
  refine x_icmp (a' := 20) (pc' := 16) (z := false) rfl rfl rfl (by decide) (fun h => by cases h) (fun _ => ?_)
  refine x_iconst (pc' := 17) rfl rfl ?_
  refine x_goto (pc' := 39) rfl rfl ?_
  refine x_istore (pc' := 41) (ls' := [_, _, _, _, _, _]) rfl rfl rfl rfl ?_
  refine x_iload (pc' := 43) rfl rfl rfl ?_
  refine x_iload_n (pc' := 44) rfl rfl rfl ?_
  refine x_isub (pc' := 45) (z := 1) rfl rfl (by decide) ?_
  refine x_istore (pc' := 47) (ls' := [_, _, _, _, _, _]) rfl rfl rfl rfl ?_
  refine x_iload (pc' := 49) rfl rfl rfl ?_
  refine x_if (a' := 56) (pc' := 52) (z := true) rfl rfl rfl (by decide) (fun _ => ?_) (fun h => by cases h)
  refine x_iload (pc' := 58) rfl rfl rfl ?_
  refine x_iconst (pc' := 59) rfl rfl ?_
  refine x_icmp (a' := 69) (pc' := 62) (z := true) rfl rfl rfl (by decide) (fun _ => ?_) (fun h => by cases h)
  refine x_iload (pc' := 71) rfl rfl rfl ?_
  refine x_iconst (pc' := 72) rfl rfl ?_
  refine x_icmp (a' := 85) (pc' := 75) (z := true) rfl rfl rfl (by decide) (fun _ => ?_) (fun h => by cases h)
  refine x_iload_n (pc' := 86) rfl rfl rfl ?_
  refine x_bipush (pc' := 88) rfl rfl ?_
  refine x_irem (pc' := 89) (z := 1) rfl rfl (by decide) (by decide +kernel) ?_
  refine x_iconst (pc' := 90) rfl rfl ?_
  refine x_isub (pc' := 91) (z := 0) rfl rfl (by decide) ?_
  refine x_reti rfl rfl ?_
  refine sK_i (pc' := 6) rfl ?_
  refine x_istore_n (pc' := 7) (ls' := [_, _, _, _]) rfl rfl rfl rfl ?_
  refine x_iload_n (pc' := 8) rfl rfl rfl ?_
  refine x_iconst (pc' := 9) rfl rfl ?_
  refine x_icmp (a' := 31) (pc' := 12) (z := false) rfl rfl rfl (by decide) (fun h => by cases h) (fun _ => ?_)
  refine x_iload_n (pc' := 13) rfl rfl rfl ?_
  refine x_iconst (pc' := 14) rfl rfl ?_
  refine x_icmp (a' := 29) (pc' := 17) (z := true) rfl rfl rfl (by decide) (fun _ => ?_) (fun h => by cases h)
  refine x_iconst (pc' := 30) rfl rfl ?_
  refine x_retz (z := false) rfl rfl ?_
  refine sK_i (pc' := 56) rfl ?_
  refine x_if (a' := 75) (pc' := 59) (z := true) rfl rfl rfl (by decide) (fun _ => ?_) (fun h => by cases h)
  refine x_aload_n (pc' := 76) rfl rfl rfl rfl rfl ?_
  refine x_gR (pc' := 79) (r := (some 14)) rfl rfl rfl (kR_790_0 hc) ?_
  refine x_aload_n (pc' := 80) rfl rfl rfl rfl rfl ?_
  refine x_gR (pc' := 83) (r := (some 27)) rfl rfl rfl (kR_809_0 hc) ?_
  refine x_iload (pc' := 85) rfl rfl rfl ?_
  refine x_iald (pc' := 86) (N := 200) (x := (io o2)) rfl rfl rfl (kN_21_27 hc) (io_in (p := 2) (N := 200) (by decide) (by decide)) (Eq.trans (congrArg (sA t 21 27) (nn_io (p := 2) (by decide))) hk2) ?_
  refine x_iald (pc' := 87) (N := 200) (x := (mA M 14 o2)) rfl rfl rfl (kN_21_14 hc) (io_in (p := o2) (N := 200) (Nat.lt_of_lt_of_le ho2 (gn200 hR)) (by decide)) (Eq.trans (congrArg (sA t 21 14) (nn_io (p := o2) (Nat.lt_trans (Nat.lt_of_lt_of_le ho2 (gn200 hR)) (by decide)))) (gF14 hM (Fr.refl _))) ?_
  refine x_iadd (pc' := 88) (z := (((0 + (-(mA M 14 o0))) + (-(mA M 14 o1))) + (mA M 14 o2))) rfl rfl rfl ?_
  refine x_istore_n (pc' := 89) (ls' := [_, _, _, _, _]) rfl rfl rfl rfl ?_
  refine x_iinc (pc' := 92) (y := 3) (ls' := [_, _, _, _, _]) rfl rfl rfl rfl rfl ?_
  refine x_goto (pc' := 39) rfl rfl ?_
  refine x_iload (pc' := 41) rfl rfl rfl ?_
  refine x_aload_n (pc' := 42) rfl rfl rfl rfl rfl ?_
  refine x_gI (pc' := 45) (x := 3) rfl rfl rfl hq ?_
  refine x_icmp (a' := 95) (pc' := 48) (z := true) rfl rfl rfl (by decide) (fun _ => ?_) (fun h => by cases h)
  refine x_iload_n (pc' := 96) rfl rfl rfl ?_
  refine x_reti rfl rfl ?_
  exact q
-- (((0 + (-(mA M 14 o0))) + (-(mA M 14 o1))) + (mA M 14 o2))
set_option maxHeartbeats 4000000 in
set_option maxRecDepth 10000 in
theorem r159_30 {t : sT} {Q : sRs → sT → Prop} {M : sM} {n : Nat} {s : Bool} (hM : rp t = M) (hc : Cn t) (hR : Ri M n)
    (q : ∀ t', rp t' = M → cp t' = cp t → (∀ L, lgO M n 3 s 0 = some L → Tk t' L) → Q (.inl (some (.inl (bz (lgO M n 3 s 0).isSome)))) t') :
    X 159 0 [.inr (.inr (12, (some 0))), .inl 3, .inl (bz s), .inl 0, sJk, sJk, sJk] [] t Q := by
  refine x_iload_n (pc' := 1) rfl rfl rfl ?_
  refine x_iload_n (pc' := 2) rfl rfl rfl ?_
  refine x_iconst (pc' := 3) rfl rfl ?_
  refine x_cs (ls0 := [_, _, _, sJk, sJk, sJk]) (rest := []) rfl rfl rfl rfl ?_
  refine x_getstatic (pc' := 3) rfl rfl (show 1 < sC t 28 from gst1 hc) ?_
  refine x_iconst (pc' := 4) rfl rfl ?_
  refine x_iload_n (pc' := 5) rfl rfl rfl ?_
  refine x_imul (pc' := 6) (z := 9) rfl rfl (by decide) ?_
  refine x_iload_n (pc' := 7) rfl rfl rfl ?_
  refine x_iadd (pc' := 8) (z := 9) rfl rfl (by decide) ?_
  refine x_iald (pc' := 9) (N := 15) (x := 4) rfl rfl rfl (kN_28_1 hc) (io_in (p := 9) (N := 15) (by decide) (by decide)) (Eq.trans (congrArg (sA t 28 1) (nn_io (p := 9) (by decide))) ((hc.2.2.2.2.2 9).2.trans rfl)) ?_
  refine x_istore_n (pc' := 10) (ls' := [_, _, _, _, _, _]) rfl rfl rfl rfl ?_
  refine x_iload_n (pc' := 11) rfl rfl rfl ?_
  refine x_bipush (pc' := 13) rfl rfl ?_
  refine x_icmp (a' := 20) (pc' := 16) (z := true) rfl rfl rfl (by decide) (fun _ => ?_) (fun h => by cases h)
  refine x_iload_n (pc' := 21) rfl rfl rfl ?_
  refine x_bipush (pc' := 23) rfl rfl ?_
  refine x_icmp (a' := 30) (pc' := 26) (z := true) rfl rfl rfl (by decide) (fun _ => ?_) (fun h => by cases h)
  refine x_iload_n (pc' := 31) rfl rfl rfl ?_
  refine x_if (a' := 38) (pc' := 34) (z := false) rfl rfl rfl (by decide) (fun h => by cases h) (fun _ => ?_)
  refine x_iconst (pc' := 35) rfl rfl ?_
  refine x_goto (pc' := 39) rfl rfl ?_
  refine x_istore (pc' := 41) (ls' := [_, _, _, _, _, _]) rfl rfl rfl rfl ?_
  refine x_iload (pc' := 43) rfl rfl rfl ?_
  refine x_iload_n (pc' := 44) rfl rfl rfl ?_
  refine x_isub (pc' := 45) (z := 1) rfl rfl (by decide) ?_
  refine x_istore (pc' := 47) (ls' := [_, _, _, _, _, _]) rfl rfl rfl rfl ?_
  refine x_iload (pc' := 49) rfl rfl rfl ?_
  refine x_if (a' := 56) (pc' := 52) (z := true) rfl rfl rfl (by decide) (fun _ => ?_) (fun h => by cases h)
  refine x_iload (pc' := 58) rfl rfl rfl ?_
  refine x_iconst (pc' := 59) rfl rfl ?_
  refine x_icmp (a' := 69) (pc' := 62) (z := true) rfl rfl rfl (by decide) (fun _ => ?_) (fun h => by cases h)
  refine x_iload (pc' := 71) rfl rfl rfl ?_
  refine x_iconst (pc' := 72) rfl rfl ?_
  refine x_icmp (a' := 85) (pc' := 75) (z := true) rfl rfl rfl (by decide) (fun _ => ?_) (fun h => by cases h)
  refine x_iload_n (pc' := 86) rfl rfl rfl ?_
  refine x_bipush (pc' := 88) rfl rfl ?_
  refine x_irem (pc' := 89) (z := 4) rfl rfl (by decide) (by decide +kernel) ?_
  refine x_iconst (pc' := 90) rfl rfl ?_
  refine x_isub (pc' := 91) (z := 3) rfl rfl (by decide) ?_
  refine x_reti rfl rfl ?_
  refine sK_i (pc' := 6) rfl ?_
  refine x_iconst (pc' := 7) rfl rfl ?_
  refine x_icmp (a' := 14) (pc' := 10) (z := false) rfl rfl rfl (by decide) (fun h => by cases h) (fun _ => ?_)
  refine x_iconst (pc' := 11) rfl rfl ?_
  refine x_goto (pc' := 15) rfl rfl ?_
  refine x_istore (pc' := 17) (ls' := [_, _, _, _, _, _, _]) rfl rfl rfl rfl ?_
  refine x_aload_n (pc' := 18) rfl rfl rfl rfl rfl ?_
  refine x_iconst (pc' := 19) rfl rfl ?_
  refine x_pI (pc' := 22) rfl rfl rfl ?_
  refine x_iconst (pc' := 23) rfl rfl ?_
  refine x_istore (pc' := 25) (ls' := [_, _, _, _, _, _, _]) rfl rfl rfl rfl ?_
  refine x_iload (pc' := 27) rfl rfl rfl ?_
  refine x_iconst (pc' := 28) rfl rfl ?_
  refine x_icmp (a' := 129) (pc' := 31) (z := false) rfl rfl rfl (by decide) (fun h => by cases h) (fun _ => ?_)
  refine x_iload (pc' := 33) rfl rfl rfl ?_
  refine x_if (a' := 129) (pc' := 36) (z := false) rfl rfl rfl (by decide) (fun h => by cases h) (fun _ => ?_)
  refine x_iload_n (pc' := 37) rfl rfl rfl ?_
  refine x_iload_n (pc' := 38) rfl rfl rfl ?_
  refine x_iload (pc' := 40) rfl rfl rfl ?_
  refine x_cs (ls0 := [_, _, _, sJk, sJk, sJk]) (rest := []) rfl rfl rfl rfl ?_
  refine x_getstatic (pc' := 3) rfl rfl (show 1 < sC t 28 from gst1 hc) ?_
  refine x_iconst (pc' := 4) rfl rfl ?_
  refine x_iload_n (pc' := 5) rfl rfl rfl ?_
  refine x_imul (pc' := 6) (z := 9) rfl rfl (by decide) ?_
  refine x_iload_n (pc' := 7) rfl rfl rfl ?_
  refine x_iadd (pc' := 8) (z := 9) rfl rfl (by decide) ?_
  refine x_iald (pc' := 9) (N := 15) (x := 4) rfl rfl rfl (Eq.trans rdNI (kN_28_1 hc)) (io_in (p := 9) (N := 15) (by decide) (by decide)) (Eq.trans (congrArg (sA (sIw t 811 0 0) 28 1) (nn_io (p := 9) (by decide))) (Eq.trans (b := sA t 28 1 9) rfl ((hc.2.2.2.2.2 9).2.trans rfl))) ?_
  refine x_istore_n (pc' := 10) (ls' := [_, _, _, _, _, _]) rfl rfl rfl rfl ?_
  refine x_iload_n (pc' := 11) rfl rfl rfl ?_
  refine x_bipush (pc' := 13) rfl rfl ?_
  refine x_icmp (a' := 20) (pc' := 16) (z := true) rfl rfl rfl (by decide) (fun _ => ?_) (fun h => by cases h)
  refine x_iload_n (pc' := 21) rfl rfl rfl ?_
  refine x_bipush (pc' := 23) rfl rfl ?_
  refine x_icmp (a' := 30) (pc' := 26) (z := true) rfl rfl rfl (by decide) (fun _ => ?_) (fun h => by cases h)
  refine x_iload_n (pc' := 31) rfl rfl rfl ?_
  refine x_if (a' := 38) (pc' := 34) (z := false) rfl rfl rfl (by decide) (fun h => by cases h) (fun _ => ?_)
  refine x_iconst (pc' := 35) rfl rfl ?_
  refine x_goto (pc' := 39) rfl rfl ?_
  refine x_istore (pc' := 41) (ls' := [_, _, _, _, _, _]) rfl rfl rfl rfl ?_
  refine x_iload (pc' := 43) rfl rfl rfl ?_
  refine x_iload_n (pc' := 44) rfl rfl rfl ?_
  refine x_isub (pc' := 45) (z := 1) rfl rfl (by decide) ?_
  refine x_istore (pc' := 47) (ls' := [_, _, _, _, _, _]) rfl rfl rfl rfl ?_
  refine x_iload (pc' := 49) rfl rfl rfl ?_
  refine x_if (a' := 56) (pc' := 52) (z := true) rfl rfl rfl (by decide) (fun _ => ?_) (fun h => by cases h)
  refine x_iload (pc' := 58) rfl rfl rfl ?_
  refine x_iconst (pc' := 59) rfl rfl ?_
  refine x_icmp (a' := 69) (pc' := 62) (z := true) rfl rfl rfl (by decide) (fun _ => ?_) (fun h => by cases h)
  refine x_iload (pc' := 71) rfl rfl rfl ?_
  refine x_iconst (pc' := 72) rfl rfl ?_
  refine x_icmp (a' := 85) (pc' := 75) (z := true) rfl rfl rfl (by decide) (fun _ => ?_) (fun h => by cases h)
  refine x_iload_n (pc' := 86) rfl rfl rfl ?_
  refine x_bipush (pc' := 88) rfl rfl ?_
  refine x_irem (pc' := 89) (z := 4) rfl rfl (by decide) (by decide +kernel) ?_
  refine x_iconst (pc' := 90) rfl rfl ?_
  refine x_isub (pc' := 91) (z := 3) rfl rfl (by decide) ?_
  refine x_reti rfl rfl ?_
  refine sK_i (pc' := 43) rfl ?_
  refine x_istore (pc' := 45) (ls' := [_, _, _, _, _, _, _]) rfl rfl rfl rfl ?_
  refine x_iload (pc' := 47) rfl rfl rfl ?_
  refine x_iconst (pc' := 48) rfl rfl ?_
  refine x_icmp (a' := 123) (pc' := 51) (z := false) rfl rfl rfl (by decide) (fun h => by cases h) (fun _ => ?_)
  refine x_aload_n (pc' := 52) rfl rfl rfl rfl rfl ?_
  refine x_gR (pc' := 55) (r := (some 27)) rfl rfl rfl (Eq.trans (b := sR t 809 0) rfl (kR_809_0 hc)) ?_
  refine x_aload_n (pc' := 56) rfl rfl rfl rfl rfl ?_
  refine x_gI (pc' := 59) (x := 0) rfl rfl rfl sI_s ?_
  refine x_aload_n (pc' := 60) rfl rfl rfl rfl rfl ?_
  refine x_iload (pc' := 62) rfl rfl rfl ?_
  refine x_iload_n (pc' := 63) rfl rfl rfl ?_
  refine x_iload_n (pc' := 64) rfl rfl rfl ?_
  refine x_iload (pc' := 66) rfl rfl rfl ?_
  refine x_cs (ls0 := [_, _, _, sJk]) (rest := [_, _, _, _]) rfl rfl rfl rfl ?_
  refine x_iload_n (pc' := 1) rfl rfl rfl ?_
  refine x_iload_n (pc' := 2) rfl rfl rfl ?_
  refine x_iload_n (pc' := 3) rfl rfl rfl ?_
  refine x_cs (ls0 := [_, _, _, sJk, sJk, sJk]) (rest := []) rfl rfl rfl rfl ?_
  refine x_getstatic (pc' := 3) rfl rfl (show 1 < sC t 28 from gst1 hc) ?_
  refine x_iconst (pc' := 4) rfl rfl ?_
  refine x_iload_n (pc' := 5) rfl rfl rfl ?_
  refine x_imul (pc' := 6) (z := 9) rfl rfl (by decide) ?_
  refine x_iload_n (pc' := 7) rfl rfl rfl ?_
  refine x_iadd (pc' := 8) (z := 9) rfl rfl (by decide) ?_
  refine x_iald (pc' := 9) (N := 15) (x := 4) rfl rfl rfl (Eq.trans rdNI (kN_28_1 hc)) (io_in (p := 9) (N := 15) (by decide) (by decide)) (Eq.trans (congrArg (sA (sIw t 811 0 0) 28 1) (nn_io (p := 9) (by decide))) (Eq.trans (b := sA t 28 1 9) rfl ((hc.2.2.2.2.2 9).2.trans rfl))) ?_
  refine x_istore_n (pc' := 10) (ls' := [_, _, _, _, _, _]) rfl rfl rfl rfl ?_
  refine x_iload_n (pc' := 11) rfl rfl rfl ?_
  refine x_bipush (pc' := 13) rfl rfl ?_
  refine x_icmp (a' := 20) (pc' := 16) (z := true) rfl rfl rfl (by decide) (fun _ => ?_) (fun h => by cases h)
  refine x_iload_n (pc' := 21) rfl rfl rfl ?_
  refine x_bipush (pc' := 23) rfl rfl ?_
  refine x_icmp (a' := 30) (pc' := 26) (z := true) rfl rfl rfl (by decide) (fun _ => ?_) (fun h => by cases h)
  refine x_iload_n (pc' := 31) rfl rfl rfl ?_
  refine x_if (a' := 38) (pc' := 34) (z := false) rfl rfl rfl (by decide) (fun h => by cases h) (fun _ => ?_)
  refine x_iconst (pc' := 35) rfl rfl ?_
  refine x_goto (pc' := 39) rfl rfl ?_
  refine x_istore (pc' := 41) (ls' := [_, _, _, _, _, _]) rfl rfl rfl rfl ?_
  refine x_iload (pc' := 43) rfl rfl rfl ?_
  refine x_iload_n (pc' := 44) rfl rfl rfl ?_
  refine x_isub (pc' := 45) (z := 1) rfl rfl (by decide) ?_
  refine x_istore (pc' := 47) (ls' := [_, _, _, _, _, _]) rfl rfl rfl rfl ?_
  refine x_iload (pc' := 49) rfl rfl rfl ?_
  refine x_if (a' := 56) (pc' := 52) (z := true) rfl rfl rfl (by decide) (fun _ => ?_) (fun h => by cases h)
  refine x_iload (pc' := 58) rfl rfl rfl ?_
  refine x_iconst (pc' := 59) rfl rfl ?_
  refine x_icmp (a' := 69) (pc' := 62) (z := true) rfl rfl rfl (by decide) (fun _ => ?_) (fun h => by cases h)
  refine x_iload (pc' := 71) rfl rfl rfl ?_
  refine x_iconst (pc' := 72) rfl rfl ?_
  refine x_icmp (a' := 85) (pc' := 75) (z := true) rfl rfl rfl (by decide) (fun _ => ?_) (fun h => by cases h)
  refine x_iload_n (pc' := 86) rfl rfl rfl ?_
  refine x_bipush (pc' := 88) rfl rfl ?_
  refine x_irem (pc' := 89) (z := 4) rfl rfl (by decide) (by decide +kernel) ?_
  refine x_iconst (pc' := 90) rfl rfl ?_
  refine x_isub (pc' := 91) (z := 3) rfl rfl (by decide) ?_
  refine x_reti rfl rfl ?_
  refine sK_i (pc' := 6) rfl ?_
  refine x_istore_n (pc' := 7) (ls' := [_, _, _, _]) rfl rfl rfl rfl ?_
  refine x_iload_n (pc' := 8) rfl rfl rfl ?_
  refine x_iconst (pc' := 9) rfl rfl ?_
  refine x_icmp (a' := 31) (pc' := 12) (z := true) rfl rfl rfl (by decide) (fun _ => ?_) (fun h => by cases h)
  refine x_iload_n (pc' := 32) rfl rfl rfl ?_
  refine x_iconst (pc' := 33) rfl rfl ?_
  refine x_icmp (a' := 45) (pc' := 36) (z := true) rfl rfl rfl (by decide) (fun _ => ?_) (fun h => by cases h)
  refine x_iconst (pc' := 46) rfl rfl ?_
  refine x_retz (z := false) rfl rfl ?_
  refine sK_i (pc' := 69) rfl ?_
  refine x_iload_n (pc' := 70) rfl rfl rfl ?_
  have J25 : X 159 78 [.inr (.inr (12, (some 0))), .inl 3, .inl (bz s), .inl 0, .inl 1, .inl 0, .inl 3] [.inl (bz (!(xor false s))), .inl 3, .inr (.inr (12, (some 0))), .inl 0, .inr (.inr (21, (some 27)))] (sIw t 811 0 0) Q := by
    refine x_cv (ls0 := [_, _, _, sJk, sJk, sJk]) (rest := [_, _]) rfl rfl rfl rfl rfl ?_
    refine r153 (b := 3) (s := (!(xor false s))) ((rp_Ic rfl).trans hM) (Cn_cp (cp_I rfl) hc) (Fr.ri (Fr.refl _) hR) (show 3 < 5 by decide) (fun b1 => ?_)
    refine sK_i (pc' := 81) rfl ?_
    refine x_iast (pc' := 82) (N := 200) (p := 0) rfl rfl rfl (Eq.trans rdNI (kN_21_27 hc)) (io_in (p := 0) (N := 200) (by decide) (by decide)) (nn_io (p := 0) (by decide)) ?_
    refine x_aload_n (pc' := 83) rfl rfl rfl rfl rfl ?_
    refine x_gR (pc' := 86) (r := (some 0)) rfl rfl rfl (Eq.trans (b := sR t 769 0) rfl (kR_769_0 hc)) ?_
    refine x_iload (pc' := 88) rfl rfl rfl ?_
    refine x_iald (pc' := 89) (N := 5) (x := (mA M 0 3)) rfl rfl rfl (Eq.trans rdNA (Eq.trans rdNI (kN_21_0 hc))) (io_in (p := 3) (N := 5) (by decide) (by decide)) (Eq.trans (congrArg (sA (sAw (sIw t 811 0 0) 21 27 0 (ov (bsF M n 3 (!(xor false s))))) 21 0) (nn_io (p := 3) (by decide))) (Eq.trans (b := sA t 21 0 3) rfl (gA hM rfl))) ?_
    refine x_iconst (pc' := 90) rfl rfl ?_
    have J28 : X 159 111 [.inr (.inr (12, (some 0))), .inl 3, .inl (bz s), .inl 0, .inl 1, .inl 0, .inl 3] [.inl (bz ((decide ((mA M 0 3) = 2)) && (!((bsF M n 3 (!(xor false s))).isNone))))] (sAw (sIw t 811 0 0) 21 27 0 (ov (bsF M n 3 (!(xor false s))))) Q := by
      refine x_istore (pc' := 113) (ls' := [_, _, _, _, _, _, _]) rfl rfl rfl rfl ?_
      refine x_aload_n (pc' := 114) rfl rfl rfl rfl rfl ?_
      refine x_dup (pc' := 115) rfl rfl rfl ?_
      refine x_gI (pc' := 118) (x := 0) rfl rfl rfl (Eq.trans rdIA sI_s) ?_
      refine x_iconst (pc' := 119) rfl rfl ?_
      refine x_iadd (pc' := 120) (z := 1) rfl rfl (by decide) ?_
      refine x_pI (pc' := 123) rfl rfl rfl ?_
      refine x_iinc (pc' := 126) (y := 1) (ls' := [_, _, _, _, _, _, _]) rfl rfl rfl rfl rfl ?_
      refine x_goto (pc' := 25) rfl rfl ?_
      refine x_iload (pc' := 27) rfl rfl rfl ?_
      refine x_iconst (pc' := 28) rfl rfl ?_
      refine x_icmp (a' := 129) (pc' := 31) (z := false) rfl rfl rfl (by decide) (fun h => by cases h) (fun _ => ?_)
      refine x_iload (pc' := 33) rfl rfl rfl ?_
      have J44 : X 159 129 [.inr (.inr (12, (some 0))), .inl 3, .inl (bz s), .inl 0, .inl (bz ((decide ((mA M 0 3) = 2)) && (!((bsF M n 3 (!(xor false s))).isNone)))), .inl (bif ((decide ((mA M 0 3) = 2)) && (!((bsF M n 3 (!(xor false s))).isNone))) then 3 else 1), .inl (bif ((decide ((mA M 0 3) = 2)) && (!((bsF M n 3 (!(xor false s))).isNone))) then (-1) else 3)] [] (sIw (sAw (sIw t 811 0 0) 21 27 0 (ov (bsF M n 3 (!(xor false s))))) 811 0 1) Q := by
        refine x_iload (pc' := 131) rfl rfl rfl ?_
        refine x_retz (z := ((decide ((mA M 0 3) = 2)) && (!((bsF M n 3 (!(xor false s))).isNone)))) rfl rfl ?_
        exact qv (congrArg (fun z : Bool => (.inl (some (.inl (bz z))) : sRs)) lgF_1.symm) (q _ ((rp_Ic rfl).trans ((rp_As rfl).trans ((rp_Ic rfl).trans hM))) ((cp_I rfl).trans (cp_A.trans (cp_I rfl))) (fun L hL => by obtain ⟨l0, z0, h0, j0, rfl⟩ := lgF_i hL; cases lgF_nil h0; exact ⟨rfl, ov_io (an_n z0), trivial⟩))
      refine x_ifeq_z (a' := 129) (pc' := 36) (z := ((decide ((mA M 0 3) = 2)) && (!((bsF M n 3 (!(xor false s))).isNone)))) rfl rfl rfl (fun q31 => ?_) (fun q31 => ?_)
      · ((try rw [q31] at J44); (try rw [q31]); (try simp only [cd_t, cd_f, nt_t, nt_f, an_t, an_f, or_t, or_f] at J44); (try simp only [cd_t, cd_f, nt_t, nt_f, an_t, an_f, or_t, or_f]); exact J44)
      · refine x_iload_n (pc' := 37) rfl rfl rfl ?_
        refine x_iload_n (pc' := 38) rfl rfl rfl ?_
        refine x_iload (pc' := 40) rfl rfl rfl ?_
        refine x_cs (ls0 := [_, _, _, sJk, sJk, sJk]) (rest := []) rfl rfl rfl rfl ?_
        refine x_getstatic (pc' := 3) rfl rfl (show 1 < sC t 28 from gst1 hc) ?_
        refine x_iconst (pc' := 4) rfl rfl ?_
        refine x_iload_n (pc' := 5) rfl rfl rfl ?_
        refine x_imul (pc' := 6) (z := 9) rfl rfl (by decide) ?_
        refine x_iload_n (pc' := 7) rfl rfl rfl ?_
        refine x_iadd (pc' := 8) (z := 9) rfl rfl (by decide) ?_
        refine x_iald (pc' := 9) (N := 15) (x := 4) rfl rfl rfl (Eq.trans rdNI (Eq.trans rdNA (Eq.trans rdNI (kN_28_1 hc)))) (io_in (p := 9) (N := 15) (by decide) (by decide)) (Eq.trans (congrArg (sA (sIw (sAw (sIw t 811 0 0) 21 27 0 (ov (bsF M n 3 (!(xor false s))))) 811 0 1) 28 1) (nn_io (p := 9) (by decide))) (Eq.trans (b := sA t 28 1 9) rfl ((hc.2.2.2.2.2 9).2.trans rfl))) ?_
        refine x_istore_n (pc' := 10) (ls' := [_, _, _, _, _, _]) rfl rfl rfl rfl ?_
        refine x_iload_n (pc' := 11) rfl rfl rfl ?_
        refine x_bipush (pc' := 13) rfl rfl ?_
        refine x_icmp (a' := 20) (pc' := 16) (z := true) rfl rfl rfl (by decide) (fun _ => ?_) (fun h => by cases h)
        refine x_iload_n (pc' := 21) rfl rfl rfl ?_
        refine x_bipush (pc' := 23) rfl rfl ?_
        refine x_icmp (a' := 30) (pc' := 26) (z := true) rfl rfl rfl (by decide) (fun _ => ?_) (fun h => by cases h)
        refine x_iload_n (pc' := 31) rfl rfl rfl ?_
        refine x_if (a' := 38) (pc' := 34) (z := false) rfl rfl rfl (by decide) (fun h => by cases h) (fun _ => ?_)
        refine x_iconst (pc' := 35) rfl rfl ?_
        refine x_goto (pc' := 39) rfl rfl ?_
        refine x_istore (pc' := 41) (ls' := [_, _, _, _, _, _]) rfl rfl rfl rfl ?_
        refine x_iload (pc' := 43) rfl rfl rfl ?_
        refine x_iload_n (pc' := 44) rfl rfl rfl ?_
        refine x_isub (pc' := 45) (z := 0) rfl rfl (by decide) ?_
        refine x_istore (pc' := 47) (ls' := [_, _, _, _, _, _]) rfl rfl rfl rfl ?_
        refine x_iload (pc' := 49) rfl rfl rfl ?_
        refine x_if (a' := 56) (pc' := 52) (z := false) rfl rfl rfl (by decide) (fun h => by cases h) (fun _ => ?_)
        refine x_iconst (pc' := 53) rfl rfl ?_
        refine x_goto (pc' := 91) rfl rfl ?_
        refine x_reti rfl rfl ?_
        refine sK_i (pc' := 43) rfl ?_
        refine x_istore (pc' := 45) (ls' := [_, _, _, _, _, _, _]) rfl rfl rfl rfl ?_
        refine x_iload (pc' := 47) rfl rfl rfl ?_
        refine x_iconst (pc' := 48) rfl rfl ?_
        refine x_icmp (a' := 123) (pc' := 51) (z := true) rfl rfl rfl (by decide) (fun _ => ?_) (fun h => by cases h)
        refine x_iinc (pc' := 126) (y := 2) (ls' := [_, _, _, _, _, _, _]) rfl rfl rfl rfl rfl ?_
        refine x_goto (pc' := 25) rfl rfl ?_
        refine x_iload (pc' := 27) rfl rfl rfl ?_
        refine x_iconst (pc' := 28) rfl rfl ?_
        refine x_icmp (a' := 129) (pc' := 31) (z := false) rfl rfl rfl (by decide) (fun h => by cases h) (fun _ => ?_)
        refine x_iload (pc' := 33) rfl rfl rfl ?_
        refine x_ifeq_z (a' := 129) (pc' := 36) (z := ((decide ((mA M 0 3) = 2)) && (!((bsF M n 3 (!(xor false s))).isNone)))) rfl rfl rfl (fun h => zz_no q31 h) (fun _ => ?_)
        refine x_iload_n (pc' := 37) rfl rfl rfl ?_
        refine x_iload_n (pc' := 38) rfl rfl rfl ?_
        refine x_iload (pc' := 40) rfl rfl rfl ?_
        refine x_cs (ls0 := [_, _, _, sJk, sJk, sJk]) (rest := []) rfl rfl rfl rfl ?_
        refine x_getstatic (pc' := 3) rfl rfl (show 1 < sC t 28 from gst1 hc) ?_
        refine x_iconst (pc' := 4) rfl rfl ?_
        refine x_iload_n (pc' := 5) rfl rfl rfl ?_
        refine x_imul (pc' := 6) (z := 9) rfl rfl (by decide) ?_
        refine x_iload_n (pc' := 7) rfl rfl rfl ?_
        refine x_iadd (pc' := 8) (z := 9) rfl rfl (by decide) ?_
        refine x_iald (pc' := 9) (N := 15) (x := 4) rfl rfl rfl (Eq.trans rdNI (Eq.trans rdNA (Eq.trans rdNI (kN_28_1 hc)))) (io_in (p := 9) (N := 15) (by decide) (by decide)) (Eq.trans (congrArg (sA (sIw (sAw (sIw t 811 0 0) 21 27 0 (ov (bsF M n 3 (!(xor false s))))) 811 0 1) 28 1) (nn_io (p := 9) (by decide))) (Eq.trans (b := sA t 28 1 9) rfl ((hc.2.2.2.2.2 9).2.trans rfl))) ?_
        refine x_istore_n (pc' := 10) (ls' := [_, _, _, _, _, _]) rfl rfl rfl rfl ?_
        refine x_iload_n (pc' := 11) rfl rfl rfl ?_
        refine x_bipush (pc' := 13) rfl rfl ?_
        refine x_icmp (a' := 20) (pc' := 16) (z := true) rfl rfl rfl (by decide) (fun _ => ?_) (fun h => by cases h)
        refine x_iload_n (pc' := 21) rfl rfl rfl ?_
        refine x_bipush (pc' := 23) rfl rfl ?_
        refine x_icmp (a' := 30) (pc' := 26) (z := true) rfl rfl rfl (by decide) (fun _ => ?_) (fun h => by cases h)
        refine x_iload_n (pc' := 31) rfl rfl rfl ?_
        refine x_if (a' := 38) (pc' := 34) (z := false) rfl rfl rfl (by decide) (fun h => by cases h) (fun _ => ?_)
        refine x_iconst (pc' := 35) rfl rfl ?_
        refine x_goto (pc' := 39) rfl rfl ?_
        refine x_istore (pc' := 41) (ls' := [_, _, _, _, _, _]) rfl rfl rfl rfl ?_
        refine x_iload (pc' := 43) rfl rfl rfl ?_
        refine x_iload_n (pc' := 44) rfl rfl rfl ?_
        refine x_isub (pc' := 45) (z := (-1)) rfl rfl (by decide) ?_
        refine x_istore (pc' := 47) (ls' := [_, _, _, _, _, _]) rfl rfl rfl rfl ?_
        refine x_iload (pc' := 49) rfl rfl rfl ?_
        refine x_if (a' := 56) (pc' := 52) (z := false) rfl rfl rfl (by decide) (fun h => by cases h) (fun _ => ?_)
        refine x_iconst (pc' := 53) rfl rfl ?_
        refine x_goto (pc' := 91) rfl rfl ?_
        refine x_reti rfl rfl ?_
        refine sK_i (pc' := 43) rfl ?_
        refine x_istore (pc' := 45) (ls' := [_, _, _, _, _, _, _]) rfl rfl rfl rfl ?_
        refine x_iload (pc' := 47) rfl rfl rfl ?_
        refine x_iconst (pc' := 48) rfl rfl ?_
        refine x_icmp (a' := 123) (pc' := 51) (z := true) rfl rfl rfl (by decide) (fun _ => ?_) (fun h => by cases h)
        refine x_iinc (pc' := 126) (y := 3) (ls' := [_, _, _, _, _, _, _]) rfl rfl rfl rfl rfl ?_
        refine x_goto (pc' := 25) rfl rfl ?_
        refine x_iload (pc' := 27) rfl rfl rfl ?_
        refine x_iconst (pc' := 28) rfl rfl ?_
        refine x_icmp (a' := 129) (pc' := 31) (z := true) rfl rfl rfl (by decide) (fun _ => ?_) (fun h => by cases h)
        ((try rw [q31] at J44); (try rw [q31]); (try simp only [cd_t, cd_f, nt_t, nt_f, an_t, an_f, or_t, or_f] at J44); (try simp only [cd_t, cd_f, nt_t, nt_f, an_t, an_f, or_t, or_f]); exact J44)
    refine x_icmp_n (a' := 110) (pc' := 93) (z := decide ((mA M 0 3) = 2)) rfl rfl rfl (ik_ne _ _) (fun q27 => ?_) (fun q27 => ?_)
    · refine x_iconst (pc' := 111) rfl rfl ?_
      ((try rw [q27] at J28); (try rw [q27]); (try simp only [cd_t, cd_f, nt_t, nt_f, an_t, an_f, or_t, or_f] at J28); (try simp only [cd_t, cd_f, nt_t, nt_f, an_t, an_f, or_t, or_f]); exact J28)
    · refine x_aload_n (pc' := 94) rfl rfl rfl rfl rfl ?_
      refine x_gR (pc' := 97) (r := (some 27)) rfl rfl rfl (Eq.trans (b := sR t 809 0) rfl (kR_809_0 hc)) ?_
      refine x_aload_n (pc' := 98) rfl rfl rfl rfl rfl ?_
      refine x_gI (pc' := 101) (x := 0) rfl rfl rfl (Eq.trans rdIA sI_s) ?_
      refine x_iald (pc' := 102) (N := 200) (x := (ov (bsF M n 3 (!(xor false s))))) rfl rfl rfl (Eq.trans rdNA (Eq.trans rdNI (kN_21_27 hc))) (io_in (p := 0) (N := 200) (by decide) (by decide)) (Eq.trans (congrArg (sA (sAw (sIw t 811 0 0) 21 27 0 (ov (bsF M n 3 (!(xor false s))))) 21 27) (nn_io (p := 0) (by decide))) sA_s) ?_
      refine x_iconst (pc' := 103) rfl rfl ?_
      refine x_icmp (a' := 110) (pc' := 106) (z := (bsF M n 3 (!(xor false s))).isNone) rfl rfl rfl (ov_eq (ov_31 (N := n) b1 (Nat.le_of_lt (gn31 hR)))) (fun q28 => ?_) (fun q28 => ?_)
      · refine x_iconst (pc' := 111) rfl rfl ?_
        ((try rw [q28] at J28); (try rw [q28]); (try rw [q27] at J28); (try rw [q27]); (try simp only [cd_t, cd_f, nt_t, nt_f, an_t, an_f, or_t, or_f] at J28); (try simp only [cd_t, cd_f, nt_t, nt_f, an_t, an_f, or_t, or_f]); exact J28)
      · refine x_iconst (pc' := 107) rfl rfl ?_
        refine x_goto (pc' := 111) rfl rfl ?_
        ((try rw [q28] at J28); (try rw [q28]); (try rw [q27] at J28); (try rw [q27]); (try simp only [cd_t, cd_f, nt_t, nt_f, an_t, an_f, or_t, or_f] at J28); (try simp only [cd_t, cd_f, nt_t, nt_f, an_t, an_f, or_t, or_f]); exact J28)
  refine x_icmp (a' := 77) (pc' := 73) (z := (xor false s)) rfl rfl rfl (bz_neb _ _) (fun q25 => ?_) (fun q25 => ?_)
  · refine x_iconst (pc' := 78) rfl rfl ?_
    ((try rw [q25] at J25); (try rw [q25]); (try simp only [cd_t, cd_f, nt_t, nt_f, an_t, an_f, or_t, or_f] at J25); (try simp only [cd_t, cd_f, nt_t, nt_f, an_t, an_f, or_t, or_f]); exact J25)
  · refine x_iconst (pc' := 74) rfl rfl ?_
    refine x_goto (pc' := 78) rfl rfl ?_
    ((try rw [q25] at J25); (try rw [q25]); (try simp only [cd_t, cd_f, nt_t, nt_f, an_t, an_f, or_t, or_f] at J25); (try simp only [cd_t, cd_f, nt_t, nt_f, an_t, an_f, or_t, or_f]); exact J25)
set_option maxHeartbeats 4000000 in
set_option maxRecDepth 10000 in
theorem r160_30 {t : sT} {Q : sRs → sT → Prop} {M : sM} {n : Nat} {o0 : Nat}
    (hM : rp t = M)
    (hc : Cn t)
    (hR : Ri M n)
    (ho0 : o0 < n)
    (hq : sI t 811 0 = 1)
    (hk0 : sA t 21 27 0 = io o0)
    (q : Q (.inl (some (.inl (prF M 3 0 [o0])))) t) :
    X 160 0 [.inr (.inr (12, (some 0))), .inl 3, .inl 0, sJk, sJk] [] t Q := by
  refine x_iload_n (pc' := 1) rfl rfl rfl ?_
  refine x_iconst (pc' := 2) rfl rfl ?_
  refine x_icmp (a' := 34) (pc' := 5) (z := false) rfl rfl rfl (by decide) (fun h => by cases h) (fun _ => ?_)
  refine x_iload_n (pc' := 6) rfl rfl rfl ?_
  refine x_iconst (pc' := 7) rfl rfl ?_
  refine x_icmp (a' := 34) (pc' := 10) (z := true) rfl rfl rfl (by decide) (fun _ => ?_) (fun h => by cases h)
  refine x_iconst (pc' := 35) rfl rfl ?_
  refine x_istore_n (pc' := 36) (ls' := [_, _, _, _, _]) rfl rfl rfl rfl ?_
  refine x_iconst (pc' := 37) rfl rfl ?_
  refine x_istore (pc' := 39) (ls' := [_, _, _, _, _]) rfl rfl rfl rfl ?_
  refine x_iload (pc' := 41) rfl rfl rfl ?_
  refine x_aload_n (pc' := 42) rfl rfl rfl rfl rfl ?_
  refine x_gI (pc' := 45) (x := 1) rfl rfl rfl hq ?_
  refine x_icmp (a' := 95) (pc' := 48) (z := false) rfl rfl rfl (by decide) (fun h => by cases h) (fun _ => ?_)
  refine x_iload_n (pc' := 49) rfl rfl rfl ?_
  refine x_iload_n (pc' := 50) rfl rfl rfl ?_
  refine x_iload_n (pc' := 51) rfl rfl rfl ?_
  refine x_iload (pc' := 53) rfl rfl rfl ?_
  refine x_cs (ls0 := [_, _, _, sJk]) (rest := [_]) rfl rfl rfl rfl ?_
  refine x_iload_n (pc' := 1) rfl rfl rfl ?_
  refine x_iload_n (pc' := 2) rfl rfl rfl ?_
  refine x_iload_n (pc' := 3) rfl rfl rfl ?_
  refine x_cs (ls0 := [_, _, _, sJk, sJk, sJk]) (rest := []) rfl rfl rfl rfl ?_
  refine x_getstatic (pc' := 3) rfl rfl (show 1 < sC t 28 from gst1 hc) ?_
  refine x_iconst (pc' := 4) rfl rfl ?_
  refine x_iload_n (pc' := 5) rfl rfl rfl ?_
  refine x_imul (pc' := 6) (z := 9) rfl rfl (by decide) ?_
  refine x_iload_n (pc' := 7) rfl rfl rfl ?_
  refine x_iadd (pc' := 8) (z := 9) rfl rfl (by decide) ?_
  refine x_iald (pc' := 9) (N := 15) (x := 4) rfl rfl rfl (kN_28_1 hc) (io_in (p := 9) (N := 15) (by decide) (by decide)) (Eq.trans (congrArg (sA t 28 1) (nn_io (p := 9) (by decide))) ((hc.2.2.2.2.2 9).2.trans rfl)) ?_
  refine x_istore_n (pc' := 10) (ls' := [_, _, _, _, _, _]) rfl rfl rfl rfl ?_
  refine x_iload_n (pc' := 11) rfl rfl rfl ?_
  refine x_bipush (pc' := 13) rfl rfl ?_
  refine x_icmp (a' := 20) (pc' := 16) (z := true) rfl rfl rfl (by decide) (fun _ => ?_) (fun h => by cases h)
  refine x_iload_n (pc' := 21) rfl rfl rfl ?_
  refine x_bipush (pc' := 23) rfl rfl ?_
  refine x_icmp (a' := 30) (pc' := 26) (z := true) rfl rfl rfl (by decide) (fun _ => ?_) (fun h => by cases h)
  refine x_iload_n (pc' := 31) rfl rfl rfl ?_
  refine x_if (a' := 38) (pc' := 34) (z := false) rfl rfl rfl (by decide) (fun h => by cases h) (fun _ => ?_)
  refine x_iconst (pc' := 35) rfl rfl ?_
  refine x_goto (pc' := 39) rfl rfl ?_
  refine x_istore (pc' := 41) (ls' := [_, _, _, _, _, _]) rfl rfl rfl rfl ?_
  refine x_iload (pc' := 43) rfl rfl rfl ?_
  refine x_iload_n (pc' := 44) rfl rfl rfl ?_
  refine x_isub (pc' := 45) (z := 1) rfl rfl (by decide) ?_
  refine x_istore (pc' := 47) (ls' := [_, _, _, _, _, _]) rfl rfl rfl rfl ?_
  refine x_iload (pc' := 49) rfl rfl rfl ?_
  refine x_if (a' := 56) (pc' := 52) (z := true) rfl rfl rfl (by decide) (fun _ => ?_) (fun h => by cases h)
  refine x_iload (pc' := 58) rfl rfl rfl ?_
  refine x_iconst (pc' := 59) rfl rfl ?_
  refine x_icmp (a' := 69) (pc' := 62) (z := true) rfl rfl rfl (by decide) (fun _ => ?_) (fun h => by cases h)
  refine x_iload (pc' := 71) rfl rfl rfl ?_
  refine x_iconst (pc' := 72) rfl rfl ?_
  refine x_icmp (a' := 85) (pc' := 75) (z := true) rfl rfl rfl (by decide) (fun _ => ?_) (fun h => by cases h)
  refine x_iload_n (pc' := 86) rfl rfl rfl ?_
  refine x_bipush (pc' := 88) rfl rfl ?_
  refine x_irem (pc' := 89) (z := 4) rfl rfl (by decide) (by decide +kernel) ?_
  refine x_iconst (pc' := 90) rfl rfl ?_
  refine x_isub (pc' := 91) (z := 3) rfl rfl (by decide) ?_
  refine x_reti rfl rfl ?_
  refine sK_i (pc' := 6) rfl ?_
  refine x_istore_n (pc' := 7) (ls' := [_, _, _, _]) rfl rfl rfl rfl ?_
  refine x_iload_n (pc' := 8) rfl rfl rfl ?_
  refine x_iconst (pc' := 9) rfl rfl ?_
  refine x_icmp (a' := 31) (pc' := 12) (z := true) rfl rfl rfl (by decide) (fun _ => ?_) (fun h => by cases h)
  refine x_iload_n (pc' := 32) rfl rfl rfl ?_
  refine x_iconst (pc' := 33) rfl rfl ?_
  refine x_icmp (a' := 45) (pc' := 36) (z := true) rfl rfl rfl (by decide) (fun _ => ?_) (fun h => by cases h)
  refine x_iconst (pc' := 46) rfl rfl ?_
  refine x_retz (z := false) rfl rfl ?_
  refine sK_i (pc' := 56) rfl ?_
  refine x_if (a' := 75) (pc' := 59) (z := true) rfl rfl rfl (by decide) (fun _ => ?_) (fun h => by cases h)
  refine x_aload_n (pc' := 76) rfl rfl rfl rfl rfl ?_
  refine x_gR (pc' := 79) (r := (some 14)) rfl rfl rfl (kR_790_0 hc) ?_
  refine x_aload_n (pc' := 80) rfl rfl rfl rfl rfl ?_
  refine x_gR (pc' := 83) (r := (some 27)) rfl rfl rfl (kR_809_0 hc) ?_
  refine x_iload (pc' := 85) rfl rfl rfl ?_
  refine x_iald (pc' := 86) (N := 200) (x := (io o0)) rfl rfl rfl (kN_21_27 hc) (io_in (p := 0) (N := 200) (by decide) (by decide)) (Eq.trans (congrArg (sA t 21 27) (nn_io (p := 0) (by decide))) hk0) ?_
  refine x_iald (pc' := 87) (N := 200) (x := (mA M 14 o0)) rfl rfl rfl (kN_21_14 hc) (io_in (p := o0) (N := 200) (Nat.lt_of_lt_of_le ho0 (gn200 hR)) (by decide)) (Eq.trans (congrArg (sA t 21 14) (nn_io (p := o0) (Nat.lt_trans (Nat.lt_of_lt_of_le ho0 (gn200 hR)) (by decide)))) (gF14 hM (Fr.refl _))) ?_
  refine x_iadd (pc' := 88) (z := (0 + (mA M 14 o0))) rfl rfl rfl ?_
  refine x_istore_n (pc' := 89) (ls' := [_, _, _, _, _]) rfl rfl rfl rfl ?_
  refine x_iinc (pc' := 92) (y := 1) (ls' := [_, _, _, _, _]) rfl rfl rfl rfl rfl ?_
  refine x_goto (pc' := 39) rfl rfl ?_
  refine x_iload (pc' := 41) rfl rfl rfl ?_
  refine x_aload_n (pc' := 42) rfl rfl rfl rfl rfl ?_
  refine x_gI (pc' := 45) (x := 1) rfl rfl rfl hq ?_
  refine x_icmp (a' := 95) (pc' := 48) (z := true) rfl rfl rfl (by decide) (fun _ => ?_) (fun h => by cases h)
  refine x_iload_n (pc' := 96) rfl rfl rfl ?_
  refine x_reti rfl rfl ?_
  exact q
-- (0 + (mA M 14 o0))
set_option maxHeartbeats 4000000 in
set_option maxRecDepth 10000 in
theorem r159_31 {t : sT} {Q : sRs → sT → Prop} {M : sM} {n : Nat} {s : Bool} (hM : rp t = M) (hc : Cn t) (hR : Ri M n)
    (q : ∀ t', rp t' = M → cp t' = cp t → (∀ L, lgO M n 3 s 1 = some L → Tk t' L) → Q (.inl (some (.inl (bz (lgO M n 3 s 1).isSome)))) t') :
    X 159 0 [.inr (.inr (12, (some 0))), .inl 3, .inl (bz s), .inl 1, sJk, sJk, sJk] [] t Q := by
  refine x_iload_n (pc' := 1) rfl rfl rfl ?_
  refine x_iload_n (pc' := 2) rfl rfl rfl ?_
  refine x_iconst (pc' := 3) rfl rfl ?_
  refine x_cs (ls0 := [_, _, _, sJk, sJk, sJk]) (rest := []) rfl rfl rfl rfl ?_
  refine x_getstatic (pc' := 3) rfl rfl (show 1 < sC t 28 from gst1 hc) ?_
  refine x_iconst (pc' := 4) rfl rfl ?_
  refine x_iload_n (pc' := 5) rfl rfl rfl ?_
  refine x_imul (pc' := 6) (z := 9) rfl rfl (by decide) ?_
  refine x_iload_n (pc' := 7) rfl rfl rfl ?_
  refine x_iadd (pc' := 8) (z := 10) rfl rfl (by decide) ?_
  refine x_iald (pc' := 9) (N := 15) (x := 12) rfl rfl rfl (kN_28_1 hc) (io_in (p := 10) (N := 15) (by decide) (by decide)) (Eq.trans (congrArg (sA t 28 1) (nn_io (p := 10) (by decide))) ((hc.2.2.2.2.2 10).2.trans rfl)) ?_
  refine x_istore_n (pc' := 10) (ls' := [_, _, _, _, _, _]) rfl rfl rfl rfl ?_
  refine x_iload_n (pc' := 11) rfl rfl rfl ?_
  refine x_bipush (pc' := 13) rfl rfl ?_
  refine x_icmp (a' := 20) (pc' := 16) (z := true) rfl rfl rfl (by decide) (fun _ => ?_) (fun h => by cases h)
  refine x_iload_n (pc' := 21) rfl rfl rfl ?_
  refine x_bipush (pc' := 23) rfl rfl ?_
  refine x_icmp (a' := 30) (pc' := 26) (z := false) rfl rfl rfl (by decide) (fun h => by cases h) (fun _ => ?_)
  refine x_iconst (pc' := 27) rfl rfl ?_
  refine x_goto (pc' := 39) rfl rfl ?_
  refine x_istore (pc' := 41) (ls' := [_, _, _, _, _, _]) rfl rfl rfl rfl ?_
  refine x_iload (pc' := 43) rfl rfl rfl ?_
  refine x_iload_n (pc' := 44) rfl rfl rfl ?_
  refine x_isub (pc' := 45) (z := 2) rfl rfl (by decide) ?_
  refine x_istore (pc' := 47) (ls' := [_, _, _, _, _, _]) rfl rfl rfl rfl ?_
  refine x_iload (pc' := 49) rfl rfl rfl ?_
  refine x_if (a' := 56) (pc' := 52) (z := true) rfl rfl rfl (by decide) (fun _ => ?_) (fun h => by cases h)
  refine x_iload (pc' := 58) rfl rfl rfl ?_
  refine x_iconst (pc' := 59) rfl rfl ?_
  refine x_icmp (a' := 69) (pc' := 62) (z := true) rfl rfl rfl (by decide) (fun _ => ?_) (fun h => by cases h)
  refine x_iload (pc' := 71) rfl rfl rfl ?_
  refine x_iconst (pc' := 72) rfl rfl ?_
  refine x_icmp (a' := 85) (pc' := 75) (z := false) rfl rfl rfl (by decide) (fun h => by cases h) (fun _ => ?_)
  refine x_iload_n (pc' := 76) rfl rfl rfl ?_
  refine x_bipush (pc' := 78) rfl rfl ?_
  refine x_idiv (pc' := 79) (z := 1) rfl rfl (by decide) (by decide +kernel) ?_
  refine x_bipush (pc' := 81) rfl rfl ?_
  refine x_irem (pc' := 82) (z := 1) rfl rfl (by decide) (by decide +kernel) ?_
  refine x_goto (pc' := 89) rfl rfl ?_
  refine x_iconst (pc' := 90) rfl rfl ?_
  refine x_isub (pc' := 91) (z := 0) rfl rfl (by decide) ?_
  refine x_reti rfl rfl ?_
  refine sK_i (pc' := 6) rfl ?_
  refine x_iconst (pc' := 7) rfl rfl ?_
  refine x_icmp (a' := 14) (pc' := 10) (z := false) rfl rfl rfl (by decide) (fun h => by cases h) (fun _ => ?_)
  refine x_iconst (pc' := 11) rfl rfl ?_
  refine x_goto (pc' := 15) rfl rfl ?_
  refine x_istore (pc' := 17) (ls' := [_, _, _, _, _, _, _]) rfl rfl rfl rfl ?_
  refine x_aload_n (pc' := 18) rfl rfl rfl rfl rfl ?_
  refine x_iconst (pc' := 19) rfl rfl ?_
  refine x_pI (pc' := 22) rfl rfl rfl ?_
  refine x_iconst (pc' := 23) rfl rfl ?_
  refine x_istore (pc' := 25) (ls' := [_, _, _, _, _, _, _]) rfl rfl rfl rfl ?_
  refine x_iload (pc' := 27) rfl rfl rfl ?_
  refine x_iconst (pc' := 28) rfl rfl ?_
  refine x_icmp (a' := 129) (pc' := 31) (z := false) rfl rfl rfl (by decide) (fun h => by cases h) (fun _ => ?_)
  refine x_iload (pc' := 33) rfl rfl rfl ?_
  refine x_if (a' := 129) (pc' := 36) (z := false) rfl rfl rfl (by decide) (fun h => by cases h) (fun _ => ?_)
  refine x_iload_n (pc' := 37) rfl rfl rfl ?_
  refine x_iload_n (pc' := 38) rfl rfl rfl ?_
  refine x_iload (pc' := 40) rfl rfl rfl ?_
  refine x_cs (ls0 := [_, _, _, sJk, sJk, sJk]) (rest := []) rfl rfl rfl rfl ?_
  refine x_getstatic (pc' := 3) rfl rfl (show 1 < sC t 28 from gst1 hc) ?_
  refine x_iconst (pc' := 4) rfl rfl ?_
  refine x_iload_n (pc' := 5) rfl rfl rfl ?_
  refine x_imul (pc' := 6) (z := 9) rfl rfl (by decide) ?_
  refine x_iload_n (pc' := 7) rfl rfl rfl ?_
  refine x_iadd (pc' := 8) (z := 10) rfl rfl (by decide) ?_
  refine x_iald (pc' := 9) (N := 15) (x := 12) rfl rfl rfl (Eq.trans rdNI (kN_28_1 hc)) (io_in (p := 10) (N := 15) (by decide) (by decide)) (Eq.trans (congrArg (sA (sIw t 811 0 0) 28 1) (nn_io (p := 10) (by decide))) (Eq.trans (b := sA t 28 1 10) rfl ((hc.2.2.2.2.2 10).2.trans rfl))) ?_
  refine x_istore_n (pc' := 10) (ls' := [_, _, _, _, _, _]) rfl rfl rfl rfl ?_
  refine x_iload_n (pc' := 11) rfl rfl rfl ?_
  refine x_bipush (pc' := 13) rfl rfl ?_
  refine x_icmp (a' := 20) (pc' := 16) (z := true) rfl rfl rfl (by decide) (fun _ => ?_) (fun h => by cases h)
  refine x_iload_n (pc' := 21) rfl rfl rfl ?_
  refine x_bipush (pc' := 23) rfl rfl ?_
  refine x_icmp (a' := 30) (pc' := 26) (z := false) rfl rfl rfl (by decide) (fun h => by cases h) (fun _ => ?_)
  refine x_iconst (pc' := 27) rfl rfl ?_
  refine x_goto (pc' := 39) rfl rfl ?_
  refine x_istore (pc' := 41) (ls' := [_, _, _, _, _, _]) rfl rfl rfl rfl ?_
  refine x_iload (pc' := 43) rfl rfl rfl ?_
  refine x_iload_n (pc' := 44) rfl rfl rfl ?_
  refine x_isub (pc' := 45) (z := 2) rfl rfl (by decide) ?_
  refine x_istore (pc' := 47) (ls' := [_, _, _, _, _, _]) rfl rfl rfl rfl ?_
  refine x_iload (pc' := 49) rfl rfl rfl ?_
  refine x_if (a' := 56) (pc' := 52) (z := true) rfl rfl rfl (by decide) (fun _ => ?_) (fun h => by cases h)
  refine x_iload (pc' := 58) rfl rfl rfl ?_
  refine x_iconst (pc' := 59) rfl rfl ?_
  refine x_icmp (a' := 69) (pc' := 62) (z := true) rfl rfl rfl (by decide) (fun _ => ?_) (fun h => by cases h)
  refine x_iload (pc' := 71) rfl rfl rfl ?_
  refine x_iconst (pc' := 72) rfl rfl ?_
  refine x_icmp (a' := 85) (pc' := 75) (z := false) rfl rfl rfl (by decide) (fun h => by cases h) (fun _ => ?_)
  refine x_iload_n (pc' := 76) rfl rfl rfl ?_
  refine x_bipush (pc' := 78) rfl rfl ?_
  refine x_idiv (pc' := 79) (z := 1) rfl rfl (by decide) (by decide +kernel) ?_
  refine x_bipush (pc' := 81) rfl rfl ?_
  refine x_irem (pc' := 82) (z := 1) rfl rfl (by decide) (by decide +kernel) ?_
  refine x_goto (pc' := 89) rfl rfl ?_
  refine x_iconst (pc' := 90) rfl rfl ?_
  refine x_isub (pc' := 91) (z := 0) rfl rfl (by decide) ?_
  refine x_reti rfl rfl ?_
  refine sK_i (pc' := 43) rfl ?_
  refine x_istore (pc' := 45) (ls' := [_, _, _, _, _, _, _]) rfl rfl rfl rfl ?_
  refine x_iload (pc' := 47) rfl rfl rfl ?_
  refine x_iconst (pc' := 48) rfl rfl ?_
  refine x_icmp (a' := 123) (pc' := 51) (z := false) rfl rfl rfl (by decide) (fun h => by cases h) (fun _ => ?_)
  refine x_aload_n (pc' := 52) rfl rfl rfl rfl rfl ?_
  refine x_gR (pc' := 55) (r := (some 27)) rfl rfl rfl (Eq.trans (b := sR t 809 0) rfl (kR_809_0 hc)) ?_
  refine x_aload_n (pc' := 56) rfl rfl rfl rfl rfl ?_
  refine x_gI (pc' := 59) (x := 0) rfl rfl rfl sI_s ?_
  refine x_aload_n (pc' := 60) rfl rfl rfl rfl rfl ?_
  refine x_iload (pc' := 62) rfl rfl rfl ?_
  refine x_iload_n (pc' := 63) rfl rfl rfl ?_
  refine x_iload_n (pc' := 64) rfl rfl rfl ?_
  refine x_iload (pc' := 66) rfl rfl rfl ?_
  refine x_cs (ls0 := [_, _, _, sJk]) (rest := [_, _, _, _]) rfl rfl rfl rfl ?_
  refine x_iload_n (pc' := 1) rfl rfl rfl ?_
  refine x_iload_n (pc' := 2) rfl rfl rfl ?_
  refine x_iload_n (pc' := 3) rfl rfl rfl ?_
  refine x_cs (ls0 := [_, _, _, sJk, sJk, sJk]) (rest := []) rfl rfl rfl rfl ?_
  refine x_getstatic (pc' := 3) rfl rfl (show 1 < sC t 28 from gst1 hc) ?_
  refine x_iconst (pc' := 4) rfl rfl ?_
  refine x_iload_n (pc' := 5) rfl rfl rfl ?_
  refine x_imul (pc' := 6) (z := 9) rfl rfl (by decide) ?_
  refine x_iload_n (pc' := 7) rfl rfl rfl ?_
  refine x_iadd (pc' := 8) (z := 10) rfl rfl (by decide) ?_
  refine x_iald (pc' := 9) (N := 15) (x := 12) rfl rfl rfl (Eq.trans rdNI (kN_28_1 hc)) (io_in (p := 10) (N := 15) (by decide) (by decide)) (Eq.trans (congrArg (sA (sIw t 811 0 0) 28 1) (nn_io (p := 10) (by decide))) (Eq.trans (b := sA t 28 1 10) rfl ((hc.2.2.2.2.2 10).2.trans rfl))) ?_
  refine x_istore_n (pc' := 10) (ls' := [_, _, _, _, _, _]) rfl rfl rfl rfl ?_
  refine x_iload_n (pc' := 11) rfl rfl rfl ?_
  refine x_bipush (pc' := 13) rfl rfl ?_
  refine x_icmp (a' := 20) (pc' := 16) (z := true) rfl rfl rfl (by decide) (fun _ => ?_) (fun h => by cases h)
  refine x_iload_n (pc' := 21) rfl rfl rfl ?_
  refine x_bipush (pc' := 23) rfl rfl ?_
  refine x_icmp (a' := 30) (pc' := 26) (z := false) rfl rfl rfl (by decide) (fun h => by cases h) (fun _ => ?_)
  refine x_iconst (pc' := 27) rfl rfl ?_
  refine x_goto (pc' := 39) rfl rfl ?_
  refine x_istore (pc' := 41) (ls' := [_, _, _, _, _, _]) rfl rfl rfl rfl ?_
  refine x_iload (pc' := 43) rfl rfl rfl ?_
  refine x_iload_n (pc' := 44) rfl rfl rfl ?_
  refine x_isub (pc' := 45) (z := 2) rfl rfl (by decide) ?_
  refine x_istore (pc' := 47) (ls' := [_, _, _, _, _, _]) rfl rfl rfl rfl ?_
  refine x_iload (pc' := 49) rfl rfl rfl ?_
  refine x_if (a' := 56) (pc' := 52) (z := true) rfl rfl rfl (by decide) (fun _ => ?_) (fun h => by cases h)
  refine x_iload (pc' := 58) rfl rfl rfl ?_
  refine x_iconst (pc' := 59) rfl rfl ?_
  refine x_icmp (a' := 69) (pc' := 62) (z := true) rfl rfl rfl (by decide) (fun _ => ?_) (fun h => by cases h)
  refine x_iload (pc' := 71) rfl rfl rfl ?_
  refine x_iconst (pc' := 72) rfl rfl ?_
  refine x_icmp (a' := 85) (pc' := 75) (z := false) rfl rfl rfl (by decide) (fun h => by cases h) (fun _ => ?_)
  refine x_iload_n (pc' := 76) rfl rfl rfl ?_
  refine x_bipush (pc' := 78) rfl rfl ?_
  refine x_idiv (pc' := 79) (z := 1) rfl rfl (by decide) (by decide +kernel) ?_
  refine x_bipush (pc' := 81) rfl rfl ?_
  refine x_irem (pc' := 82) (z := 1) rfl rfl (by decide) (by decide +kernel) ?_
  refine x_goto (pc' := 89) rfl rfl ?_
  refine x_iconst (pc' := 90) rfl rfl ?_
  refine x_isub (pc' := 91) (z := 0) rfl rfl (by decide) ?_
  refine x_reti rfl rfl ?_
  refine sK_i (pc' := 6) rfl ?_
  refine x_istore_n (pc' := 7) (ls' := [_, _, _, _]) rfl rfl rfl rfl ?_
  refine x_iload_n (pc' := 8) rfl rfl rfl ?_
  refine x_iconst (pc' := 9) rfl rfl ?_
  refine x_icmp (a' := 31) (pc' := 12) (z := true) rfl rfl rfl (by decide) (fun _ => ?_) (fun h => by cases h)
  refine x_iload_n (pc' := 32) rfl rfl rfl ?_
  refine x_iconst (pc' := 33) rfl rfl ?_
  refine x_icmp (a' := 45) (pc' := 36) (z := false) rfl rfl rfl (by decide) (fun h => by cases h) (fun _ => ?_)
  refine x_iload_n (pc' := 37) rfl rfl rfl ?_
  refine x_iconst (pc' := 38) rfl rfl ?_
  refine x_icmp (a' := 45) (pc' := 41) (z := true) rfl rfl rfl (by decide) (fun _ => ?_) (fun h => by cases h)
  refine x_iconst (pc' := 46) rfl rfl ?_
  refine x_retz (z := false) rfl rfl ?_
  refine sK_i (pc' := 69) rfl ?_
  refine x_iload_n (pc' := 70) rfl rfl rfl ?_
  have J23 : X 159 78 [.inr (.inr (12, (some 0))), .inl 3, .inl (bz s), .inl 1, .inl 1, .inl 0, .inl 0] [.inl (bz (!(xor false s))), .inl 0, .inr (.inr (12, (some 0))), .inl 0, .inr (.inr (21, (some 27)))] (sIw t 811 0 0) Q := by
    refine x_cv (ls0 := [_, _, _, sJk, sJk, sJk]) (rest := [_, _]) rfl rfl rfl rfl rfl ?_
    refine r153 (b := 0) (s := (!(xor false s))) ((rp_Ic rfl).trans hM) (Cn_cp (cp_I rfl) hc) (Fr.ri (Fr.refl _) hR) (show 0 < 5 by decide) (fun b1 => ?_)
    refine sK_i (pc' := 81) rfl ?_
    refine x_iast (pc' := 82) (N := 200) (p := 0) rfl rfl rfl (Eq.trans rdNI (kN_21_27 hc)) (io_in (p := 0) (N := 200) (by decide) (by decide)) (nn_io (p := 0) (by decide)) ?_
    refine x_aload_n (pc' := 83) rfl rfl rfl rfl rfl ?_
    refine x_gR (pc' := 86) (r := (some 0)) rfl rfl rfl (Eq.trans (b := sR t 769 0) rfl (kR_769_0 hc)) ?_
    refine x_iload (pc' := 88) rfl rfl rfl ?_
    refine x_iald (pc' := 89) (N := 5) (x := (mA M 0 0)) rfl rfl rfl (Eq.trans rdNA (Eq.trans rdNI (kN_21_0 hc))) (io_in (p := 0) (N := 5) (by decide) (by decide)) (Eq.trans (congrArg (sA (sAw (sIw t 811 0 0) 21 27 0 (ov (bsF M n 0 (!(xor false s))))) 21 0) (nn_io (p := 0) (by decide))) (Eq.trans (b := sA t 21 0 0) rfl (gA hM rfl))) ?_
    refine x_iconst (pc' := 90) rfl rfl ?_
    have J26 : X 159 111 [.inr (.inr (12, (some 0))), .inl 3, .inl (bz s), .inl 1, .inl 1, .inl 0, .inl 0] [.inl (bz ((decide ((mA M 0 0) = 2)) && (!((bsF M n 0 (!(xor false s))).isNone))))] (sAw (sIw t 811 0 0) 21 27 0 (ov (bsF M n 0 (!(xor false s))))) Q := by
      refine x_istore (pc' := 113) (ls' := [_, _, _, _, _, _, _]) rfl rfl rfl rfl ?_
      refine x_aload_n (pc' := 114) rfl rfl rfl rfl rfl ?_
      refine x_dup (pc' := 115) rfl rfl rfl ?_
      refine x_gI (pc' := 118) (x := 0) rfl rfl rfl (Eq.trans rdIA sI_s) ?_
      refine x_iconst (pc' := 119) rfl rfl ?_
      refine x_iadd (pc' := 120) (z := 1) rfl rfl (by decide) ?_
      refine x_pI (pc' := 123) rfl rfl rfl ?_
      refine x_iinc (pc' := 126) (y := 1) (ls' := [_, _, _, _, _, _, _]) rfl rfl rfl rfl rfl ?_
      refine x_goto (pc' := 25) rfl rfl ?_
      refine x_iload (pc' := 27) rfl rfl rfl ?_
      refine x_iconst (pc' := 28) rfl rfl ?_
      refine x_icmp (a' := 129) (pc' := 31) (z := false) rfl rfl rfl (by decide) (fun h => by cases h) (fun _ => ?_)
      refine x_iload (pc' := 33) rfl rfl rfl ?_
      refine x_ifeq_z (a' := 129) (pc' := 36) (z := ((decide ((mA M 0 0) = 2)) && (!((bsF M n 0 (!(xor false s))).isNone)))) rfl rfl rfl (fun q29 => ?_) (fun q29 => ?_)
      · refine x_iload (pc' := 131) rfl rfl rfl ?_
        refine x_retz (z := ((decide ((mA M 0 0) = 2)) && (!((bsF M n 0 (!(xor false s))).isNone)))) rfl rfl ?_
        exact qv (congrArg (fun z : Bool => (.inl (some (.inl (bz z))) : sRs)) (Eq.trans (lgF_n q29) q29.symm).symm) (q _ ((rp_Ic rfl).trans ((rp_As rfl).trans ((rp_Ic rfl).trans hM))) ((cp_I rfl).trans (cp_A.trans (cp_I rfl))) (fun L hL => by obtain ⟨l0, z0, h0, j0, rfl⟩ := lgF_i hL; exact zz_no z0 q29))
      · refine x_iload_n (pc' := 37) rfl rfl rfl ?_
        refine x_iload_n (pc' := 38) rfl rfl rfl ?_
        refine x_iload (pc' := 40) rfl rfl rfl ?_
        refine x_cs (ls0 := [_, _, _, sJk, sJk, sJk]) (rest := []) rfl rfl rfl rfl ?_
        refine x_getstatic (pc' := 3) rfl rfl (show 1 < sC t 28 from gst1 hc) ?_
        refine x_iconst (pc' := 4) rfl rfl ?_
        refine x_iload_n (pc' := 5) rfl rfl rfl ?_
        refine x_imul (pc' := 6) (z := 9) rfl rfl (by decide) ?_
        refine x_iload_n (pc' := 7) rfl rfl rfl ?_
        refine x_iadd (pc' := 8) (z := 10) rfl rfl (by decide) ?_
        refine x_iald (pc' := 9) (N := 15) (x := 12) rfl rfl rfl (Eq.trans rdNI (Eq.trans rdNA (Eq.trans rdNI (kN_28_1 hc)))) (io_in (p := 10) (N := 15) (by decide) (by decide)) (Eq.trans (congrArg (sA (sIw (sAw (sIw t 811 0 0) 21 27 0 (ov (bsF M n 0 (!(xor false s))))) 811 0 1) 28 1) (nn_io (p := 10) (by decide))) (Eq.trans (b := sA t 28 1 10) rfl ((hc.2.2.2.2.2 10).2.trans rfl))) ?_
        refine x_istore_n (pc' := 10) (ls' := [_, _, _, _, _, _]) rfl rfl rfl rfl ?_
        refine x_iload_n (pc' := 11) rfl rfl rfl ?_
        refine x_bipush (pc' := 13) rfl rfl ?_
        refine x_icmp (a' := 20) (pc' := 16) (z := true) rfl rfl rfl (by decide) (fun _ => ?_) (fun h => by cases h)
        refine x_iload_n (pc' := 21) rfl rfl rfl ?_
        refine x_bipush (pc' := 23) rfl rfl ?_
        refine x_icmp (a' := 30) (pc' := 26) (z := false) rfl rfl rfl (by decide) (fun h => by cases h) (fun _ => ?_)
        refine x_iconst (pc' := 27) rfl rfl ?_
        refine x_goto (pc' := 39) rfl rfl ?_
        refine x_istore (pc' := 41) (ls' := [_, _, _, _, _, _]) rfl rfl rfl rfl ?_
        refine x_iload (pc' := 43) rfl rfl rfl ?_
        refine x_iload_n (pc' := 44) rfl rfl rfl ?_
        refine x_isub (pc' := 45) (z := 1) rfl rfl (by decide) ?_
        refine x_istore (pc' := 47) (ls' := [_, _, _, _, _, _]) rfl rfl rfl rfl ?_
        refine x_iload (pc' := 49) rfl rfl rfl ?_
        refine x_if (a' := 56) (pc' := 52) (z := true) rfl rfl rfl (by decide) (fun _ => ?_) (fun h => by cases h)
        refine x_iload (pc' := 58) rfl rfl rfl ?_
        refine x_iconst (pc' := 59) rfl rfl ?_
        refine x_icmp (a' := 69) (pc' := 62) (z := true) rfl rfl rfl (by decide) (fun _ => ?_) (fun h => by cases h)
        refine x_iload (pc' := 71) rfl rfl rfl ?_
        refine x_iconst (pc' := 72) rfl rfl ?_
        refine x_icmp (a' := 85) (pc' := 75) (z := true) rfl rfl rfl (by decide) (fun _ => ?_) (fun h => by cases h)
        refine x_iload_n (pc' := 86) rfl rfl rfl ?_
        refine x_bipush (pc' := 88) rfl rfl ?_
        refine x_irem (pc' := 89) (z := 2) rfl rfl (by decide) (by decide +kernel) ?_
        refine x_iconst (pc' := 90) rfl rfl ?_
        refine x_isub (pc' := 91) (z := 1) rfl rfl (by decide) ?_
        refine x_reti rfl rfl ?_
        refine sK_i (pc' := 43) rfl ?_
        refine x_istore (pc' := 45) (ls' := [_, _, _, _, _, _, _]) rfl rfl rfl rfl ?_
        refine x_iload (pc' := 47) rfl rfl rfl ?_
        refine x_iconst (pc' := 48) rfl rfl ?_
        refine x_icmp (a' := 123) (pc' := 51) (z := false) rfl rfl rfl (by decide) (fun h => by cases h) (fun _ => ?_)
        refine x_aload_n (pc' := 52) rfl rfl rfl rfl rfl ?_
        refine x_gR (pc' := 55) (r := (some 27)) rfl rfl rfl (Eq.trans (b := sR t 809 0) rfl (kR_809_0 hc)) ?_
        refine x_aload_n (pc' := 56) rfl rfl rfl rfl rfl ?_
        refine x_gI (pc' := 59) (x := 1) rfl rfl rfl sI_s ?_
        refine x_aload_n (pc' := 60) rfl rfl rfl rfl rfl ?_
        refine x_iload (pc' := 62) rfl rfl rfl ?_
        refine x_iload_n (pc' := 63) rfl rfl rfl ?_
        refine x_iload_n (pc' := 64) rfl rfl rfl ?_
        refine x_iload (pc' := 66) rfl rfl rfl ?_
        refine x_cs (ls0 := [_, _, _, sJk]) (rest := [_, _, _, _]) rfl rfl rfl rfl ?_
        refine x_iload_n (pc' := 1) rfl rfl rfl ?_
        refine x_iload_n (pc' := 2) rfl rfl rfl ?_
        refine x_iload_n (pc' := 3) rfl rfl rfl ?_
        refine x_cs (ls0 := [_, _, _, sJk, sJk, sJk]) (rest := []) rfl rfl rfl rfl ?_
        refine x_getstatic (pc' := 3) rfl rfl (show 1 < sC t 28 from gst1 hc) ?_
        refine x_iconst (pc' := 4) rfl rfl ?_
        refine x_iload_n (pc' := 5) rfl rfl rfl ?_
        refine x_imul (pc' := 6) (z := 9) rfl rfl (by decide) ?_
        refine x_iload_n (pc' := 7) rfl rfl rfl ?_
        refine x_iadd (pc' := 8) (z := 10) rfl rfl (by decide) ?_
        refine x_iald (pc' := 9) (N := 15) (x := 12) rfl rfl rfl (Eq.trans rdNI (Eq.trans rdNA (Eq.trans rdNI (kN_28_1 hc)))) (io_in (p := 10) (N := 15) (by decide) (by decide)) (Eq.trans (congrArg (sA (sIw (sAw (sIw t 811 0 0) 21 27 0 (ov (bsF M n 0 (!(xor false s))))) 811 0 1) 28 1) (nn_io (p := 10) (by decide))) (Eq.trans (b := sA t 28 1 10) rfl ((hc.2.2.2.2.2 10).2.trans rfl))) ?_
        refine x_istore_n (pc' := 10) (ls' := [_, _, _, _, _, _]) rfl rfl rfl rfl ?_
        refine x_iload_n (pc' := 11) rfl rfl rfl ?_
        refine x_bipush (pc' := 13) rfl rfl ?_
        refine x_icmp (a' := 20) (pc' := 16) (z := true) rfl rfl rfl (by decide) (fun _ => ?_) (fun h => by cases h)
        refine x_iload_n (pc' := 21) rfl rfl rfl ?_
        refine x_bipush (pc' := 23) rfl rfl ?_
        refine x_icmp (a' := 30) (pc' := 26) (z := false) rfl rfl rfl (by decide) (fun h => by cases h) (fun _ => ?_)
        refine x_iconst (pc' := 27) rfl rfl ?_
        refine x_goto (pc' := 39) rfl rfl ?_
        refine x_istore (pc' := 41) (ls' := [_, _, _, _, _, _]) rfl rfl rfl rfl ?_
        refine x_iload (pc' := 43) rfl rfl rfl ?_
        refine x_iload_n (pc' := 44) rfl rfl rfl ?_
        refine x_isub (pc' := 45) (z := 1) rfl rfl (by decide) ?_
        refine x_istore (pc' := 47) (ls' := [_, _, _, _, _, _]) rfl rfl rfl rfl ?_
        refine x_iload (pc' := 49) rfl rfl rfl ?_
        refine x_if (a' := 56) (pc' := 52) (z := true) rfl rfl rfl (by decide) (fun _ => ?_) (fun h => by cases h)
        refine x_iload (pc' := 58) rfl rfl rfl ?_
        refine x_iconst (pc' := 59) rfl rfl ?_
        refine x_icmp (a' := 69) (pc' := 62) (z := true) rfl rfl rfl (by decide) (fun _ => ?_) (fun h => by cases h)
        refine x_iload (pc' := 71) rfl rfl rfl ?_
        refine x_iconst (pc' := 72) rfl rfl ?_
        refine x_icmp (a' := 85) (pc' := 75) (z := true) rfl rfl rfl (by decide) (fun _ => ?_) (fun h => by cases h)
        refine x_iload_n (pc' := 86) rfl rfl rfl ?_
        refine x_bipush (pc' := 88) rfl rfl ?_
        refine x_irem (pc' := 89) (z := 2) rfl rfl (by decide) (by decide +kernel) ?_
        refine x_iconst (pc' := 90) rfl rfl ?_
        refine x_isub (pc' := 91) (z := 1) rfl rfl (by decide) ?_
        refine x_reti rfl rfl ?_
        refine sK_i (pc' := 6) rfl ?_
        refine x_istore_n (pc' := 7) (ls' := [_, _, _, _]) rfl rfl rfl rfl ?_
        refine x_iload_n (pc' := 8) rfl rfl rfl ?_
        refine x_iconst (pc' := 9) rfl rfl ?_
        refine x_icmp (a' := 31) (pc' := 12) (z := true) rfl rfl rfl (by decide) (fun _ => ?_) (fun h => by cases h)
        refine x_iload_n (pc' := 32) rfl rfl rfl ?_
        refine x_iconst (pc' := 33) rfl rfl ?_
        refine x_icmp (a' := 45) (pc' := 36) (z := false) rfl rfl rfl (by decide) (fun h => by cases h) (fun _ => ?_)
        refine x_iload_n (pc' := 37) rfl rfl rfl ?_
        refine x_iconst (pc' := 38) rfl rfl ?_
        refine x_icmp (a' := 45) (pc' := 41) (z := false) rfl rfl rfl (by decide) (fun h => by cases h) (fun _ => ?_)
        refine x_iconst (pc' := 42) rfl rfl ?_
        refine x_goto (pc' := 46) rfl rfl ?_
        refine x_retz (z := true) rfl rfl ?_
        refine sK_i (pc' := 69) rfl ?_
        refine x_iload_n (pc' := 70) rfl rfl rfl ?_
        have J44 : X 159 78 [.inr (.inr (12, (some 0))), .inl 3, .inl (bz s), .inl 1, .inl (bz ((decide ((mA M 0 0) = 2)) && (!((bsF M n 0 (!(xor false s))).isNone)))), .inl 1, .inl 1] [.inl (bz (!(xor true s))), .inl 1, .inr (.inr (12, (some 0))), .inl 1, .inr (.inr (21, (some 27)))] (sIw (sAw (sIw t 811 0 0) 21 27 0 (ov (bsF M n 0 (!(xor false s))))) 811 0 1) Q := by
          refine x_cv (ls0 := [_, _, _, sJk, sJk, sJk]) (rest := [_, _]) rfl rfl rfl rfl rfl ?_
          refine r153 (b := 1) (s := (!(xor true s))) ((rp_Ic rfl).trans ((rp_As rfl).trans ((rp_Ic rfl).trans hM))) (Cn_cp ((cp_I rfl).trans (cp_A.trans (cp_I rfl))) hc) (Fr.ri (Fr.refl _) hR) (show 1 < 5 by decide) (fun b3 => ?_)
          refine sK_i (pc' := 81) rfl ?_
          refine x_iast (pc' := 82) (N := 200) (p := 1) rfl rfl rfl (Eq.trans rdNI (Eq.trans rdNA (Eq.trans rdNI (kN_21_27 hc)))) (io_in (p := 1) (N := 200) (by decide) (by decide)) (nn_io (p := 1) (by decide)) ?_
          refine x_aload_n (pc' := 83) rfl rfl rfl rfl rfl ?_
          refine x_gR (pc' := 86) (r := (some 0)) rfl rfl rfl (Eq.trans (b := sR t 769 0) rfl (kR_769_0 hc)) ?_
          refine x_iload (pc' := 88) rfl rfl rfl ?_
          refine x_iald (pc' := 89) (N := 5) (x := (mA M 0 1)) rfl rfl rfl (Eq.trans rdNA (Eq.trans rdNI (Eq.trans rdNA (Eq.trans rdNI (kN_21_0 hc))))) (io_in (p := 1) (N := 5) (by decide) (by decide)) (Eq.trans (congrArg (sA (sAw (sIw (sAw (sIw t 811 0 0) 21 27 0 (ov (bsF M n 0 (!(xor false s))))) 811 0 1) 21 27 1 (ov (bsF M n 1 (!(xor true s))))) 21 0) (nn_io (p := 1) (by decide))) (Eq.trans (b := sA t 21 0 1) rfl (gA hM rfl))) ?_
          refine x_iconst (pc' := 90) rfl rfl ?_
          have J47 : X 159 111 [.inr (.inr (12, (some 0))), .inl 3, .inl (bz s), .inl 1, .inl (bz ((decide ((mA M 0 0) = 2)) && (!((bsF M n 0 (!(xor false s))).isNone)))), .inl 1, .inl 1] [.inl (bz ((decide ((mA M 0 1) = 2)) && (!((bsF M n 1 (!(xor true s))).isNone))))] (sAw (sIw (sAw (sIw t 811 0 0) 21 27 0 (ov (bsF M n 0 (!(xor false s))))) 811 0 1) 21 27 1 (ov (bsF M n 1 (!(xor true s))))) Q := by
            refine x_istore (pc' := 113) (ls' := [_, _, _, _, _, _, _]) rfl rfl rfl rfl ?_
            refine x_aload_n (pc' := 114) rfl rfl rfl rfl rfl ?_
            refine x_dup (pc' := 115) rfl rfl rfl ?_
            refine x_gI (pc' := 118) (x := 1) rfl rfl rfl (Eq.trans rdIA sI_s) ?_
            refine x_iconst (pc' := 119) rfl rfl ?_
            refine x_iadd (pc' := 120) (z := 2) rfl rfl (by decide) ?_
            refine x_pI (pc' := 123) rfl rfl rfl ?_
            refine x_iinc (pc' := 126) (y := 2) (ls' := [_, _, _, _, _, _, _]) rfl rfl rfl rfl rfl ?_
            refine x_goto (pc' := 25) rfl rfl ?_
            refine x_iload (pc' := 27) rfl rfl rfl ?_
            refine x_iconst (pc' := 28) rfl rfl ?_
            refine x_icmp (a' := 129) (pc' := 31) (z := false) rfl rfl rfl (by decide) (fun h => by cases h) (fun _ => ?_)
            refine x_iload (pc' := 33) rfl rfl rfl ?_
            have J55 : X 159 129 [.inr (.inr (12, (some 0))), .inl 3, .inl (bz s), .inl 1, .inl (bz ((decide ((mA M 0 1) = 2)) && (!((bsF M n 1 (!(xor true s))).isNone)))), .inl (bif ((decide ((mA M 0 1) = 2)) && (!((bsF M n 1 (!(xor true s))).isNone))) then 3 else 2), .inl (bif ((decide ((mA M 0 1) = 2)) && (!((bsF M n 1 (!(xor true s))).isNone))) then (-1) else 1)] [] (sIw (sAw (sIw (sAw (sIw t 811 0 0) 21 27 0 (ov (bsF M n 0 (!(xor false s))))) 811 0 1) 21 27 1 (ov (bsF M n 1 (!(xor true s))))) 811 0 2) Q := by
              refine x_iload (pc' := 131) rfl rfl rfl ?_
              refine x_retz (z := ((decide ((mA M 0 1) = 2)) && (!((bsF M n 1 (!(xor true s))).isNone)))) rfl rfl ?_
              exact qv (congrArg (fun z : Bool => (.inl (some (.inl (bz z))) : sRs)) (Eq.trans (lgF_s q29) lgF_1).symm) (q _ ((rp_Ic rfl).trans ((rp_As rfl).trans ((rp_Ic rfl).trans ((rp_As rfl).trans ((rp_Ic rfl).trans hM))))) ((cp_I rfl).trans (cp_A.trans ((cp_I rfl).trans (cp_A.trans (cp_I rfl))))) (fun L hL => by obtain ⟨l0, z0, h0, j0, rfl⟩ := lgF_i hL; obtain ⟨l1, z1, h1, j1, rfl⟩ := lgF_i h0; cases lgF_nil h1; exact ⟨rfl, ov_io (an_n z0), ov_io (an_n z1), trivial⟩))
            refine x_ifeq_z (a' := 129) (pc' := 36) (z := ((decide ((mA M 0 1) = 2)) && (!((bsF M n 1 (!(xor true s))).isNone)))) rfl rfl rfl (fun q50 => ?_) (fun q50 => ?_)
            · ((try rw [q50] at J55); (try rw [q50]); (try simp only [cd_t, cd_f, nt_t, nt_f, an_t, an_f, or_t, or_f] at J55); (try simp only [cd_t, cd_f, nt_t, nt_f, an_t, an_f, or_t, or_f]); exact J55)
            · refine x_iload_n (pc' := 37) rfl rfl rfl ?_
              refine x_iload_n (pc' := 38) rfl rfl rfl ?_
              refine x_iload (pc' := 40) rfl rfl rfl ?_
              refine x_cs (ls0 := [_, _, _, sJk, sJk, sJk]) (rest := []) rfl rfl rfl rfl ?_
              refine x_getstatic (pc' := 3) rfl rfl (show 1 < sC t 28 from gst1 hc) ?_
              refine x_iconst (pc' := 4) rfl rfl ?_
              refine x_iload_n (pc' := 5) rfl rfl rfl ?_
              refine x_imul (pc' := 6) (z := 9) rfl rfl (by decide) ?_
              refine x_iload_n (pc' := 7) rfl rfl rfl ?_
              refine x_iadd (pc' := 8) (z := 10) rfl rfl (by decide) ?_
              refine x_iald (pc' := 9) (N := 15) (x := 12) rfl rfl rfl (Eq.trans rdNI (Eq.trans rdNA (Eq.trans rdNI (Eq.trans rdNA (Eq.trans rdNI (kN_28_1 hc)))))) (io_in (p := 10) (N := 15) (by decide) (by decide)) (Eq.trans (congrArg (sA (sIw (sAw (sIw (sAw (sIw t 811 0 0) 21 27 0 (ov (bsF M n 0 (!(xor false s))))) 811 0 1) 21 27 1 (ov (bsF M n 1 (!(xor true s))))) 811 0 2) 28 1) (nn_io (p := 10) (by decide))) (Eq.trans (b := sA t 28 1 10) rfl ((hc.2.2.2.2.2 10).2.trans rfl))) ?_
              refine x_istore_n (pc' := 10) (ls' := [_, _, _, _, _, _]) rfl rfl rfl rfl ?_
              refine x_iload_n (pc' := 11) rfl rfl rfl ?_
              refine x_bipush (pc' := 13) rfl rfl ?_
              refine x_icmp (a' := 20) (pc' := 16) (z := true) rfl rfl rfl (by decide) (fun _ => ?_) (fun h => by cases h)
              refine x_iload_n (pc' := 21) rfl rfl rfl ?_
              refine x_bipush (pc' := 23) rfl rfl ?_
              refine x_icmp (a' := 30) (pc' := 26) (z := false) rfl rfl rfl (by decide) (fun h => by cases h) (fun _ => ?_)
              refine x_iconst (pc' := 27) rfl rfl ?_
              refine x_goto (pc' := 39) rfl rfl ?_
              refine x_istore (pc' := 41) (ls' := [_, _, _, _, _, _]) rfl rfl rfl rfl ?_
              refine x_iload (pc' := 43) rfl rfl rfl ?_
              refine x_iload_n (pc' := 44) rfl rfl rfl ?_
              refine x_isub (pc' := 45) (z := 0) rfl rfl (by decide) ?_
              refine x_istore (pc' := 47) (ls' := [_, _, _, _, _, _]) rfl rfl rfl rfl ?_
              refine x_iload (pc' := 49) rfl rfl rfl ?_
              refine x_if (a' := 56) (pc' := 52) (z := false) rfl rfl rfl (by decide) (fun h => by cases h) (fun _ => ?_)
              refine x_iconst (pc' := 53) rfl rfl ?_
              refine x_goto (pc' := 91) rfl rfl ?_
              refine x_reti rfl rfl ?_
              refine sK_i (pc' := 43) rfl ?_
              refine x_istore (pc' := 45) (ls' := [_, _, _, _, _, _, _]) rfl rfl rfl rfl ?_
              refine x_iload (pc' := 47) rfl rfl rfl ?_
              refine x_iconst (pc' := 48) rfl rfl ?_
              refine x_icmp (a' := 123) (pc' := 51) (z := true) rfl rfl rfl (by decide) (fun _ => ?_) (fun h => by cases h)
              refine x_iinc (pc' := 126) (y := 3) (ls' := [_, _, _, _, _, _, _]) rfl rfl rfl rfl rfl ?_
              refine x_goto (pc' := 25) rfl rfl ?_
              refine x_iload (pc' := 27) rfl rfl rfl ?_
              refine x_iconst (pc' := 28) rfl rfl ?_
              refine x_icmp (a' := 129) (pc' := 31) (z := true) rfl rfl rfl (by decide) (fun _ => ?_) (fun h => by cases h)
              ((try rw [q50] at J55); (try rw [q50]); (try simp only [cd_t, cd_f, nt_t, nt_f, an_t, an_f, or_t, or_f] at J55); (try simp only [cd_t, cd_f, nt_t, nt_f, an_t, an_f, or_t, or_f]); exact J55)
          refine x_icmp_n (a' := 110) (pc' := 93) (z := decide ((mA M 0 1) = 2)) rfl rfl rfl (ik_ne _ _) (fun q46 => ?_) (fun q46 => ?_)
          · refine x_iconst (pc' := 111) rfl rfl ?_
            ((try rw [q46] at J47); (try rw [q46]); (try simp only [cd_t, cd_f, nt_t, nt_f, an_t, an_f, or_t, or_f] at J47); (try simp only [cd_t, cd_f, nt_t, nt_f, an_t, an_f, or_t, or_f]); exact J47)
          · refine x_aload_n (pc' := 94) rfl rfl rfl rfl rfl ?_
            refine x_gR (pc' := 97) (r := (some 27)) rfl rfl rfl (Eq.trans (b := sR t 809 0) rfl (kR_809_0 hc)) ?_
            refine x_aload_n (pc' := 98) rfl rfl rfl rfl rfl ?_
            refine x_gI (pc' := 101) (x := 1) rfl rfl rfl (Eq.trans rdIA sI_s) ?_
            refine x_iald (pc' := 102) (N := 200) (x := (ov (bsF M n 1 (!(xor true s))))) rfl rfl rfl (Eq.trans rdNA (Eq.trans rdNI (Eq.trans rdNA (Eq.trans rdNI (kN_21_27 hc))))) (io_in (p := 1) (N := 200) (by decide) (by decide)) (Eq.trans (congrArg (sA (sAw (sIw (sAw (sIw t 811 0 0) 21 27 0 (ov (bsF M n 0 (!(xor false s))))) 811 0 1) 21 27 1 (ov (bsF M n 1 (!(xor true s))))) 21 27) (nn_io (p := 1) (by decide))) sA_s) ?_
            refine x_iconst (pc' := 103) rfl rfl ?_
            refine x_icmp (a' := 110) (pc' := 106) (z := (bsF M n 1 (!(xor true s))).isNone) rfl rfl rfl (ov_eq (ov_31 (N := n) b3 (Nat.le_of_lt (gn31 hR)))) (fun q47 => ?_) (fun q47 => ?_)
            · refine x_iconst (pc' := 111) rfl rfl ?_
              ((try rw [q47] at J47); (try rw [q47]); (try rw [q46] at J47); (try rw [q46]); (try simp only [cd_t, cd_f, nt_t, nt_f, an_t, an_f, or_t, or_f] at J47); (try simp only [cd_t, cd_f, nt_t, nt_f, an_t, an_f, or_t, or_f]); exact J47)
            · refine x_iconst (pc' := 107) rfl rfl ?_
              refine x_goto (pc' := 111) rfl rfl ?_
              ((try rw [q47] at J47); (try rw [q47]); (try rw [q46] at J47); (try rw [q46]); (try simp only [cd_t, cd_f, nt_t, nt_f, an_t, an_f, or_t, or_f] at J47); (try simp only [cd_t, cd_f, nt_t, nt_f, an_t, an_f, or_t, or_f]); exact J47)
        refine x_icmp (a' := 77) (pc' := 73) (z := (xor true s)) rfl rfl rfl (bz_neb _ _) (fun q44 => ?_) (fun q44 => ?_)
        · refine x_iconst (pc' := 78) rfl rfl ?_
          ((try rw [q44] at J44); (try rw [q44]); (try simp only [cd_t, cd_f, nt_t, nt_f, an_t, an_f, or_t, or_f] at J44); (try simp only [cd_t, cd_f, nt_t, nt_f, an_t, an_f, or_t, or_f]); exact J44)
        · refine x_iconst (pc' := 74) rfl rfl ?_
          refine x_goto (pc' := 78) rfl rfl ?_
          ((try rw [q44] at J44); (try rw [q44]); (try simp only [cd_t, cd_f, nt_t, nt_f, an_t, an_f, or_t, or_f] at J44); (try simp only [cd_t, cd_f, nt_t, nt_f, an_t, an_f, or_t, or_f]); exact J44)
    refine x_icmp_n (a' := 110) (pc' := 93) (z := decide ((mA M 0 0) = 2)) rfl rfl rfl (ik_ne _ _) (fun q25 => ?_) (fun q25 => ?_)
    · refine x_iconst (pc' := 111) rfl rfl ?_
      ((try rw [q25] at J26); (try rw [q25]); (try simp only [cd_t, cd_f, nt_t, nt_f, an_t, an_f, or_t, or_f] at J26); (try simp only [cd_t, cd_f, nt_t, nt_f, an_t, an_f, or_t, or_f]); exact J26)
    · refine x_aload_n (pc' := 94) rfl rfl rfl rfl rfl ?_
      refine x_gR (pc' := 97) (r := (some 27)) rfl rfl rfl (Eq.trans (b := sR t 809 0) rfl (kR_809_0 hc)) ?_
      refine x_aload_n (pc' := 98) rfl rfl rfl rfl rfl ?_
      refine x_gI (pc' := 101) (x := 0) rfl rfl rfl (Eq.trans rdIA sI_s) ?_
      refine x_iald (pc' := 102) (N := 200) (x := (ov (bsF M n 0 (!(xor false s))))) rfl rfl rfl (Eq.trans rdNA (Eq.trans rdNI (kN_21_27 hc))) (io_in (p := 0) (N := 200) (by decide) (by decide)) (Eq.trans (congrArg (sA (sAw (sIw t 811 0 0) 21 27 0 (ov (bsF M n 0 (!(xor false s))))) 21 27) (nn_io (p := 0) (by decide))) sA_s) ?_
      refine x_iconst (pc' := 103) rfl rfl ?_
      refine x_icmp (a' := 110) (pc' := 106) (z := (bsF M n 0 (!(xor false s))).isNone) rfl rfl rfl (ov_eq (ov_31 (N := n) b1 (Nat.le_of_lt (gn31 hR)))) (fun q26 => ?_) (fun q26 => ?_)
      · refine x_iconst (pc' := 111) rfl rfl ?_
        ((try rw [q26] at J26); (try rw [q26]); (try rw [q25] at J26); (try rw [q25]); (try simp only [cd_t, cd_f, nt_t, nt_f, an_t, an_f, or_t, or_f] at J26); (try simp only [cd_t, cd_f, nt_t, nt_f, an_t, an_f, or_t, or_f]); exact J26)
      · refine x_iconst (pc' := 107) rfl rfl ?_
        refine x_goto (pc' := 111) rfl rfl ?_
        ((try rw [q26] at J26); (try rw [q26]); (try rw [q25] at J26); (try rw [q25]); (try simp only [cd_t, cd_f, nt_t, nt_f, an_t, an_f, or_t, or_f] at J26); (try simp only [cd_t, cd_f, nt_t, nt_f, an_t, an_f, or_t, or_f]); exact J26)
  refine x_icmp (a' := 77) (pc' := 73) (z := (xor false s)) rfl rfl rfl (bz_neb _ _) (fun q23 => ?_) (fun q23 => ?_)
  · refine x_iconst (pc' := 78) rfl rfl ?_
    ((try rw [q23] at J23); (try rw [q23]); (try simp only [cd_t, cd_f, nt_t, nt_f, an_t, an_f, or_t, or_f] at J23); (try simp only [cd_t, cd_f, nt_t, nt_f, an_t, an_f, or_t, or_f]); exact J23)
  · refine x_iconst (pc' := 74) rfl rfl ?_
    refine x_goto (pc' := 78) rfl rfl ?_
    ((try rw [q23] at J23); (try rw [q23]); (try simp only [cd_t, cd_f, nt_t, nt_f, an_t, an_f, or_t, or_f] at J23); (try simp only [cd_t, cd_f, nt_t, nt_f, an_t, an_f, or_t, or_f]); exact J23)
set_option maxHeartbeats 4000000 in
set_option maxRecDepth 10000 in
theorem r160_31 {t : sT} {Q : sRs → sT → Prop} {M : sM} {n : Nat} {o0 o1 : Nat}
    (hM : rp t = M)
    (hc : Cn t)
    (hR : Ri M n)
    (ho0 : o0 < n)
    (ho1 : o1 < n)
    (hq : sI t 811 0 = 2)
    (hk0 : sA t 21 27 0 = io o0)
    (hk1 : sA t 21 27 1 = io o1)
    (q : Q (.inl (some (.inl (prF M 3 1 [o0, o1])))) t) :
    X 160 0 [.inr (.inr (12, (some 0))), .inl 3, .inl 1, sJk, sJk] [] t Q := by
  refine x_iload_n (pc' := 1) rfl rfl rfl ?_
  refine x_iconst (pc' := 2) rfl rfl ?_
  refine x_icmp (a' := 34) (pc' := 5) (z := false) rfl rfl rfl (by decide) (fun h => by cases h) (fun _ => ?_)
  refine x_iload_n (pc' := 6) rfl rfl rfl ?_
  refine x_iconst (pc' := 7) rfl rfl ?_
  refine x_icmp (a' := 34) (pc' := 10) (z := false) rfl rfl rfl (by decide) (fun h => by cases h) (fun _ => ?_)
  refine x_aload_n (pc' := 11) rfl rfl rfl rfl rfl ?_
  refine x_gR (pc' := 14) (r := (some 14)) rfl rfl rfl (kR_790_0 hc) ?_
  refine x_aload_n (pc' := 15) rfl rfl rfl rfl rfl ?_
  refine x_gR (pc' := 18) (r := (some 27)) rfl rfl rfl (kR_809_0 hc) ?_
  refine x_iconst (pc' := 19) rfl rfl ?_
  refine x_iald (pc' := 20) (N := 200) (x := (io o0)) rfl rfl rfl (kN_21_27 hc) (io_in (p := 0) (N := 200) (by decide) (by decide)) (Eq.trans (congrArg (sA t 21 27) (nn_io (p := 0) (by decide))) hk0) ?_
  refine x_iald (pc' := 21) (N := 200) (x := (mA M 14 o0)) rfl rfl rfl (kN_21_14 hc) (io_in (p := o0) (N := 200) (Nat.lt_of_lt_of_le ho0 (gn200 hR)) (by decide)) (Eq.trans (congrArg (sA t 21 14) (nn_io (p := o0) (Nat.lt_trans (Nat.lt_of_lt_of_le ho0 (gn200 hR)) (by decide)))) (gF14 hM (Fr.refl _))) ?_
  refine x_aload_n (pc' := 22) rfl rfl rfl rfl rfl ?_
  refine x_gR (pc' := 25) (r := (some 14)) rfl rfl rfl (kR_790_0 hc) ?_
  refine x_aload_n (pc' := 26) rfl rfl rfl rfl rfl ?_
  refine x_gR (pc' := 29) (r := (some 27)) rfl rfl rfl (kR_809_0 hc) ?_
  refine x_iconst (pc' := 30) rfl rfl ?_
  refine x_iald (pc' := 31) (N := 200) (x := (io o1)) rfl rfl rfl (kN_21_27 hc) (io_in (p := 1) (N := 200) (by decide) (by decide)) (Eq.trans (congrArg (sA t 21 27) (nn_io (p := 1) (by decide))) hk1) ?_
  refine x_iald (pc' := 32) (N := 200) (x := (mA M 14 o1)) rfl rfl rfl (kN_21_14 hc) (io_in (p := o1) (N := 200) (Nat.lt_of_lt_of_le ho1 (gn200 hR)) (by decide)) (Eq.trans (congrArg (sA t 21 14) (nn_io (p := o1) (Nat.lt_trans (Nat.lt_of_lt_of_le ho1 (gn200 hR)) (by decide)))) (gF14 hM (Fr.refl _))) ?_
  refine x_isub (pc' := 33) (z := ((mA M 14 o0) - (mA M 14 o1))) rfl rfl rfl ?_
  refine x_reti rfl rfl ?_
  exact q
-- ((mA M 14 o0) - (mA M 14 o1))
set_option maxHeartbeats 4000000 in
set_option maxRecDepth 10000 in
theorem r159_32 {t : sT} {Q : sRs → sT → Prop} {M : sM} {n : Nat} {s : Bool} (hM : rp t = M) (hc : Cn t) (hR : Ri M n)
    (q : ∀ t', rp t' = M → cp t' = cp t → (∀ L, lgO M n 3 s 2 = some L → Tk t' L) → Q (.inl (some (.inl (bz (lgO M n 3 s 2).isSome)))) t') :
    X 159 0 [.inr (.inr (12, (some 0))), .inl 3, .inl (bz s), .inl 2, sJk, sJk, sJk] [] t Q := by
  refine x_iload_n (pc' := 1) rfl rfl rfl ?_
  refine x_iload_n (pc' := 2) rfl rfl rfl ?_
  refine x_iconst (pc' := 3) rfl rfl ?_
  refine x_cs (ls0 := [_, _, _, sJk, sJk, sJk]) (rest := []) rfl rfl rfl rfl ?_
  refine x_getstatic (pc' := 3) rfl rfl (show 1 < sC t 28 from gst1 hc) ?_
  refine x_iconst (pc' := 4) rfl rfl ?_
  refine x_iload_n (pc' := 5) rfl rfl rfl ?_
  refine x_imul (pc' := 6) (z := 9) rfl rfl (by decide) ?_
  refine x_iload_n (pc' := 7) rfl rfl rfl ?_
  refine x_iadd (pc' := 8) (z := 11) rfl rfl (by decide) ?_
  refine x_iald (pc' := 9) (N := 15) (x := 0) rfl rfl rfl (kN_28_1 hc) (io_in (p := 11) (N := 15) (by decide) (by decide)) (Eq.trans (congrArg (sA t 28 1) (nn_io (p := 11) (by decide))) ((hc.2.2.2.2.2 11).2.trans rfl)) ?_
  refine x_istore_n (pc' := 10) (ls' := [_, _, _, _, _, _]) rfl rfl rfl rfl ?_
  refine x_iload_n (pc' := 11) rfl rfl rfl ?_
  refine x_bipush (pc' := 13) rfl rfl ?_
  refine x_icmp (a' := 20) (pc' := 16) (z := true) rfl rfl rfl (by decide) (fun _ => ?_) (fun h => by cases h)
  refine x_iload_n (pc' := 21) rfl rfl rfl ?_
  refine x_bipush (pc' := 23) rfl rfl ?_
  refine x_icmp (a' := 30) (pc' := 26) (z := true) rfl rfl rfl (by decide) (fun _ => ?_) (fun h => by cases h)
  refine x_iload_n (pc' := 31) rfl rfl rfl ?_
  refine x_if (a' := 38) (pc' := 34) (z := true) rfl rfl rfl (by decide) (fun _ => ?_) (fun h => by cases h)
  refine x_iconst (pc' := 39) rfl rfl ?_
  refine x_istore (pc' := 41) (ls' := [_, _, _, _, _, _]) rfl rfl rfl rfl ?_
  refine x_iload (pc' := 43) rfl rfl rfl ?_
  refine x_iload_n (pc' := 44) rfl rfl rfl ?_
  refine x_isub (pc' := 45) (z := 0) rfl rfl (by decide) ?_
  refine x_istore (pc' := 47) (ls' := [_, _, _, _, _, _]) rfl rfl rfl rfl ?_
  refine x_iload (pc' := 49) rfl rfl rfl ?_
  refine x_if (a' := 56) (pc' := 52) (z := false) rfl rfl rfl (by decide) (fun h => by cases h) (fun _ => ?_)
  refine x_iconst (pc' := 53) rfl rfl ?_
  refine x_goto (pc' := 91) rfl rfl ?_
  refine x_reti rfl rfl ?_
  refine sK_i (pc' := 6) rfl ?_
  refine x_iconst (pc' := 7) rfl rfl ?_
  refine x_icmp (a' := 14) (pc' := 10) (z := true) rfl rfl rfl (by decide) (fun _ => ?_) (fun h => by cases h)
  refine x_iconst (pc' := 15) rfl rfl ?_
  refine x_istore (pc' := 17) (ls' := [_, _, _, _, _, _, _]) rfl rfl rfl rfl ?_
  refine x_aload_n (pc' := 18) rfl rfl rfl rfl rfl ?_
  refine x_iconst (pc' := 19) rfl rfl ?_
  refine x_pI (pc' := 22) rfl rfl rfl ?_
  refine x_iconst (pc' := 23) rfl rfl ?_
  refine x_istore (pc' := 25) (ls' := [_, _, _, _, _, _, _]) rfl rfl rfl rfl ?_
  refine x_iload (pc' := 27) rfl rfl rfl ?_
  refine x_iconst (pc' := 28) rfl rfl ?_
  refine x_icmp (a' := 129) (pc' := 31) (z := false) rfl rfl rfl (by decide) (fun h => by cases h) (fun _ => ?_)
  refine x_iload (pc' := 33) rfl rfl rfl ?_
  refine x_if (a' := 129) (pc' := 36) (z := true) rfl rfl rfl (by decide) (fun _ => ?_) (fun h => by cases h)
  refine x_iload (pc' := 131) rfl rfl rfl ?_
  refine x_retz (z := false) rfl rfl ?_
  exact q _ ((rp_Ic rfl).trans hM) (cp_I rfl) (fun L hL => by cases hL)
set_option maxHeartbeats 4000000 in
set_option maxRecDepth 10000 in
theorem r159_40 {t : sT} {Q : sRs → sT → Prop} {M : sM} {n : Nat} {s : Bool} (hM : rp t = M) (hc : Cn t) (hR : Ri M n)
    (q : ∀ t', rp t' = M → cp t' = cp t → (∀ L, lgO M n 4 s 0 = some L → Tk t' L) → Q (.inl (some (.inl (bz (lgO M n 4 s 0).isSome)))) t') :
    X 159 0 [.inr (.inr (12, (some 0))), .inl 4, .inl (bz s), .inl 0, sJk, sJk, sJk] [] t Q := by
  refine x_iload_n (pc' := 1) rfl rfl rfl ?_
  refine x_iload_n (pc' := 2) rfl rfl rfl ?_
  refine x_iconst (pc' := 3) rfl rfl ?_
  refine x_cs (ls0 := [_, _, _, sJk, sJk, sJk]) (rest := []) rfl rfl rfl rfl ?_
  refine x_getstatic (pc' := 3) rfl rfl (show 1 < sC t 28 from gst1 hc) ?_
  refine x_iconst (pc' := 4) rfl rfl ?_
  refine x_iload_n (pc' := 5) rfl rfl rfl ?_
  refine x_imul (pc' := 6) (z := 12) rfl rfl (by decide) ?_
  refine x_iload_n (pc' := 7) rfl rfl rfl ?_
  refine x_iadd (pc' := 8) (z := 12) rfl rfl (by decide) ?_
  refine x_iald (pc' := 9) (N := 15) (x := 5) rfl rfl rfl (kN_28_1 hc) (io_in (p := 12) (N := 15) (by decide) (by decide)) (Eq.trans (congrArg (sA t 28 1) (nn_io (p := 12) (by decide))) ((hc.2.2.2.2.2 12).2.trans rfl)) ?_
  refine x_istore_n (pc' := 10) (ls' := [_, _, _, _, _, _]) rfl rfl rfl rfl ?_
  refine x_iload_n (pc' := 11) rfl rfl rfl ?_
  refine x_bipush (pc' := 13) rfl rfl ?_
  refine x_icmp (a' := 20) (pc' := 16) (z := true) rfl rfl rfl (by decide) (fun _ => ?_) (fun h => by cases h)
  refine x_iload_n (pc' := 21) rfl rfl rfl ?_
  refine x_bipush (pc' := 23) rfl rfl ?_
  refine x_icmp (a' := 30) (pc' := 26) (z := true) rfl rfl rfl (by decide) (fun _ => ?_) (fun h => by cases h)
  refine x_iload_n (pc' := 31) rfl rfl rfl ?_
  refine x_if (a' := 38) (pc' := 34) (z := false) rfl rfl rfl (by decide) (fun h => by cases h) (fun _ => ?_)
  refine x_iconst (pc' := 35) rfl rfl ?_
  refine x_goto (pc' := 39) rfl rfl ?_
  refine x_istore (pc' := 41) (ls' := [_, _, _, _, _, _]) rfl rfl rfl rfl ?_
  refine x_iload (pc' := 43) rfl rfl rfl ?_
  refine x_iload_n (pc' := 44) rfl rfl rfl ?_
  refine x_isub (pc' := 45) (z := 1) rfl rfl (by decide) ?_
  refine x_istore (pc' := 47) (ls' := [_, _, _, _, _, _]) rfl rfl rfl rfl ?_
  refine x_iload (pc' := 49) rfl rfl rfl ?_
  refine x_if (a' := 56) (pc' := 52) (z := true) rfl rfl rfl (by decide) (fun _ => ?_) (fun h => by cases h)
  refine x_iload (pc' := 58) rfl rfl rfl ?_
  refine x_iconst (pc' := 59) rfl rfl ?_
  refine x_icmp (a' := 69) (pc' := 62) (z := true) rfl rfl rfl (by decide) (fun _ => ?_) (fun h => by cases h)
  refine x_iload (pc' := 71) rfl rfl rfl ?_
  refine x_iconst (pc' := 72) rfl rfl ?_
  refine x_icmp (a' := 85) (pc' := 75) (z := true) rfl rfl rfl (by decide) (fun _ => ?_) (fun h => by cases h)
  refine x_iload_n (pc' := 86) rfl rfl rfl ?_
  refine x_bipush (pc' := 88) rfl rfl ?_
  refine x_irem (pc' := 89) (z := 5) rfl rfl (by decide) (by decide +kernel) ?_
  refine x_iconst (pc' := 90) rfl rfl ?_
  refine x_isub (pc' := 91) (z := 4) rfl rfl (by decide) ?_
  refine x_reti rfl rfl ?_
  refine sK_i (pc' := 6) rfl ?_
  refine x_iconst (pc' := 7) rfl rfl ?_
  refine x_icmp (a' := 14) (pc' := 10) (z := false) rfl rfl rfl (by decide) (fun h => by cases h) (fun _ => ?_)
  refine x_iconst (pc' := 11) rfl rfl ?_
  refine x_goto (pc' := 15) rfl rfl ?_
  refine x_istore (pc' := 17) (ls' := [_, _, _, _, _, _, _]) rfl rfl rfl rfl ?_
  refine x_aload_n (pc' := 18) rfl rfl rfl rfl rfl ?_
  refine x_iconst (pc' := 19) rfl rfl ?_
  refine x_pI (pc' := 22) rfl rfl rfl ?_
  refine x_iconst (pc' := 23) rfl rfl ?_
  refine x_istore (pc' := 25) (ls' := [_, _, _, _, _, _, _]) rfl rfl rfl rfl ?_
  refine x_iload (pc' := 27) rfl rfl rfl ?_
  refine x_iconst (pc' := 28) rfl rfl ?_
  refine x_icmp (a' := 129) (pc' := 31) (z := false) rfl rfl rfl (by decide) (fun h => by cases h) (fun _ => ?_)
  refine x_iload (pc' := 33) rfl rfl rfl ?_
  refine x_if (a' := 129) (pc' := 36) (z := false) rfl rfl rfl (by decide) (fun h => by cases h) (fun _ => ?_)
  refine x_iload_n (pc' := 37) rfl rfl rfl ?_
  refine x_iload_n (pc' := 38) rfl rfl rfl ?_
  refine x_iload (pc' := 40) rfl rfl rfl ?_
  refine x_cs (ls0 := [_, _, _, sJk, sJk, sJk]) (rest := []) rfl rfl rfl rfl ?_
  refine x_getstatic (pc' := 3) rfl rfl (show 1 < sC t 28 from gst1 hc) ?_
  refine x_iconst (pc' := 4) rfl rfl ?_
  refine x_iload_n (pc' := 5) rfl rfl rfl ?_
  refine x_imul (pc' := 6) (z := 12) rfl rfl (by decide) ?_
  refine x_iload_n (pc' := 7) rfl rfl rfl ?_
  refine x_iadd (pc' := 8) (z := 12) rfl rfl (by decide) ?_
  refine x_iald (pc' := 9) (N := 15) (x := 5) rfl rfl rfl (Eq.trans rdNI (kN_28_1 hc)) (io_in (p := 12) (N := 15) (by decide) (by decide)) (Eq.trans (congrArg (sA (sIw t 811 0 0) 28 1) (nn_io (p := 12) (by decide))) (Eq.trans (b := sA t 28 1 12) rfl ((hc.2.2.2.2.2 12).2.trans rfl))) ?_
  refine x_istore_n (pc' := 10) (ls' := [_, _, _, _, _, _]) rfl rfl rfl rfl ?_
  refine x_iload_n (pc' := 11) rfl rfl rfl ?_
  refine x_bipush (pc' := 13) rfl rfl ?_
  refine x_icmp (a' := 20) (pc' := 16) (z := true) rfl rfl rfl (by decide) (fun _ => ?_) (fun h => by cases h)
  refine x_iload_n (pc' := 21) rfl rfl rfl ?_
  refine x_bipush (pc' := 23) rfl rfl ?_
  refine x_icmp (a' := 30) (pc' := 26) (z := true) rfl rfl rfl (by decide) (fun _ => ?_) (fun h => by cases h)
  refine x_iload_n (pc' := 31) rfl rfl rfl ?_
  refine x_if (a' := 38) (pc' := 34) (z := false) rfl rfl rfl (by decide) (fun h => by cases h) (fun _ => ?_)
  refine x_iconst (pc' := 35) rfl rfl ?_
  refine x_goto (pc' := 39) rfl rfl ?_
  refine x_istore (pc' := 41) (ls' := [_, _, _, _, _, _]) rfl rfl rfl rfl ?_
  refine x_iload (pc' := 43) rfl rfl rfl ?_
  refine x_iload_n (pc' := 44) rfl rfl rfl ?_
  refine x_isub (pc' := 45) (z := 1) rfl rfl (by decide) ?_
  refine x_istore (pc' := 47) (ls' := [_, _, _, _, _, _]) rfl rfl rfl rfl ?_
  refine x_iload (pc' := 49) rfl rfl rfl ?_
  refine x_if (a' := 56) (pc' := 52) (z := true) rfl rfl rfl (by decide) (fun _ => ?_) (fun h => by cases h)
  refine x_iload (pc' := 58) rfl rfl rfl ?_
  refine x_iconst (pc' := 59) rfl rfl ?_
  refine x_icmp (a' := 69) (pc' := 62) (z := true) rfl rfl rfl (by decide) (fun _ => ?_) (fun h => by cases h)
  refine x_iload (pc' := 71) rfl rfl rfl ?_
  refine x_iconst (pc' := 72) rfl rfl ?_
  refine x_icmp (a' := 85) (pc' := 75) (z := true) rfl rfl rfl (by decide) (fun _ => ?_) (fun h => by cases h)
  refine x_iload_n (pc' := 86) rfl rfl rfl ?_
  refine x_bipush (pc' := 88) rfl rfl ?_
  refine x_irem (pc' := 89) (z := 5) rfl rfl (by decide) (by decide +kernel) ?_
  refine x_iconst (pc' := 90) rfl rfl ?_
  refine x_isub (pc' := 91) (z := 4) rfl rfl (by decide) ?_
  refine x_reti rfl rfl ?_
  refine sK_i (pc' := 43) rfl ?_
  refine x_istore (pc' := 45) (ls' := [_, _, _, _, _, _, _]) rfl rfl rfl rfl ?_
  refine x_iload (pc' := 47) rfl rfl rfl ?_
  refine x_iconst (pc' := 48) rfl rfl ?_
  refine x_icmp (a' := 123) (pc' := 51) (z := false) rfl rfl rfl (by decide) (fun h => by cases h) (fun _ => ?_)
  refine x_aload_n (pc' := 52) rfl rfl rfl rfl rfl ?_
  refine x_gR (pc' := 55) (r := (some 27)) rfl rfl rfl (Eq.trans (b := sR t 809 0) rfl (kR_809_0 hc)) ?_
  refine x_aload_n (pc' := 56) rfl rfl rfl rfl rfl ?_
  refine x_gI (pc' := 59) (x := 0) rfl rfl rfl sI_s ?_
  refine x_aload_n (pc' := 60) rfl rfl rfl rfl rfl ?_
  refine x_iload (pc' := 62) rfl rfl rfl ?_
  refine x_iload_n (pc' := 63) rfl rfl rfl ?_
  refine x_iload_n (pc' := 64) rfl rfl rfl ?_
  refine x_iload (pc' := 66) rfl rfl rfl ?_
  refine x_cs (ls0 := [_, _, _, sJk]) (rest := [_, _, _, _]) rfl rfl rfl rfl ?_
  refine x_iload_n (pc' := 1) rfl rfl rfl ?_
  refine x_iload_n (pc' := 2) rfl rfl rfl ?_
  refine x_iload_n (pc' := 3) rfl rfl rfl ?_
  refine x_cs (ls0 := [_, _, _, sJk, sJk, sJk]) (rest := []) rfl rfl rfl rfl ?_
  refine x_getstatic (pc' := 3) rfl rfl (show 1 < sC t 28 from gst1 hc) ?_
  refine x_iconst (pc' := 4) rfl rfl ?_
  refine x_iload_n (pc' := 5) rfl rfl rfl ?_
  refine x_imul (pc' := 6) (z := 12) rfl rfl (by decide) ?_
  refine x_iload_n (pc' := 7) rfl rfl rfl ?_
  refine x_iadd (pc' := 8) (z := 12) rfl rfl (by decide) ?_
  refine x_iald (pc' := 9) (N := 15) (x := 5) rfl rfl rfl (Eq.trans rdNI (kN_28_1 hc)) (io_in (p := 12) (N := 15) (by decide) (by decide)) (Eq.trans (congrArg (sA (sIw t 811 0 0) 28 1) (nn_io (p := 12) (by decide))) (Eq.trans (b := sA t 28 1 12) rfl ((hc.2.2.2.2.2 12).2.trans rfl))) ?_
  refine x_istore_n (pc' := 10) (ls' := [_, _, _, _, _, _]) rfl rfl rfl rfl ?_
  refine x_iload_n (pc' := 11) rfl rfl rfl ?_
  refine x_bipush (pc' := 13) rfl rfl ?_
  refine x_icmp (a' := 20) (pc' := 16) (z := true) rfl rfl rfl (by decide) (fun _ => ?_) (fun h => by cases h)
  refine x_iload_n (pc' := 21) rfl rfl rfl ?_
  refine x_bipush (pc' := 23) rfl rfl ?_
  refine x_icmp (a' := 30) (pc' := 26) (z := true) rfl rfl rfl (by decide) (fun _ => ?_) (fun h => by cases h)
  refine x_iload_n (pc' := 31) rfl rfl rfl ?_
  refine x_if (a' := 38) (pc' := 34) (z := false) rfl rfl rfl (by decide) (fun h => by cases h) (fun _ => ?_)
  refine x_iconst (pc' := 35) rfl rfl ?_
  refine x_goto (pc' := 39) rfl rfl ?_
  refine x_istore (pc' := 41) (ls' := [_, _, _, _, _, _]) rfl rfl rfl rfl ?_
  refine x_iload (pc' := 43) rfl rfl rfl ?_
  refine x_iload_n (pc' := 44) rfl rfl rfl ?_
  refine x_isub (pc' := 45) (z := 1) rfl rfl (by decide) ?_
  refine x_istore (pc' := 47) (ls' := [_, _, _, _, _, _]) rfl rfl rfl rfl ?_
  refine x_iload (pc' := 49) rfl rfl rfl ?_
  refine x_if (a' := 56) (pc' := 52) (z := true) rfl rfl rfl (by decide) (fun _ => ?_) (fun h => by cases h)
  refine x_iload (pc' := 58) rfl rfl rfl ?_
  refine x_iconst (pc' := 59) rfl rfl ?_
  refine x_icmp (a' := 69) (pc' := 62) (z := true) rfl rfl rfl (by decide) (fun _ => ?_) (fun h => by cases h)
  refine x_iload (pc' := 71) rfl rfl rfl ?_
  refine x_iconst (pc' := 72) rfl rfl ?_
  refine x_icmp (a' := 85) (pc' := 75) (z := true) rfl rfl rfl (by decide) (fun _ => ?_) (fun h => by cases h)
  refine x_iload_n (pc' := 86) rfl rfl rfl ?_
  refine x_bipush (pc' := 88) rfl rfl ?_
  refine x_irem (pc' := 89) (z := 5) rfl rfl (by decide) (by decide +kernel) ?_
  refine x_iconst (pc' := 90) rfl rfl ?_
  refine x_isub (pc' := 91) (z := 4) rfl rfl (by decide) ?_
  refine x_reti rfl rfl ?_
  refine sK_i (pc' := 6) rfl ?_
  refine x_istore_n (pc' := 7) (ls' := [_, _, _, _]) rfl rfl rfl rfl ?_
  refine x_iload_n (pc' := 8) rfl rfl rfl ?_
  refine x_iconst (pc' := 9) rfl rfl ?_
  refine x_icmp (a' := 31) (pc' := 12) (z := true) rfl rfl rfl (by decide) (fun _ => ?_) (fun h => by cases h)
  refine x_iload_n (pc' := 32) rfl rfl rfl ?_
  refine x_iconst (pc' := 33) rfl rfl ?_
  refine x_icmp (a' := 45) (pc' := 36) (z := true) rfl rfl rfl (by decide) (fun _ => ?_) (fun h => by cases h)
  refine x_iconst (pc' := 46) rfl rfl ?_
  refine x_retz (z := false) rfl rfl ?_
  refine sK_i (pc' := 69) rfl ?_
  refine x_iload_n (pc' := 70) rfl rfl rfl ?_
  have J25 : X 159 78 [.inr (.inr (12, (some 0))), .inl 4, .inl (bz s), .inl 0, .inl 1, .inl 0, .inl 4] [.inl (bz (!(xor false s))), .inl 4, .inr (.inr (12, (some 0))), .inl 0, .inr (.inr (21, (some 27)))] (sIw t 811 0 0) Q := by
    refine x_cv (ls0 := [_, _, _, sJk, sJk, sJk]) (rest := [_, _]) rfl rfl rfl rfl rfl ?_
    refine r153 (b := 4) (s := (!(xor false s))) ((rp_Ic rfl).trans hM) (Cn_cp (cp_I rfl) hc) (Fr.ri (Fr.refl _) hR) (show 4 < 5 by decide) (fun b1 => ?_)
    refine sK_i (pc' := 81) rfl ?_
    refine x_iast (pc' := 82) (N := 200) (p := 0) rfl rfl rfl (Eq.trans rdNI (kN_21_27 hc)) (io_in (p := 0) (N := 200) (by decide) (by decide)) (nn_io (p := 0) (by decide)) ?_
    refine x_aload_n (pc' := 83) rfl rfl rfl rfl rfl ?_
    refine x_gR (pc' := 86) (r := (some 0)) rfl rfl rfl (Eq.trans (b := sR t 769 0) rfl (kR_769_0 hc)) ?_
    refine x_iload (pc' := 88) rfl rfl rfl ?_
    refine x_iald (pc' := 89) (N := 5) (x := (mA M 0 4)) rfl rfl rfl (Eq.trans rdNA (Eq.trans rdNI (kN_21_0 hc))) (io_in (p := 4) (N := 5) (by decide) (by decide)) (Eq.trans (congrArg (sA (sAw (sIw t 811 0 0) 21 27 0 (ov (bsF M n 4 (!(xor false s))))) 21 0) (nn_io (p := 4) (by decide))) (Eq.trans (b := sA t 21 0 4) rfl (gA hM rfl))) ?_
    refine x_iconst (pc' := 90) rfl rfl ?_
    have J28 : X 159 111 [.inr (.inr (12, (some 0))), .inl 4, .inl (bz s), .inl 0, .inl 1, .inl 0, .inl 4] [.inl (bz ((decide ((mA M 0 4) = 2)) && (!((bsF M n 4 (!(xor false s))).isNone))))] (sAw (sIw t 811 0 0) 21 27 0 (ov (bsF M n 4 (!(xor false s))))) Q := by
      refine x_istore (pc' := 113) (ls' := [_, _, _, _, _, _, _]) rfl rfl rfl rfl ?_
      refine x_aload_n (pc' := 114) rfl rfl rfl rfl rfl ?_
      refine x_dup (pc' := 115) rfl rfl rfl ?_
      refine x_gI (pc' := 118) (x := 0) rfl rfl rfl (Eq.trans rdIA sI_s) ?_
      refine x_iconst (pc' := 119) rfl rfl ?_
      refine x_iadd (pc' := 120) (z := 1) rfl rfl (by decide) ?_
      refine x_pI (pc' := 123) rfl rfl rfl ?_
      refine x_iinc (pc' := 126) (y := 1) (ls' := [_, _, _, _, _, _, _]) rfl rfl rfl rfl rfl ?_
      refine x_goto (pc' := 25) rfl rfl ?_
      refine x_iload (pc' := 27) rfl rfl rfl ?_
      refine x_iconst (pc' := 28) rfl rfl ?_
      refine x_icmp (a' := 129) (pc' := 31) (z := false) rfl rfl rfl (by decide) (fun h => by cases h) (fun _ => ?_)
      refine x_iload (pc' := 33) rfl rfl rfl ?_
      have J44 : X 159 129 [.inr (.inr (12, (some 0))), .inl 4, .inl (bz s), .inl 0, .inl (bz ((decide ((mA M 0 4) = 2)) && (!((bsF M n 4 (!(xor false s))).isNone)))), .inl (bif ((decide ((mA M 0 4) = 2)) && (!((bsF M n 4 (!(xor false s))).isNone))) then 3 else 1), .inl (bif ((decide ((mA M 0 4) = 2)) && (!((bsF M n 4 (!(xor false s))).isNone))) then (-1) else 4)] [] (sIw (sAw (sIw t 811 0 0) 21 27 0 (ov (bsF M n 4 (!(xor false s))))) 811 0 1) Q := by
        refine x_iload (pc' := 131) rfl rfl rfl ?_
        refine x_retz (z := ((decide ((mA M 0 4) = 2)) && (!((bsF M n 4 (!(xor false s))).isNone)))) rfl rfl ?_
        exact qv (congrArg (fun z : Bool => (.inl (some (.inl (bz z))) : sRs)) lgF_1.symm) (q _ ((rp_Ic rfl).trans ((rp_As rfl).trans ((rp_Ic rfl).trans hM))) ((cp_I rfl).trans (cp_A.trans (cp_I rfl))) (fun L hL => by obtain ⟨l0, z0, h0, j0, rfl⟩ := lgF_i hL; cases lgF_nil h0; exact ⟨rfl, ov_io (an_n z0), trivial⟩))
      refine x_ifeq_z (a' := 129) (pc' := 36) (z := ((decide ((mA M 0 4) = 2)) && (!((bsF M n 4 (!(xor false s))).isNone)))) rfl rfl rfl (fun q31 => ?_) (fun q31 => ?_)
      · ((try rw [q31] at J44); (try rw [q31]); (try simp only [cd_t, cd_f, nt_t, nt_f, an_t, an_f, or_t, or_f] at J44); (try simp only [cd_t, cd_f, nt_t, nt_f, an_t, an_f, or_t, or_f]); exact J44)
      · refine x_iload_n (pc' := 37) rfl rfl rfl ?_
        refine x_iload_n (pc' := 38) rfl rfl rfl ?_
        refine x_iload (pc' := 40) rfl rfl rfl ?_
        refine x_cs (ls0 := [_, _, _, sJk, sJk, sJk]) (rest := []) rfl rfl rfl rfl ?_
        refine x_getstatic (pc' := 3) rfl rfl (show 1 < sC t 28 from gst1 hc) ?_
        refine x_iconst (pc' := 4) rfl rfl ?_
        refine x_iload_n (pc' := 5) rfl rfl rfl ?_
        refine x_imul (pc' := 6) (z := 12) rfl rfl (by decide) ?_
        refine x_iload_n (pc' := 7) rfl rfl rfl ?_
        refine x_iadd (pc' := 8) (z := 12) rfl rfl (by decide) ?_
        refine x_iald (pc' := 9) (N := 15) (x := 5) rfl rfl rfl (Eq.trans rdNI (Eq.trans rdNA (Eq.trans rdNI (kN_28_1 hc)))) (io_in (p := 12) (N := 15) (by decide) (by decide)) (Eq.trans (congrArg (sA (sIw (sAw (sIw t 811 0 0) 21 27 0 (ov (bsF M n 4 (!(xor false s))))) 811 0 1) 28 1) (nn_io (p := 12) (by decide))) (Eq.trans (b := sA t 28 1 12) rfl ((hc.2.2.2.2.2 12).2.trans rfl))) ?_
        refine x_istore_n (pc' := 10) (ls' := [_, _, _, _, _, _]) rfl rfl rfl rfl ?_
        refine x_iload_n (pc' := 11) rfl rfl rfl ?_
        refine x_bipush (pc' := 13) rfl rfl ?_
        refine x_icmp (a' := 20) (pc' := 16) (z := true) rfl rfl rfl (by decide) (fun _ => ?_) (fun h => by cases h)
        refine x_iload_n (pc' := 21) rfl rfl rfl ?_
        refine x_bipush (pc' := 23) rfl rfl ?_
        refine x_icmp (a' := 30) (pc' := 26) (z := true) rfl rfl rfl (by decide) (fun _ => ?_) (fun h => by cases h)
        refine x_iload_n (pc' := 31) rfl rfl rfl ?_
        refine x_if (a' := 38) (pc' := 34) (z := false) rfl rfl rfl (by decide) (fun h => by cases h) (fun _ => ?_)
        refine x_iconst (pc' := 35) rfl rfl ?_
        refine x_goto (pc' := 39) rfl rfl ?_
        refine x_istore (pc' := 41) (ls' := [_, _, _, _, _, _]) rfl rfl rfl rfl ?_
        refine x_iload (pc' := 43) rfl rfl rfl ?_
        refine x_iload_n (pc' := 44) rfl rfl rfl ?_
        refine x_isub (pc' := 45) (z := 0) rfl rfl (by decide) ?_
        refine x_istore (pc' := 47) (ls' := [_, _, _, _, _, _]) rfl rfl rfl rfl ?_
        refine x_iload (pc' := 49) rfl rfl rfl ?_
        refine x_if (a' := 56) (pc' := 52) (z := false) rfl rfl rfl (by decide) (fun h => by cases h) (fun _ => ?_)
        refine x_iconst (pc' := 53) rfl rfl ?_
        refine x_goto (pc' := 91) rfl rfl ?_
        refine x_reti rfl rfl ?_
        refine sK_i (pc' := 43) rfl ?_
        refine x_istore (pc' := 45) (ls' := [_, _, _, _, _, _, _]) rfl rfl rfl rfl ?_
        refine x_iload (pc' := 47) rfl rfl rfl ?_
        refine x_iconst (pc' := 48) rfl rfl ?_
        refine x_icmp (a' := 123) (pc' := 51) (z := true) rfl rfl rfl (by decide) (fun _ => ?_) (fun h => by cases h)
        refine x_iinc (pc' := 126) (y := 2) (ls' := [_, _, _, _, _, _, _]) rfl rfl rfl rfl rfl ?_
        refine x_goto (pc' := 25) rfl rfl ?_
        refine x_iload (pc' := 27) rfl rfl rfl ?_
        refine x_iconst (pc' := 28) rfl rfl ?_
        refine x_icmp (a' := 129) (pc' := 31) (z := false) rfl rfl rfl (by decide) (fun h => by cases h) (fun _ => ?_)
        refine x_iload (pc' := 33) rfl rfl rfl ?_
        refine x_ifeq_z (a' := 129) (pc' := 36) (z := ((decide ((mA M 0 4) = 2)) && (!((bsF M n 4 (!(xor false s))).isNone)))) rfl rfl rfl (fun h => zz_no q31 h) (fun _ => ?_)
        refine x_iload_n (pc' := 37) rfl rfl rfl ?_
        refine x_iload_n (pc' := 38) rfl rfl rfl ?_
        refine x_iload (pc' := 40) rfl rfl rfl ?_
        refine x_cs (ls0 := [_, _, _, sJk, sJk, sJk]) (rest := []) rfl rfl rfl rfl ?_
        refine x_getstatic (pc' := 3) rfl rfl (show 1 < sC t 28 from gst1 hc) ?_
        refine x_iconst (pc' := 4) rfl rfl ?_
        refine x_iload_n (pc' := 5) rfl rfl rfl ?_
        refine x_imul (pc' := 6) (z := 12) rfl rfl (by decide) ?_
        refine x_iload_n (pc' := 7) rfl rfl rfl ?_
        refine x_iadd (pc' := 8) (z := 12) rfl rfl (by decide) ?_
        refine x_iald (pc' := 9) (N := 15) (x := 5) rfl rfl rfl (Eq.trans rdNI (Eq.trans rdNA (Eq.trans rdNI (kN_28_1 hc)))) (io_in (p := 12) (N := 15) (by decide) (by decide)) (Eq.trans (congrArg (sA (sIw (sAw (sIw t 811 0 0) 21 27 0 (ov (bsF M n 4 (!(xor false s))))) 811 0 1) 28 1) (nn_io (p := 12) (by decide))) (Eq.trans (b := sA t 28 1 12) rfl ((hc.2.2.2.2.2 12).2.trans rfl))) ?_
        refine x_istore_n (pc' := 10) (ls' := [_, _, _, _, _, _]) rfl rfl rfl rfl ?_
        refine x_iload_n (pc' := 11) rfl rfl rfl ?_
        refine x_bipush (pc' := 13) rfl rfl ?_
        refine x_icmp (a' := 20) (pc' := 16) (z := true) rfl rfl rfl (by decide) (fun _ => ?_) (fun h => by cases h)
        refine x_iload_n (pc' := 21) rfl rfl rfl ?_
        refine x_bipush (pc' := 23) rfl rfl ?_
        refine x_icmp (a' := 30) (pc' := 26) (z := true) rfl rfl rfl (by decide) (fun _ => ?_) (fun h => by cases h)
        refine x_iload_n (pc' := 31) rfl rfl rfl ?_
        refine x_if (a' := 38) (pc' := 34) (z := false) rfl rfl rfl (by decide) (fun h => by cases h) (fun _ => ?_)
        refine x_iconst (pc' := 35) rfl rfl ?_
        refine x_goto (pc' := 39) rfl rfl ?_
        refine x_istore (pc' := 41) (ls' := [_, _, _, _, _, _]) rfl rfl rfl rfl ?_
        refine x_iload (pc' := 43) rfl rfl rfl ?_
        refine x_iload_n (pc' := 44) rfl rfl rfl ?_
        refine x_isub (pc' := 45) (z := (-1)) rfl rfl (by decide) ?_
        refine x_istore (pc' := 47) (ls' := [_, _, _, _, _, _]) rfl rfl rfl rfl ?_
        refine x_iload (pc' := 49) rfl rfl rfl ?_
        refine x_if (a' := 56) (pc' := 52) (z := false) rfl rfl rfl (by decide) (fun h => by cases h) (fun _ => ?_)
        refine x_iconst (pc' := 53) rfl rfl ?_
        refine x_goto (pc' := 91) rfl rfl ?_
        refine x_reti rfl rfl ?_
        refine sK_i (pc' := 43) rfl ?_
        refine x_istore (pc' := 45) (ls' := [_, _, _, _, _, _, _]) rfl rfl rfl rfl ?_
        refine x_iload (pc' := 47) rfl rfl rfl ?_
        refine x_iconst (pc' := 48) rfl rfl ?_
        refine x_icmp (a' := 123) (pc' := 51) (z := true) rfl rfl rfl (by decide) (fun _ => ?_) (fun h => by cases h)
        refine x_iinc (pc' := 126) (y := 3) (ls' := [_, _, _, _, _, _, _]) rfl rfl rfl rfl rfl ?_
        refine x_goto (pc' := 25) rfl rfl ?_
        refine x_iload (pc' := 27) rfl rfl rfl ?_
        refine x_iconst (pc' := 28) rfl rfl ?_
        refine x_icmp (a' := 129) (pc' := 31) (z := true) rfl rfl rfl (by decide) (fun _ => ?_) (fun h => by cases h)
        ((try rw [q31] at J44); (try rw [q31]); (try simp only [cd_t, cd_f, nt_t, nt_f, an_t, an_f, or_t, or_f] at J44); (try simp only [cd_t, cd_f, nt_t, nt_f, an_t, an_f, or_t, or_f]); exact J44)
    refine x_icmp_n (a' := 110) (pc' := 93) (z := decide ((mA M 0 4) = 2)) rfl rfl rfl (ik_ne _ _) (fun q27 => ?_) (fun q27 => ?_)
    · refine x_iconst (pc' := 111) rfl rfl ?_
      ((try rw [q27] at J28); (try rw [q27]); (try simp only [cd_t, cd_f, nt_t, nt_f, an_t, an_f, or_t, or_f] at J28); (try simp only [cd_t, cd_f, nt_t, nt_f, an_t, an_f, or_t, or_f]); exact J28)
    · refine x_aload_n (pc' := 94) rfl rfl rfl rfl rfl ?_
      refine x_gR (pc' := 97) (r := (some 27)) rfl rfl rfl (Eq.trans (b := sR t 809 0) rfl (kR_809_0 hc)) ?_
      refine x_aload_n (pc' := 98) rfl rfl rfl rfl rfl ?_
      refine x_gI (pc' := 101) (x := 0) rfl rfl rfl (Eq.trans rdIA sI_s) ?_
      refine x_iald (pc' := 102) (N := 200) (x := (ov (bsF M n 4 (!(xor false s))))) rfl rfl rfl (Eq.trans rdNA (Eq.trans rdNI (kN_21_27 hc))) (io_in (p := 0) (N := 200) (by decide) (by decide)) (Eq.trans (congrArg (sA (sAw (sIw t 811 0 0) 21 27 0 (ov (bsF M n 4 (!(xor false s))))) 21 27) (nn_io (p := 0) (by decide))) sA_s) ?_
      refine x_iconst (pc' := 103) rfl rfl ?_
      refine x_icmp (a' := 110) (pc' := 106) (z := (bsF M n 4 (!(xor false s))).isNone) rfl rfl rfl (ov_eq (ov_31 (N := n) b1 (Nat.le_of_lt (gn31 hR)))) (fun q28 => ?_) (fun q28 => ?_)
      · refine x_iconst (pc' := 111) rfl rfl ?_
        ((try rw [q28] at J28); (try rw [q28]); (try rw [q27] at J28); (try rw [q27]); (try simp only [cd_t, cd_f, nt_t, nt_f, an_t, an_f, or_t, or_f] at J28); (try simp only [cd_t, cd_f, nt_t, nt_f, an_t, an_f, or_t, or_f]); exact J28)
      · refine x_iconst (pc' := 107) rfl rfl ?_
        refine x_goto (pc' := 111) rfl rfl ?_
        ((try rw [q28] at J28); (try rw [q28]); (try rw [q27] at J28); (try rw [q27]); (try simp only [cd_t, cd_f, nt_t, nt_f, an_t, an_f, or_t, or_f] at J28); (try simp only [cd_t, cd_f, nt_t, nt_f, an_t, an_f, or_t, or_f]); exact J28)
  refine x_icmp (a' := 77) (pc' := 73) (z := (xor false s)) rfl rfl rfl (bz_neb _ _) (fun q25 => ?_) (fun q25 => ?_)
  · refine x_iconst (pc' := 78) rfl rfl ?_
    ((try rw [q25] at J25); (try rw [q25]); (try simp only [cd_t, cd_f, nt_t, nt_f, an_t, an_f, or_t, or_f] at J25); (try simp only [cd_t, cd_f, nt_t, nt_f, an_t, an_f, or_t, or_f]); exact J25)
  · refine x_iconst (pc' := 74) rfl rfl ?_
    refine x_goto (pc' := 78) rfl rfl ?_
    ((try rw [q25] at J25); (try rw [q25]); (try simp only [cd_t, cd_f, nt_t, nt_f, an_t, an_f, or_t, or_f] at J25); (try simp only [cd_t, cd_f, nt_t, nt_f, an_t, an_f, or_t, or_f]); exact J25)
set_option maxHeartbeats 4000000 in
set_option maxRecDepth 10000 in
theorem r160_40 {t : sT} {Q : sRs → sT → Prop} {M : sM} {n : Nat} {o0 : Nat}
    (hM : rp t = M)
    (hc : Cn t)
    (hR : Ri M n)
    (ho0 : o0 < n)
    (hq : sI t 811 0 = 1)
    (hk0 : sA t 21 27 0 = io o0)
    (q : Q (.inl (some (.inl (prF M 4 0 [o0])))) t) :
    X 160 0 [.inr (.inr (12, (some 0))), .inl 4, .inl 0, sJk, sJk] [] t Q := by
  refine x_iload_n (pc' := 1) rfl rfl rfl ?_
  refine x_iconst (pc' := 2) rfl rfl ?_
  refine x_icmp (a' := 34) (pc' := 5) (z := false) rfl rfl rfl (by decide) (fun h => by cases h) (fun _ => ?_)
  refine x_iload_n (pc' := 6) rfl rfl rfl ?_
  refine x_iconst (pc' := 7) rfl rfl ?_
  refine x_icmp (a' := 34) (pc' := 10) (z := true) rfl rfl rfl (by decide) (fun _ => ?_) (fun h => by cases h)
  refine x_iconst (pc' := 35) rfl rfl ?_
  refine x_istore_n (pc' := 36) (ls' := [_, _, _, _, _]) rfl rfl rfl rfl ?_
  refine x_iconst (pc' := 37) rfl rfl ?_
  refine x_istore (pc' := 39) (ls' := [_, _, _, _, _]) rfl rfl rfl rfl ?_
  refine x_iload (pc' := 41) rfl rfl rfl ?_
  refine x_aload_n (pc' := 42) rfl rfl rfl rfl rfl ?_
  refine x_gI (pc' := 45) (x := 1) rfl rfl rfl hq ?_
  refine x_icmp (a' := 95) (pc' := 48) (z := false) rfl rfl rfl (by decide) (fun h => by cases h) (fun _ => ?_)
  refine x_iload_n (pc' := 49) rfl rfl rfl ?_
  refine x_iload_n (pc' := 50) rfl rfl rfl ?_
  refine x_iload_n (pc' := 51) rfl rfl rfl ?_
  refine x_iload (pc' := 53) rfl rfl rfl ?_
  refine x_cs (ls0 := [_, _, _, sJk]) (rest := [_]) rfl rfl rfl rfl ?_
  refine x_iload_n (pc' := 1) rfl rfl rfl ?_
  refine x_iload_n (pc' := 2) rfl rfl rfl ?_
  refine x_iload_n (pc' := 3) rfl rfl rfl ?_
  refine x_cs (ls0 := [_, _, _, sJk, sJk, sJk]) (rest := []) rfl rfl rfl rfl ?_
  refine x_getstatic (pc' := 3) rfl rfl (show 1 < sC t 28 from gst1 hc) ?_
  refine x_iconst (pc' := 4) rfl rfl ?_
  refine x_iload_n (pc' := 5) rfl rfl rfl ?_
  refine x_imul (pc' := 6) (z := 12) rfl rfl (by decide) ?_
  refine x_iload_n (pc' := 7) rfl rfl rfl ?_
  refine x_iadd (pc' := 8) (z := 12) rfl rfl (by decide) ?_
  refine x_iald (pc' := 9) (N := 15) (x := 5) rfl rfl rfl (kN_28_1 hc) (io_in (p := 12) (N := 15) (by decide) (by decide)) (Eq.trans (congrArg (sA t 28 1) (nn_io (p := 12) (by decide))) ((hc.2.2.2.2.2 12).2.trans rfl)) ?_
  refine x_istore_n (pc' := 10) (ls' := [_, _, _, _, _, _]) rfl rfl rfl rfl ?_
  refine x_iload_n (pc' := 11) rfl rfl rfl ?_
  refine x_bipush (pc' := 13) rfl rfl ?_
  refine x_icmp (a' := 20) (pc' := 16) (z := true) rfl rfl rfl (by decide) (fun _ => ?_) (fun h => by cases h)
  refine x_iload_n (pc' := 21) rfl rfl rfl ?_
  refine x_bipush (pc' := 23) rfl rfl ?_
  refine x_icmp (a' := 30) (pc' := 26) (z := true) rfl rfl rfl (by decide) (fun _ => ?_) (fun h => by cases h)
  refine x_iload_n (pc' := 31) rfl rfl rfl ?_
  refine x_if (a' := 38) (pc' := 34) (z := false) rfl rfl rfl (by decide) (fun h => by cases h) (fun _ => ?_)
  refine x_iconst (pc' := 35) rfl rfl ?_
  refine x_goto (pc' := 39) rfl rfl ?_
  refine x_istore (pc' := 41) (ls' := [_, _, _, _, _, _]) rfl rfl rfl rfl ?_
  refine x_iload (pc' := 43) rfl rfl rfl ?_
  refine x_iload_n (pc' := 44) rfl rfl rfl ?_
  refine x_isub (pc' := 45) (z := 1) rfl rfl (by decide) ?_
  refine x_istore (pc' := 47) (ls' := [_, _, _, _, _, _]) rfl rfl rfl rfl ?_
  refine x_iload (pc' := 49) rfl rfl rfl ?_
  refine x_if (a' := 56) (pc' := 52) (z := true) rfl rfl rfl (by decide) (fun _ => ?_) (fun h => by cases h)
  refine x_iload (pc' := 58) rfl rfl rfl ?_
  refine x_iconst (pc' := 59) rfl rfl ?_
  refine x_icmp (a' := 69) (pc' := 62) (z := true) rfl rfl rfl (by decide) (fun _ => ?_) (fun h => by cases h)
  refine x_iload (pc' := 71) rfl rfl rfl ?_
  refine x_iconst (pc' := 72) rfl rfl ?_
  refine x_icmp (a' := 85) (pc' := 75) (z := true) rfl rfl rfl (by decide) (fun _ => ?_) (fun h => by cases h)
  refine x_iload_n (pc' := 86) rfl rfl rfl ?_
  refine x_bipush (pc' := 88) rfl rfl ?_
  refine x_irem (pc' := 89) (z := 5) rfl rfl (by decide) (by decide +kernel) ?_
  refine x_iconst (pc' := 90) rfl rfl ?_
  refine x_isub (pc' := 91) (z := 4) rfl rfl (by decide) ?_
  refine x_reti rfl rfl ?_
  refine sK_i (pc' := 6) rfl ?_
  refine x_istore_n (pc' := 7) (ls' := [_, _, _, _]) rfl rfl rfl rfl ?_
  refine x_iload_n (pc' := 8) rfl rfl rfl ?_
  refine x_iconst (pc' := 9) rfl rfl ?_
  refine x_icmp (a' := 31) (pc' := 12) (z := true) rfl rfl rfl (by decide) (fun _ => ?_) (fun h => by cases h)
  refine x_iload_n (pc' := 32) rfl rfl rfl ?_
  refine x_iconst (pc' := 33) rfl rfl ?_
  refine x_icmp (a' := 45) (pc' := 36) (z := true) rfl rfl rfl (by decide) (fun _ => ?_) (fun h => by cases h)
  refine x_iconst (pc' := 46) rfl rfl ?_
  refine x_retz (z := false) rfl rfl ?_
  refine sK_i (pc' := 56) rfl ?_
  refine x_if (a' := 75) (pc' := 59) (z := true) rfl rfl rfl (by decide) (fun _ => ?_) (fun h => by cases h)
  refine x_aload_n (pc' := 76) rfl rfl rfl rfl rfl ?_
  refine x_gR (pc' := 79) (r := (some 14)) rfl rfl rfl (kR_790_0 hc) ?_
  refine x_aload_n (pc' := 80) rfl rfl rfl rfl rfl ?_
  refine x_gR (pc' := 83) (r := (some 27)) rfl rfl rfl (kR_809_0 hc) ?_
  refine x_iload (pc' := 85) rfl rfl rfl ?_
  refine x_iald (pc' := 86) (N := 200) (x := (io o0)) rfl rfl rfl (kN_21_27 hc) (io_in (p := 0) (N := 200) (by decide) (by decide)) (Eq.trans (congrArg (sA t 21 27) (nn_io (p := 0) (by decide))) hk0) ?_
  refine x_iald (pc' := 87) (N := 200) (x := (mA M 14 o0)) rfl rfl rfl (kN_21_14 hc) (io_in (p := o0) (N := 200) (Nat.lt_of_lt_of_le ho0 (gn200 hR)) (by decide)) (Eq.trans (congrArg (sA t 21 14) (nn_io (p := o0) (Nat.lt_trans (Nat.lt_of_lt_of_le ho0 (gn200 hR)) (by decide)))) (gF14 hM (Fr.refl _))) ?_
  refine x_iadd (pc' := 88) (z := (0 + (mA M 14 o0))) rfl rfl rfl ?_
  refine x_istore_n (pc' := 89) (ls' := [_, _, _, _, _]) rfl rfl rfl rfl ?_
  refine x_iinc (pc' := 92) (y := 1) (ls' := [_, _, _, _, _]) rfl rfl rfl rfl rfl ?_
  refine x_goto (pc' := 39) rfl rfl ?_
  refine x_iload (pc' := 41) rfl rfl rfl ?_
  refine x_aload_n (pc' := 42) rfl rfl rfl rfl rfl ?_
  refine x_gI (pc' := 45) (x := 1) rfl rfl rfl hq ?_
  refine x_icmp (a' := 95) (pc' := 48) (z := true) rfl rfl rfl (by decide) (fun _ => ?_) (fun h => by cases h)
  refine x_iload_n (pc' := 96) rfl rfl rfl ?_
  refine x_reti rfl rfl ?_
  exact q
-- (0 + (mA M 14 o0))
set_option maxHeartbeats 4000000 in
set_option maxRecDepth 10000 in
theorem r159_41 {t : sT} {Q : sRs → sT → Prop} {M : sM} {n : Nat} {s : Bool} (hM : rp t = M) (hc : Cn t) (hR : Ri M n)
    (q : ∀ t', rp t' = M → cp t' = cp t → (∀ L, lgO M n 4 s 1 = some L → Tk t' L) → Q (.inl (some (.inl (bz (lgO M n 4 s 1).isSome)))) t') :
    X 159 0 [.inr (.inr (12, (some 0))), .inl 4, .inl (bz s), .inl 1, sJk, sJk, sJk] [] t Q := by
  refine x_iload_n (pc' := 1) rfl rfl rfl ?_
  refine x_iload_n (pc' := 2) rfl rfl rfl ?_
  refine x_iconst (pc' := 3) rfl rfl ?_
  refine x_cs (ls0 := [_, _, _, sJk, sJk, sJk]) (rest := []) rfl rfl rfl rfl ?_
  refine x_getstatic (pc' := 3) rfl rfl (show 1 < sC t 28 from gst1 hc) ?_
  refine x_iconst (pc' := 4) rfl rfl ?_
  refine x_iload_n (pc' := 5) rfl rfl rfl ?_
  refine x_imul (pc' := 6) (z := 12) rfl rfl (by decide) ?_
  refine x_iload_n (pc' := 7) rfl rfl rfl ?_
  refine x_iadd (pc' := 8) (z := 13) rfl rfl (by decide) ?_
  refine x_iald (pc' := 9) (N := 15) (x := 23) rfl rfl rfl (kN_28_1 hc) (io_in (p := 13) (N := 15) (by decide) (by decide)) (Eq.trans (congrArg (sA t 28 1) (nn_io (p := 13) (by decide))) ((hc.2.2.2.2.2 13).2.trans rfl)) ?_
  refine x_istore_n (pc' := 10) (ls' := [_, _, _, _, _, _]) rfl rfl rfl rfl ?_
  refine x_iload_n (pc' := 11) rfl rfl rfl ?_
  refine x_bipush (pc' := 13) rfl rfl ?_
  refine x_icmp (a' := 20) (pc' := 16) (z := true) rfl rfl rfl (by decide) (fun _ => ?_) (fun h => by cases h)
  refine x_iload_n (pc' := 21) rfl rfl rfl ?_
  refine x_bipush (pc' := 23) rfl rfl ?_
  refine x_icmp (a' := 30) (pc' := 26) (z := false) rfl rfl rfl (by decide) (fun h => by cases h) (fun _ => ?_)
  refine x_iconst (pc' := 27) rfl rfl ?_
  refine x_goto (pc' := 39) rfl rfl ?_
  refine x_istore (pc' := 41) (ls' := [_, _, _, _, _, _]) rfl rfl rfl rfl ?_
  refine x_iload (pc' := 43) rfl rfl rfl ?_
  refine x_iload_n (pc' := 44) rfl rfl rfl ?_
  refine x_isub (pc' := 45) (z := 2) rfl rfl (by decide) ?_
  refine x_istore (pc' := 47) (ls' := [_, _, _, _, _, _]) rfl rfl rfl rfl ?_
  refine x_iload (pc' := 49) rfl rfl rfl ?_
  refine x_if (a' := 56) (pc' := 52) (z := true) rfl rfl rfl (by decide) (fun _ => ?_) (fun h => by cases h)
  refine x_iload (pc' := 58) rfl rfl rfl ?_
  refine x_iconst (pc' := 59) rfl rfl ?_
  refine x_icmp (a' := 69) (pc' := 62) (z := true) rfl rfl rfl (by decide) (fun _ => ?_) (fun h => by cases h)
  refine x_iload (pc' := 71) rfl rfl rfl ?_
  refine x_iconst (pc' := 72) rfl rfl ?_
  refine x_icmp (a' := 85) (pc' := 75) (z := false) rfl rfl rfl (by decide) (fun h => by cases h) (fun _ => ?_)
  refine x_iload_n (pc' := 76) rfl rfl rfl ?_
  refine x_bipush (pc' := 78) rfl rfl ?_
  refine x_idiv (pc' := 79) (z := 2) rfl rfl (by decide) (by decide +kernel) ?_
  refine x_bipush (pc' := 81) rfl rfl ?_
  refine x_irem (pc' := 82) (z := 2) rfl rfl (by decide) (by decide +kernel) ?_
  refine x_goto (pc' := 89) rfl rfl ?_
  refine x_iconst (pc' := 90) rfl rfl ?_
  refine x_isub (pc' := 91) (z := 1) rfl rfl (by decide) ?_
  refine x_reti rfl rfl ?_
  refine sK_i (pc' := 6) rfl ?_
  refine x_iconst (pc' := 7) rfl rfl ?_
  refine x_icmp (a' := 14) (pc' := 10) (z := false) rfl rfl rfl (by decide) (fun h => by cases h) (fun _ => ?_)
  refine x_iconst (pc' := 11) rfl rfl ?_
  refine x_goto (pc' := 15) rfl rfl ?_
  refine x_istore (pc' := 17) (ls' := [_, _, _, _, _, _, _]) rfl rfl rfl rfl ?_
  refine x_aload_n (pc' := 18) rfl rfl rfl rfl rfl ?_
  refine x_iconst (pc' := 19) rfl rfl ?_
  refine x_pI (pc' := 22) rfl rfl rfl ?_
  refine x_iconst (pc' := 23) rfl rfl ?_
  refine x_istore (pc' := 25) (ls' := [_, _, _, _, _, _, _]) rfl rfl rfl rfl ?_
  refine x_iload (pc' := 27) rfl rfl rfl ?_
  refine x_iconst (pc' := 28) rfl rfl ?_
  refine x_icmp (a' := 129) (pc' := 31) (z := false) rfl rfl rfl (by decide) (fun h => by cases h) (fun _ => ?_)
  refine x_iload (pc' := 33) rfl rfl rfl ?_
  refine x_if (a' := 129) (pc' := 36) (z := false) rfl rfl rfl (by decide) (fun h => by cases h) (fun _ => ?_)
  refine x_iload_n (pc' := 37) rfl rfl rfl ?_
  refine x_iload_n (pc' := 38) rfl rfl rfl ?_
  refine x_iload (pc' := 40) rfl rfl rfl ?_
  refine x_cs (ls0 := [_, _, _, sJk, sJk, sJk]) (rest := []) rfl rfl rfl rfl ?_
  refine x_getstatic (pc' := 3) rfl rfl (show 1 < sC t 28 from gst1 hc) ?_
  refine x_iconst (pc' := 4) rfl rfl ?_
  refine x_iload_n (pc' := 5) rfl rfl rfl ?_
  refine x_imul (pc' := 6) (z := 12) rfl rfl (by decide) ?_
  refine x_iload_n (pc' := 7) rfl rfl rfl ?_
  refine x_iadd (pc' := 8) (z := 13) rfl rfl (by decide) ?_
  refine x_iald (pc' := 9) (N := 15) (x := 23) rfl rfl rfl (Eq.trans rdNI (kN_28_1 hc)) (io_in (p := 13) (N := 15) (by decide) (by decide)) (Eq.trans (congrArg (sA (sIw t 811 0 0) 28 1) (nn_io (p := 13) (by decide))) (Eq.trans (b := sA t 28 1 13) rfl ((hc.2.2.2.2.2 13).2.trans rfl))) ?_
  refine x_istore_n (pc' := 10) (ls' := [_, _, _, _, _, _]) rfl rfl rfl rfl ?_
  refine x_iload_n (pc' := 11) rfl rfl rfl ?_
  refine x_bipush (pc' := 13) rfl rfl ?_
  refine x_icmp (a' := 20) (pc' := 16) (z := true) rfl rfl rfl (by decide) (fun _ => ?_) (fun h => by cases h)
  refine x_iload_n (pc' := 21) rfl rfl rfl ?_
  refine x_bipush (pc' := 23) rfl rfl ?_
  refine x_icmp (a' := 30) (pc' := 26) (z := false) rfl rfl rfl (by decide) (fun h => by cases h) (fun _ => ?_)
  refine x_iconst (pc' := 27) rfl rfl ?_
  refine x_goto (pc' := 39) rfl rfl ?_
  refine x_istore (pc' := 41) (ls' := [_, _, _, _, _, _]) rfl rfl rfl rfl ?_
  refine x_iload (pc' := 43) rfl rfl rfl ?_
  refine x_iload_n (pc' := 44) rfl rfl rfl ?_
  refine x_isub (pc' := 45) (z := 2) rfl rfl (by decide) ?_
  refine x_istore (pc' := 47) (ls' := [_, _, _, _, _, _]) rfl rfl rfl rfl ?_
  refine x_iload (pc' := 49) rfl rfl rfl ?_
  refine x_if (a' := 56) (pc' := 52) (z := true) rfl rfl rfl (by decide) (fun _ => ?_) (fun h => by cases h)
  refine x_iload (pc' := 58) rfl rfl rfl ?_
  refine x_iconst (pc' := 59) rfl rfl ?_
  refine x_icmp (a' := 69) (pc' := 62) (z := true) rfl rfl rfl (by decide) (fun _ => ?_) (fun h => by cases h)
  refine x_iload (pc' := 71) rfl rfl rfl ?_
  refine x_iconst (pc' := 72) rfl rfl ?_
  refine x_icmp (a' := 85) (pc' := 75) (z := false) rfl rfl rfl (by decide) (fun h => by cases h) (fun _ => ?_)
  refine x_iload_n (pc' := 76) rfl rfl rfl ?_
  refine x_bipush (pc' := 78) rfl rfl ?_
  refine x_idiv (pc' := 79) (z := 2) rfl rfl (by decide) (by decide +kernel) ?_
  refine x_bipush (pc' := 81) rfl rfl ?_
  refine x_irem (pc' := 82) (z := 2) rfl rfl (by decide) (by decide +kernel) ?_
  refine x_goto (pc' := 89) rfl rfl ?_
  refine x_iconst (pc' := 90) rfl rfl ?_
  refine x_isub (pc' := 91) (z := 1) rfl rfl (by decide) ?_
  refine x_reti rfl rfl ?_
  refine sK_i (pc' := 43) rfl ?_
  refine x_istore (pc' := 45) (ls' := [_, _, _, _, _, _, _]) rfl rfl rfl rfl ?_
  refine x_iload (pc' := 47) rfl rfl rfl ?_
  refine x_iconst (pc' := 48) rfl rfl ?_
  refine x_icmp (a' := 123) (pc' := 51) (z := false) rfl rfl rfl (by decide) (fun h => by cases h) (fun _ => ?_)
  refine x_aload_n (pc' := 52) rfl rfl rfl rfl rfl ?_
  refine x_gR (pc' := 55) (r := (some 27)) rfl rfl rfl (Eq.trans (b := sR t 809 0) rfl (kR_809_0 hc)) ?_
  refine x_aload_n (pc' := 56) rfl rfl rfl rfl rfl ?_
  refine x_gI (pc' := 59) (x := 0) rfl rfl rfl sI_s ?_
  refine x_aload_n (pc' := 60) rfl rfl rfl rfl rfl ?_
  refine x_iload (pc' := 62) rfl rfl rfl ?_
  refine x_iload_n (pc' := 63) rfl rfl rfl ?_
  refine x_iload_n (pc' := 64) rfl rfl rfl ?_
  refine x_iload (pc' := 66) rfl rfl rfl ?_
  refine x_cs (ls0 := [_, _, _, sJk]) (rest := [_, _, _, _]) rfl rfl rfl rfl ?_
  refine x_iload_n (pc' := 1) rfl rfl rfl ?_
  refine x_iload_n (pc' := 2) rfl rfl rfl ?_
  refine x_iload_n (pc' := 3) rfl rfl rfl ?_
  refine x_cs (ls0 := [_, _, _, sJk, sJk, sJk]) (rest := []) rfl rfl rfl rfl ?_
  refine x_getstatic (pc' := 3) rfl rfl (show 1 < sC t 28 from gst1 hc) ?_
  refine x_iconst (pc' := 4) rfl rfl ?_
  refine x_iload_n (pc' := 5) rfl rfl rfl ?_
  refine x_imul (pc' := 6) (z := 12) rfl rfl (by decide) ?_
  refine x_iload_n (pc' := 7) rfl rfl rfl ?_
  refine x_iadd (pc' := 8) (z := 13) rfl rfl (by decide) ?_
  refine x_iald (pc' := 9) (N := 15) (x := 23) rfl rfl rfl (Eq.trans rdNI (kN_28_1 hc)) (io_in (p := 13) (N := 15) (by decide) (by decide)) (Eq.trans (congrArg (sA (sIw t 811 0 0) 28 1) (nn_io (p := 13) (by decide))) (Eq.trans (b := sA t 28 1 13) rfl ((hc.2.2.2.2.2 13).2.trans rfl))) ?_
  refine x_istore_n (pc' := 10) (ls' := [_, _, _, _, _, _]) rfl rfl rfl rfl ?_
  refine x_iload_n (pc' := 11) rfl rfl rfl ?_
  refine x_bipush (pc' := 13) rfl rfl ?_
  refine x_icmp (a' := 20) (pc' := 16) (z := true) rfl rfl rfl (by decide) (fun _ => ?_) (fun h => by cases h)
  refine x_iload_n (pc' := 21) rfl rfl rfl ?_
  refine x_bipush (pc' := 23) rfl rfl ?_
  refine x_icmp (a' := 30) (pc' := 26) (z := false) rfl rfl rfl (by decide) (fun h => by cases h) (fun _ => ?_)
  refine x_iconst (pc' := 27) rfl rfl ?_
  refine x_goto (pc' := 39) rfl rfl ?_
  refine x_istore (pc' := 41) (ls' := [_, _, _, _, _, _]) rfl rfl rfl rfl ?_
  refine x_iload (pc' := 43) rfl rfl rfl ?_
  refine x_iload_n (pc' := 44) rfl rfl rfl ?_
  refine x_isub (pc' := 45) (z := 2) rfl rfl (by decide) ?_
  refine x_istore (pc' := 47) (ls' := [_, _, _, _, _, _]) rfl rfl rfl rfl ?_
  refine x_iload (pc' := 49) rfl rfl rfl ?_
  refine x_if (a' := 56) (pc' := 52) (z := true) rfl rfl rfl (by decide) (fun _ => ?_) (fun h => by cases h)
  refine x_iload (pc' := 58) rfl rfl rfl ?_
  refine x_iconst (pc' := 59) rfl rfl ?_
  refine x_icmp (a' := 69) (pc' := 62) (z := true) rfl rfl rfl (by decide) (fun _ => ?_) (fun h => by cases h)
  refine x_iload (pc' := 71) rfl rfl rfl ?_
  refine x_iconst (pc' := 72) rfl rfl ?_
  refine x_icmp (a' := 85) (pc' := 75) (z := false) rfl rfl rfl (by decide) (fun h => by cases h) (fun _ => ?_)
  refine x_iload_n (pc' := 76) rfl rfl rfl ?_
  refine x_bipush (pc' := 78) rfl rfl ?_
  refine x_idiv (pc' := 79) (z := 2) rfl rfl (by decide) (by decide +kernel) ?_
  refine x_bipush (pc' := 81) rfl rfl ?_
  refine x_irem (pc' := 82) (z := 2) rfl rfl (by decide) (by decide +kernel) ?_
  refine x_goto (pc' := 89) rfl rfl ?_
  refine x_iconst (pc' := 90) rfl rfl ?_
  refine x_isub (pc' := 91) (z := 1) rfl rfl (by decide) ?_
  refine x_reti rfl rfl ?_
  refine sK_i (pc' := 6) rfl ?_
  refine x_istore_n (pc' := 7) (ls' := [_, _, _, _]) rfl rfl rfl rfl ?_
  refine x_iload_n (pc' := 8) rfl rfl rfl ?_
  refine x_iconst (pc' := 9) rfl rfl ?_
  refine x_icmp (a' := 31) (pc' := 12) (z := true) rfl rfl rfl (by decide) (fun _ => ?_) (fun h => by cases h)
  refine x_iload_n (pc' := 32) rfl rfl rfl ?_
  refine x_iconst (pc' := 33) rfl rfl ?_
  refine x_icmp (a' := 45) (pc' := 36) (z := false) rfl rfl rfl (by decide) (fun h => by cases h) (fun _ => ?_)
  refine x_iload_n (pc' := 37) rfl rfl rfl ?_
  refine x_iconst (pc' := 38) rfl rfl ?_
  refine x_icmp (a' := 45) (pc' := 41) (z := true) rfl rfl rfl (by decide) (fun _ => ?_) (fun h => by cases h)
  refine x_iconst (pc' := 46) rfl rfl ?_
  refine x_retz (z := false) rfl rfl ?_
  refine sK_i (pc' := 69) rfl ?_
  refine x_iload_n (pc' := 70) rfl rfl rfl ?_
  have J23 : X 159 78 [.inr (.inr (12, (some 0))), .inl 4, .inl (bz s), .inl 1, .inl 1, .inl 0, .inl 1] [.inl (bz (!(xor false s))), .inl 1, .inr (.inr (12, (some 0))), .inl 0, .inr (.inr (21, (some 27)))] (sIw t 811 0 0) Q := by
    refine x_cv (ls0 := [_, _, _, sJk, sJk, sJk]) (rest := [_, _]) rfl rfl rfl rfl rfl ?_
    refine r153 (b := 1) (s := (!(xor false s))) ((rp_Ic rfl).trans hM) (Cn_cp (cp_I rfl) hc) (Fr.ri (Fr.refl _) hR) (show 1 < 5 by decide) (fun b1 => ?_)
    refine sK_i (pc' := 81) rfl ?_
    refine x_iast (pc' := 82) (N := 200) (p := 0) rfl rfl rfl (Eq.trans rdNI (kN_21_27 hc)) (io_in (p := 0) (N := 200) (by decide) (by decide)) (nn_io (p := 0) (by decide)) ?_
    refine x_aload_n (pc' := 83) rfl rfl rfl rfl rfl ?_
    refine x_gR (pc' := 86) (r := (some 0)) rfl rfl rfl (Eq.trans (b := sR t 769 0) rfl (kR_769_0 hc)) ?_
    refine x_iload (pc' := 88) rfl rfl rfl ?_
    refine x_iald (pc' := 89) (N := 5) (x := (mA M 0 1)) rfl rfl rfl (Eq.trans rdNA (Eq.trans rdNI (kN_21_0 hc))) (io_in (p := 1) (N := 5) (by decide) (by decide)) (Eq.trans (congrArg (sA (sAw (sIw t 811 0 0) 21 27 0 (ov (bsF M n 1 (!(xor false s))))) 21 0) (nn_io (p := 1) (by decide))) (Eq.trans (b := sA t 21 0 1) rfl (gA hM rfl))) ?_
    refine x_iconst (pc' := 90) rfl rfl ?_
    have J26 : X 159 111 [.inr (.inr (12, (some 0))), .inl 4, .inl (bz s), .inl 1, .inl 1, .inl 0, .inl 1] [.inl (bz ((decide ((mA M 0 1) = 2)) && (!((bsF M n 1 (!(xor false s))).isNone))))] (sAw (sIw t 811 0 0) 21 27 0 (ov (bsF M n 1 (!(xor false s))))) Q := by
      refine x_istore (pc' := 113) (ls' := [_, _, _, _, _, _, _]) rfl rfl rfl rfl ?_
      refine x_aload_n (pc' := 114) rfl rfl rfl rfl rfl ?_
      refine x_dup (pc' := 115) rfl rfl rfl ?_
      refine x_gI (pc' := 118) (x := 0) rfl rfl rfl (Eq.trans rdIA sI_s) ?_
      refine x_iconst (pc' := 119) rfl rfl ?_
      refine x_iadd (pc' := 120) (z := 1) rfl rfl (by decide) ?_
      refine x_pI (pc' := 123) rfl rfl rfl ?_
      refine x_iinc (pc' := 126) (y := 1) (ls' := [_, _, _, _, _, _, _]) rfl rfl rfl rfl rfl ?_
      refine x_goto (pc' := 25) rfl rfl ?_
      refine x_iload (pc' := 27) rfl rfl rfl ?_
      refine x_iconst (pc' := 28) rfl rfl ?_
      refine x_icmp (a' := 129) (pc' := 31) (z := false) rfl rfl rfl (by decide) (fun h => by cases h) (fun _ => ?_)
      refine x_iload (pc' := 33) rfl rfl rfl ?_
      refine x_ifeq_z (a' := 129) (pc' := 36) (z := ((decide ((mA M 0 1) = 2)) && (!((bsF M n 1 (!(xor false s))).isNone)))) rfl rfl rfl (fun q29 => ?_) (fun q29 => ?_)
      · refine x_iload (pc' := 131) rfl rfl rfl ?_
        refine x_retz (z := ((decide ((mA M 0 1) = 2)) && (!((bsF M n 1 (!(xor false s))).isNone)))) rfl rfl ?_
        exact qv (congrArg (fun z : Bool => (.inl (some (.inl (bz z))) : sRs)) (Eq.trans (lgF_n q29) q29.symm).symm) (q _ ((rp_Ic rfl).trans ((rp_As rfl).trans ((rp_Ic rfl).trans hM))) ((cp_I rfl).trans (cp_A.trans (cp_I rfl))) (fun L hL => by obtain ⟨l0, z0, h0, j0, rfl⟩ := lgF_i hL; exact zz_no z0 q29))
      · refine x_iload_n (pc' := 37) rfl rfl rfl ?_
        refine x_iload_n (pc' := 38) rfl rfl rfl ?_
        refine x_iload (pc' := 40) rfl rfl rfl ?_
        refine x_cs (ls0 := [_, _, _, sJk, sJk, sJk]) (rest := []) rfl rfl rfl rfl ?_
        refine x_getstatic (pc' := 3) rfl rfl (show 1 < sC t 28 from gst1 hc) ?_
        refine x_iconst (pc' := 4) rfl rfl ?_
        refine x_iload_n (pc' := 5) rfl rfl rfl ?_
        refine x_imul (pc' := 6) (z := 12) rfl rfl (by decide) ?_
        refine x_iload_n (pc' := 7) rfl rfl rfl ?_
        refine x_iadd (pc' := 8) (z := 13) rfl rfl (by decide) ?_
        refine x_iald (pc' := 9) (N := 15) (x := 23) rfl rfl rfl (Eq.trans rdNI (Eq.trans rdNA (Eq.trans rdNI (kN_28_1 hc)))) (io_in (p := 13) (N := 15) (by decide) (by decide)) (Eq.trans (congrArg (sA (sIw (sAw (sIw t 811 0 0) 21 27 0 (ov (bsF M n 1 (!(xor false s))))) 811 0 1) 28 1) (nn_io (p := 13) (by decide))) (Eq.trans (b := sA t 28 1 13) rfl ((hc.2.2.2.2.2 13).2.trans rfl))) ?_
        refine x_istore_n (pc' := 10) (ls' := [_, _, _, _, _, _]) rfl rfl rfl rfl ?_
        refine x_iload_n (pc' := 11) rfl rfl rfl ?_
        refine x_bipush (pc' := 13) rfl rfl ?_
        refine x_icmp (a' := 20) (pc' := 16) (z := true) rfl rfl rfl (by decide) (fun _ => ?_) (fun h => by cases h)
        refine x_iload_n (pc' := 21) rfl rfl rfl ?_
        refine x_bipush (pc' := 23) rfl rfl ?_
        refine x_icmp (a' := 30) (pc' := 26) (z := false) rfl rfl rfl (by decide) (fun h => by cases h) (fun _ => ?_)
        refine x_iconst (pc' := 27) rfl rfl ?_
        refine x_goto (pc' := 39) rfl rfl ?_
        refine x_istore (pc' := 41) (ls' := [_, _, _, _, _, _]) rfl rfl rfl rfl ?_
        refine x_iload (pc' := 43) rfl rfl rfl ?_
        refine x_iload_n (pc' := 44) rfl rfl rfl ?_
        refine x_isub (pc' := 45) (z := 1) rfl rfl (by decide) ?_
        refine x_istore (pc' := 47) (ls' := [_, _, _, _, _, _]) rfl rfl rfl rfl ?_
        refine x_iload (pc' := 49) rfl rfl rfl ?_
        refine x_if (a' := 56) (pc' := 52) (z := true) rfl rfl rfl (by decide) (fun _ => ?_) (fun h => by cases h)
        refine x_iload (pc' := 58) rfl rfl rfl ?_
        refine x_iconst (pc' := 59) rfl rfl ?_
        refine x_icmp (a' := 69) (pc' := 62) (z := true) rfl rfl rfl (by decide) (fun _ => ?_) (fun h => by cases h)
        refine x_iload (pc' := 71) rfl rfl rfl ?_
        refine x_iconst (pc' := 72) rfl rfl ?_
        refine x_icmp (a' := 85) (pc' := 75) (z := true) rfl rfl rfl (by decide) (fun _ => ?_) (fun h => by cases h)
        refine x_iload_n (pc' := 86) rfl rfl rfl ?_
        refine x_bipush (pc' := 88) rfl rfl ?_
        refine x_irem (pc' := 89) (z := 3) rfl rfl (by decide) (by decide +kernel) ?_
        refine x_iconst (pc' := 90) rfl rfl ?_
        refine x_isub (pc' := 91) (z := 2) rfl rfl (by decide) ?_
        refine x_reti rfl rfl ?_
        refine sK_i (pc' := 43) rfl ?_
        refine x_istore (pc' := 45) (ls' := [_, _, _, _, _, _, _]) rfl rfl rfl rfl ?_
        refine x_iload (pc' := 47) rfl rfl rfl ?_
        refine x_iconst (pc' := 48) rfl rfl ?_
        refine x_icmp (a' := 123) (pc' := 51) (z := false) rfl rfl rfl (by decide) (fun h => by cases h) (fun _ => ?_)
        refine x_aload_n (pc' := 52) rfl rfl rfl rfl rfl ?_
        refine x_gR (pc' := 55) (r := (some 27)) rfl rfl rfl (Eq.trans (b := sR t 809 0) rfl (kR_809_0 hc)) ?_
        refine x_aload_n (pc' := 56) rfl rfl rfl rfl rfl ?_
        refine x_gI (pc' := 59) (x := 1) rfl rfl rfl sI_s ?_
        refine x_aload_n (pc' := 60) rfl rfl rfl rfl rfl ?_
        refine x_iload (pc' := 62) rfl rfl rfl ?_
        refine x_iload_n (pc' := 63) rfl rfl rfl ?_
        refine x_iload_n (pc' := 64) rfl rfl rfl ?_
        refine x_iload (pc' := 66) rfl rfl rfl ?_
        refine x_cs (ls0 := [_, _, _, sJk]) (rest := [_, _, _, _]) rfl rfl rfl rfl ?_
        refine x_iload_n (pc' := 1) rfl rfl rfl ?_
        refine x_iload_n (pc' := 2) rfl rfl rfl ?_
        refine x_iload_n (pc' := 3) rfl rfl rfl ?_
        refine x_cs (ls0 := [_, _, _, sJk, sJk, sJk]) (rest := []) rfl rfl rfl rfl ?_
        refine x_getstatic (pc' := 3) rfl rfl (show 1 < sC t 28 from gst1 hc) ?_
        refine x_iconst (pc' := 4) rfl rfl ?_
        refine x_iload_n (pc' := 5) rfl rfl rfl ?_
        refine x_imul (pc' := 6) (z := 12) rfl rfl (by decide) ?_
        refine x_iload_n (pc' := 7) rfl rfl rfl ?_
        refine x_iadd (pc' := 8) (z := 13) rfl rfl (by decide) ?_
        refine x_iald (pc' := 9) (N := 15) (x := 23) rfl rfl rfl (Eq.trans rdNI (Eq.trans rdNA (Eq.trans rdNI (kN_28_1 hc)))) (io_in (p := 13) (N := 15) (by decide) (by decide)) (Eq.trans (congrArg (sA (sIw (sAw (sIw t 811 0 0) 21 27 0 (ov (bsF M n 1 (!(xor false s))))) 811 0 1) 28 1) (nn_io (p := 13) (by decide))) (Eq.trans (b := sA t 28 1 13) rfl ((hc.2.2.2.2.2 13).2.trans rfl))) ?_
        refine x_istore_n (pc' := 10) (ls' := [_, _, _, _, _, _]) rfl rfl rfl rfl ?_
        refine x_iload_n (pc' := 11) rfl rfl rfl ?_
        refine x_bipush (pc' := 13) rfl rfl ?_
        refine x_icmp (a' := 20) (pc' := 16) (z := true) rfl rfl rfl (by decide) (fun _ => ?_) (fun h => by cases h)
        refine x_iload_n (pc' := 21) rfl rfl rfl ?_
        refine x_bipush (pc' := 23) rfl rfl ?_
        refine x_icmp (a' := 30) (pc' := 26) (z := false) rfl rfl rfl (by decide) (fun h => by cases h) (fun _ => ?_)
        refine x_iconst (pc' := 27) rfl rfl ?_
        refine x_goto (pc' := 39) rfl rfl ?_
        refine x_istore (pc' := 41) (ls' := [_, _, _, _, _, _]) rfl rfl rfl rfl ?_
        refine x_iload (pc' := 43) rfl rfl rfl ?_
        refine x_iload_n (pc' := 44) rfl rfl rfl ?_
        refine x_isub (pc' := 45) (z := 1) rfl rfl (by decide) ?_
        refine x_istore (pc' := 47) (ls' := [_, _, _, _, _, _]) rfl rfl rfl rfl ?_
        refine x_iload (pc' := 49) rfl rfl rfl ?_
        refine x_if (a' := 56) (pc' := 52) (z := true) rfl rfl rfl (by decide) (fun _ => ?_) (fun h => by cases h)
        refine x_iload (pc' := 58) rfl rfl rfl ?_
        refine x_iconst (pc' := 59) rfl rfl ?_
        refine x_icmp (a' := 69) (pc' := 62) (z := true) rfl rfl rfl (by decide) (fun _ => ?_) (fun h => by cases h)
        refine x_iload (pc' := 71) rfl rfl rfl ?_
        refine x_iconst (pc' := 72) rfl rfl ?_
        refine x_icmp (a' := 85) (pc' := 75) (z := true) rfl rfl rfl (by decide) (fun _ => ?_) (fun h => by cases h)
        refine x_iload_n (pc' := 86) rfl rfl rfl ?_
        refine x_bipush (pc' := 88) rfl rfl ?_
        refine x_irem (pc' := 89) (z := 3) rfl rfl (by decide) (by decide +kernel) ?_
        refine x_iconst (pc' := 90) rfl rfl ?_
        refine x_isub (pc' := 91) (z := 2) rfl rfl (by decide) ?_
        refine x_reti rfl rfl ?_
        refine sK_i (pc' := 6) rfl ?_
        refine x_istore_n (pc' := 7) (ls' := [_, _, _, _]) rfl rfl rfl rfl ?_
        refine x_iload_n (pc' := 8) rfl rfl rfl ?_
        refine x_iconst (pc' := 9) rfl rfl ?_
        refine x_icmp (a' := 31) (pc' := 12) (z := true) rfl rfl rfl (by decide) (fun _ => ?_) (fun h => by cases h)
        refine x_iload_n (pc' := 32) rfl rfl rfl ?_
        refine x_iconst (pc' := 33) rfl rfl ?_
        refine x_icmp (a' := 45) (pc' := 36) (z := false) rfl rfl rfl (by decide) (fun h => by cases h) (fun _ => ?_)
        refine x_iload_n (pc' := 37) rfl rfl rfl ?_
        refine x_iconst (pc' := 38) rfl rfl ?_
        refine x_icmp (a' := 45) (pc' := 41) (z := false) rfl rfl rfl (by decide) (fun h => by cases h) (fun _ => ?_)
        refine x_iconst (pc' := 42) rfl rfl ?_
        refine x_goto (pc' := 46) rfl rfl ?_
        refine x_retz (z := true) rfl rfl ?_
        refine sK_i (pc' := 69) rfl ?_
        refine x_iload_n (pc' := 70) rfl rfl rfl ?_
        have J44 : X 159 78 [.inr (.inr (12, (some 0))), .inl 4, .inl (bz s), .inl 1, .inl (bz ((decide ((mA M 0 1) = 2)) && (!((bsF M n 1 (!(xor false s))).isNone)))), .inl 1, .inl 2] [.inl (bz (!(xor true s))), .inl 2, .inr (.inr (12, (some 0))), .inl 1, .inr (.inr (21, (some 27)))] (sIw (sAw (sIw t 811 0 0) 21 27 0 (ov (bsF M n 1 (!(xor false s))))) 811 0 1) Q := by
          refine x_cv (ls0 := [_, _, _, sJk, sJk, sJk]) (rest := [_, _]) rfl rfl rfl rfl rfl ?_
          refine r153 (b := 2) (s := (!(xor true s))) ((rp_Ic rfl).trans ((rp_As rfl).trans ((rp_Ic rfl).trans hM))) (Cn_cp ((cp_I rfl).trans (cp_A.trans (cp_I rfl))) hc) (Fr.ri (Fr.refl _) hR) (show 2 < 5 by decide) (fun b3 => ?_)
          refine sK_i (pc' := 81) rfl ?_
          refine x_iast (pc' := 82) (N := 200) (p := 1) rfl rfl rfl (Eq.trans rdNI (Eq.trans rdNA (Eq.trans rdNI (kN_21_27 hc)))) (io_in (p := 1) (N := 200) (by decide) (by decide)) (nn_io (p := 1) (by decide)) ?_
          refine x_aload_n (pc' := 83) rfl rfl rfl rfl rfl ?_
          refine x_gR (pc' := 86) (r := (some 0)) rfl rfl rfl (Eq.trans (b := sR t 769 0) rfl (kR_769_0 hc)) ?_
          refine x_iload (pc' := 88) rfl rfl rfl ?_
          refine x_iald (pc' := 89) (N := 5) (x := (mA M 0 2)) rfl rfl rfl (Eq.trans rdNA (Eq.trans rdNI (Eq.trans rdNA (Eq.trans rdNI (kN_21_0 hc))))) (io_in (p := 2) (N := 5) (by decide) (by decide)) (Eq.trans (congrArg (sA (sAw (sIw (sAw (sIw t 811 0 0) 21 27 0 (ov (bsF M n 1 (!(xor false s))))) 811 0 1) 21 27 1 (ov (bsF M n 2 (!(xor true s))))) 21 0) (nn_io (p := 2) (by decide))) (Eq.trans (b := sA t 21 0 2) rfl (gA hM rfl))) ?_
          refine x_iconst (pc' := 90) rfl rfl ?_
          have J47 : X 159 111 [.inr (.inr (12, (some 0))), .inl 4, .inl (bz s), .inl 1, .inl (bz ((decide ((mA M 0 1) = 2)) && (!((bsF M n 1 (!(xor false s))).isNone)))), .inl 1, .inl 2] [.inl (bz ((decide ((mA M 0 2) = 2)) && (!((bsF M n 2 (!(xor true s))).isNone))))] (sAw (sIw (sAw (sIw t 811 0 0) 21 27 0 (ov (bsF M n 1 (!(xor false s))))) 811 0 1) 21 27 1 (ov (bsF M n 2 (!(xor true s))))) Q := by
            refine x_istore (pc' := 113) (ls' := [_, _, _, _, _, _, _]) rfl rfl rfl rfl ?_
            refine x_aload_n (pc' := 114) rfl rfl rfl rfl rfl ?_
            refine x_dup (pc' := 115) rfl rfl rfl ?_
            refine x_gI (pc' := 118) (x := 1) rfl rfl rfl (Eq.trans rdIA sI_s) ?_
            refine x_iconst (pc' := 119) rfl rfl ?_
            refine x_iadd (pc' := 120) (z := 2) rfl rfl (by decide) ?_
            refine x_pI (pc' := 123) rfl rfl rfl ?_
            refine x_iinc (pc' := 126) (y := 2) (ls' := [_, _, _, _, _, _, _]) rfl rfl rfl rfl rfl ?_
            refine x_goto (pc' := 25) rfl rfl ?_
            refine x_iload (pc' := 27) rfl rfl rfl ?_
            refine x_iconst (pc' := 28) rfl rfl ?_
            refine x_icmp (a' := 129) (pc' := 31) (z := false) rfl rfl rfl (by decide) (fun h => by cases h) (fun _ => ?_)
            refine x_iload (pc' := 33) rfl rfl rfl ?_
            have J55 : X 159 129 [.inr (.inr (12, (some 0))), .inl 4, .inl (bz s), .inl 1, .inl (bz ((decide ((mA M 0 2) = 2)) && (!((bsF M n 2 (!(xor true s))).isNone)))), .inl (bif ((decide ((mA M 0 2) = 2)) && (!((bsF M n 2 (!(xor true s))).isNone))) then 3 else 2), .inl (bif ((decide ((mA M 0 2) = 2)) && (!((bsF M n 2 (!(xor true s))).isNone))) then (-1) else 2)] [] (sIw (sAw (sIw (sAw (sIw t 811 0 0) 21 27 0 (ov (bsF M n 1 (!(xor false s))))) 811 0 1) 21 27 1 (ov (bsF M n 2 (!(xor true s))))) 811 0 2) Q := by
              refine x_iload (pc' := 131) rfl rfl rfl ?_
              refine x_retz (z := ((decide ((mA M 0 2) = 2)) && (!((bsF M n 2 (!(xor true s))).isNone)))) rfl rfl ?_
              exact qv (congrArg (fun z : Bool => (.inl (some (.inl (bz z))) : sRs)) (Eq.trans (lgF_s q29) lgF_1).symm) (q _ ((rp_Ic rfl).trans ((rp_As rfl).trans ((rp_Ic rfl).trans ((rp_As rfl).trans ((rp_Ic rfl).trans hM))))) ((cp_I rfl).trans (cp_A.trans ((cp_I rfl).trans (cp_A.trans (cp_I rfl))))) (fun L hL => by obtain ⟨l0, z0, h0, j0, rfl⟩ := lgF_i hL; obtain ⟨l1, z1, h1, j1, rfl⟩ := lgF_i h0; cases lgF_nil h1; exact ⟨rfl, ov_io (an_n z0), ov_io (an_n z1), trivial⟩))
            refine x_ifeq_z (a' := 129) (pc' := 36) (z := ((decide ((mA M 0 2) = 2)) && (!((bsF M n 2 (!(xor true s))).isNone)))) rfl rfl rfl (fun q50 => ?_) (fun q50 => ?_)
            · ((try rw [q50] at J55); (try rw [q50]); (try simp only [cd_t, cd_f, nt_t, nt_f, an_t, an_f, or_t, or_f] at J55); (try simp only [cd_t, cd_f, nt_t, nt_f, an_t, an_f, or_t, or_f]); exact J55)
            · refine x_iload_n (pc' := 37) rfl rfl rfl ?_
              refine x_iload_n (pc' := 38) rfl rfl rfl ?_
              refine x_iload (pc' := 40) rfl rfl rfl ?_
              refine x_cs (ls0 := [_, _, _, sJk, sJk, sJk]) (rest := []) rfl rfl rfl rfl ?_
              refine x_getstatic (pc' := 3) rfl rfl (show 1 < sC t 28 from gst1 hc) ?_
              refine x_iconst (pc' := 4) rfl rfl ?_
              refine x_iload_n (pc' := 5) rfl rfl rfl ?_
              refine x_imul (pc' := 6) (z := 12) rfl rfl (by decide) ?_
              refine x_iload_n (pc' := 7) rfl rfl rfl ?_
              refine x_iadd (pc' := 8) (z := 13) rfl rfl (by decide) ?_
              refine x_iald (pc' := 9) (N := 15) (x := 23) rfl rfl rfl (Eq.trans rdNI (Eq.trans rdNA (Eq.trans rdNI (Eq.trans rdNA (Eq.trans rdNI (kN_28_1 hc)))))) (io_in (p := 13) (N := 15) (by decide) (by decide)) (Eq.trans (congrArg (sA (sIw (sAw (sIw (sAw (sIw t 811 0 0) 21 27 0 (ov (bsF M n 1 (!(xor false s))))) 811 0 1) 21 27 1 (ov (bsF M n 2 (!(xor true s))))) 811 0 2) 28 1) (nn_io (p := 13) (by decide))) (Eq.trans (b := sA t 28 1 13) rfl ((hc.2.2.2.2.2 13).2.trans rfl))) ?_
              refine x_istore_n (pc' := 10) (ls' := [_, _, _, _, _, _]) rfl rfl rfl rfl ?_
              refine x_iload_n (pc' := 11) rfl rfl rfl ?_
              refine x_bipush (pc' := 13) rfl rfl ?_
              refine x_icmp (a' := 20) (pc' := 16) (z := true) rfl rfl rfl (by decide) (fun _ => ?_) (fun h => by cases h)
              refine x_iload_n (pc' := 21) rfl rfl rfl ?_
              refine x_bipush (pc' := 23) rfl rfl ?_
              refine x_icmp (a' := 30) (pc' := 26) (z := false) rfl rfl rfl (by decide) (fun h => by cases h) (fun _ => ?_)
              refine x_iconst (pc' := 27) rfl rfl ?_
              refine x_goto (pc' := 39) rfl rfl ?_
              refine x_istore (pc' := 41) (ls' := [_, _, _, _, _, _]) rfl rfl rfl rfl ?_
              refine x_iload (pc' := 43) rfl rfl rfl ?_
              refine x_iload_n (pc' := 44) rfl rfl rfl ?_
              refine x_isub (pc' := 45) (z := 0) rfl rfl (by decide) ?_
              refine x_istore (pc' := 47) (ls' := [_, _, _, _, _, _]) rfl rfl rfl rfl ?_
              refine x_iload (pc' := 49) rfl rfl rfl ?_
              refine x_if (a' := 56) (pc' := 52) (z := false) rfl rfl rfl (by decide) (fun h => by cases h) (fun _ => ?_)
              refine x_iconst (pc' := 53) rfl rfl ?_
              refine x_goto (pc' := 91) rfl rfl ?_
              refine x_reti rfl rfl ?_
              refine sK_i (pc' := 43) rfl ?_
              refine x_istore (pc' := 45) (ls' := [_, _, _, _, _, _, _]) rfl rfl rfl rfl ?_
              refine x_iload (pc' := 47) rfl rfl rfl ?_
              refine x_iconst (pc' := 48) rfl rfl ?_
              refine x_icmp (a' := 123) (pc' := 51) (z := true) rfl rfl rfl (by decide) (fun _ => ?_) (fun h => by cases h)
              refine x_iinc (pc' := 126) (y := 3) (ls' := [_, _, _, _, _, _, _]) rfl rfl rfl rfl rfl ?_
              refine x_goto (pc' := 25) rfl rfl ?_
              refine x_iload (pc' := 27) rfl rfl rfl ?_
              refine x_iconst (pc' := 28) rfl rfl ?_
              refine x_icmp (a' := 129) (pc' := 31) (z := true) rfl rfl rfl (by decide) (fun _ => ?_) (fun h => by cases h)
              ((try rw [q50] at J55); (try rw [q50]); (try simp only [cd_t, cd_f, nt_t, nt_f, an_t, an_f, or_t, or_f] at J55); (try simp only [cd_t, cd_f, nt_t, nt_f, an_t, an_f, or_t, or_f]); exact J55)
          refine x_icmp_n (a' := 110) (pc' := 93) (z := decide ((mA M 0 2) = 2)) rfl rfl rfl (ik_ne _ _) (fun q46 => ?_) (fun q46 => ?_)
          · refine x_iconst (pc' := 111) rfl rfl ?_
            ((try rw [q46] at J47); (try rw [q46]); (try simp only [cd_t, cd_f, nt_t, nt_f, an_t, an_f, or_t, or_f] at J47); (try simp only [cd_t, cd_f, nt_t, nt_f, an_t, an_f, or_t, or_f]); exact J47)
          · refine x_aload_n (pc' := 94) rfl rfl rfl rfl rfl ?_
            refine x_gR (pc' := 97) (r := (some 27)) rfl rfl rfl (Eq.trans (b := sR t 809 0) rfl (kR_809_0 hc)) ?_
            refine x_aload_n (pc' := 98) rfl rfl rfl rfl rfl ?_
            refine x_gI (pc' := 101) (x := 1) rfl rfl rfl (Eq.trans rdIA sI_s) ?_
            refine x_iald (pc' := 102) (N := 200) (x := (ov (bsF M n 2 (!(xor true s))))) rfl rfl rfl (Eq.trans rdNA (Eq.trans rdNI (Eq.trans rdNA (Eq.trans rdNI (kN_21_27 hc))))) (io_in (p := 1) (N := 200) (by decide) (by decide)) (Eq.trans (congrArg (sA (sAw (sIw (sAw (sIw t 811 0 0) 21 27 0 (ov (bsF M n 1 (!(xor false s))))) 811 0 1) 21 27 1 (ov (bsF M n 2 (!(xor true s))))) 21 27) (nn_io (p := 1) (by decide))) sA_s) ?_
            refine x_iconst (pc' := 103) rfl rfl ?_
            refine x_icmp (a' := 110) (pc' := 106) (z := (bsF M n 2 (!(xor true s))).isNone) rfl rfl rfl (ov_eq (ov_31 (N := n) b3 (Nat.le_of_lt (gn31 hR)))) (fun q47 => ?_) (fun q47 => ?_)
            · refine x_iconst (pc' := 111) rfl rfl ?_
              ((try rw [q47] at J47); (try rw [q47]); (try rw [q46] at J47); (try rw [q46]); (try simp only [cd_t, cd_f, nt_t, nt_f, an_t, an_f, or_t, or_f] at J47); (try simp only [cd_t, cd_f, nt_t, nt_f, an_t, an_f, or_t, or_f]); exact J47)
            · refine x_iconst (pc' := 107) rfl rfl ?_
              refine x_goto (pc' := 111) rfl rfl ?_
              ((try rw [q47] at J47); (try rw [q47]); (try rw [q46] at J47); (try rw [q46]); (try simp only [cd_t, cd_f, nt_t, nt_f, an_t, an_f, or_t, or_f] at J47); (try simp only [cd_t, cd_f, nt_t, nt_f, an_t, an_f, or_t, or_f]); exact J47)
        refine x_icmp (a' := 77) (pc' := 73) (z := (xor true s)) rfl rfl rfl (bz_neb _ _) (fun q44 => ?_) (fun q44 => ?_)
        · refine x_iconst (pc' := 78) rfl rfl ?_
          ((try rw [q44] at J44); (try rw [q44]); (try simp only [cd_t, cd_f, nt_t, nt_f, an_t, an_f, or_t, or_f] at J44); (try simp only [cd_t, cd_f, nt_t, nt_f, an_t, an_f, or_t, or_f]); exact J44)
        · refine x_iconst (pc' := 74) rfl rfl ?_
          refine x_goto (pc' := 78) rfl rfl ?_
          ((try rw [q44] at J44); (try rw [q44]); (try simp only [cd_t, cd_f, nt_t, nt_f, an_t, an_f, or_t, or_f] at J44); (try simp only [cd_t, cd_f, nt_t, nt_f, an_t, an_f, or_t, or_f]); exact J44)
    refine x_icmp_n (a' := 110) (pc' := 93) (z := decide ((mA M 0 1) = 2)) rfl rfl rfl (ik_ne _ _) (fun q25 => ?_) (fun q25 => ?_)
    · refine x_iconst (pc' := 111) rfl rfl ?_
      ((try rw [q25] at J26); (try rw [q25]); (try simp only [cd_t, cd_f, nt_t, nt_f, an_t, an_f, or_t, or_f] at J26); (try simp only [cd_t, cd_f, nt_t, nt_f, an_t, an_f, or_t, or_f]); exact J26)
    · refine x_aload_n (pc' := 94) rfl rfl rfl rfl rfl ?_
      refine x_gR (pc' := 97) (r := (some 27)) rfl rfl rfl (Eq.trans (b := sR t 809 0) rfl (kR_809_0 hc)) ?_
      refine x_aload_n (pc' := 98) rfl rfl rfl rfl rfl ?_
      refine x_gI (pc' := 101) (x := 0) rfl rfl rfl (Eq.trans rdIA sI_s) ?_
      refine x_iald (pc' := 102) (N := 200) (x := (ov (bsF M n 1 (!(xor false s))))) rfl rfl rfl (Eq.trans rdNA (Eq.trans rdNI (kN_21_27 hc))) (io_in (p := 0) (N := 200) (by decide) (by decide)) (Eq.trans (congrArg (sA (sAw (sIw t 811 0 0) 21 27 0 (ov (bsF M n 1 (!(xor false s))))) 21 27) (nn_io (p := 0) (by decide))) sA_s) ?_
      refine x_iconst (pc' := 103) rfl rfl ?_
      refine x_icmp (a' := 110) (pc' := 106) (z := (bsF M n 1 (!(xor false s))).isNone) rfl rfl rfl (ov_eq (ov_31 (N := n) b1 (Nat.le_of_lt (gn31 hR)))) (fun q26 => ?_) (fun q26 => ?_)
      · refine x_iconst (pc' := 111) rfl rfl ?_
        ((try rw [q26] at J26); (try rw [q26]); (try rw [q25] at J26); (try rw [q25]); (try simp only [cd_t, cd_f, nt_t, nt_f, an_t, an_f, or_t, or_f] at J26); (try simp only [cd_t, cd_f, nt_t, nt_f, an_t, an_f, or_t, or_f]); exact J26)
      · refine x_iconst (pc' := 107) rfl rfl ?_
        refine x_goto (pc' := 111) rfl rfl ?_
        ((try rw [q26] at J26); (try rw [q26]); (try rw [q25] at J26); (try rw [q25]); (try simp only [cd_t, cd_f, nt_t, nt_f, an_t, an_f, or_t, or_f] at J26); (try simp only [cd_t, cd_f, nt_t, nt_f, an_t, an_f, or_t, or_f]); exact J26)
  refine x_icmp (a' := 77) (pc' := 73) (z := (xor false s)) rfl rfl rfl (bz_neb _ _) (fun q23 => ?_) (fun q23 => ?_)
  · refine x_iconst (pc' := 78) rfl rfl ?_
    ((try rw [q23] at J23); (try rw [q23]); (try simp only [cd_t, cd_f, nt_t, nt_f, an_t, an_f, or_t, or_f] at J23); (try simp only [cd_t, cd_f, nt_t, nt_f, an_t, an_f, or_t, or_f]); exact J23)
  · refine x_iconst (pc' := 74) rfl rfl ?_
    refine x_goto (pc' := 78) rfl rfl ?_
    ((try rw [q23] at J23); (try rw [q23]); (try simp only [cd_t, cd_f, nt_t, nt_f, an_t, an_f, or_t, or_f] at J23); (try simp only [cd_t, cd_f, nt_t, nt_f, an_t, an_f, or_t, or_f]); exact J23)
set_option maxHeartbeats 4000000 in
set_option maxRecDepth 10000 in
theorem r160_41 {t : sT} {Q : sRs → sT → Prop} {M : sM} {n : Nat} {o0 o1 : Nat}
    (hM : rp t = M)
    (hc : Cn t)
    (hR : Ri M n)
    (ho0 : o0 < n)
    (ho1 : o1 < n)
    (hq : sI t 811 0 = 2)
    (hk0 : sA t 21 27 0 = io o0)
    (hk1 : sA t 21 27 1 = io o1)
    (q : Q (.inl (some (.inl (prF M 4 1 [o0, o1])))) t) :
    X 160 0 [.inr (.inr (12, (some 0))), .inl 4, .inl 1, sJk, sJk] [] t Q := by
  refine x_iload_n (pc' := 1) rfl rfl rfl ?_
  refine x_iconst (pc' := 2) rfl rfl ?_
  refine x_icmp (a' := 34) (pc' := 5) (z := false) rfl rfl rfl (by decide) (fun h => by cases h) (fun _ => ?_)
  refine x_iload_n (pc' := 6) rfl rfl rfl ?_
  refine x_iconst (pc' := 7) rfl rfl ?_
  refine x_icmp (a' := 34) (pc' := 10) (z := false) rfl rfl rfl (by decide) (fun h => by cases h) (fun _ => ?_)
  refine x_aload_n (pc' := 11) rfl rfl rfl rfl rfl ?_
  refine x_gR (pc' := 14) (r := (some 14)) rfl rfl rfl (kR_790_0 hc) ?_
  refine x_aload_n (pc' := 15) rfl rfl rfl rfl rfl ?_
  refine x_gR (pc' := 18) (r := (some 27)) rfl rfl rfl (kR_809_0 hc) ?_
  refine x_iconst (pc' := 19) rfl rfl ?_
  refine x_iald (pc' := 20) (N := 200) (x := (io o0)) rfl rfl rfl (kN_21_27 hc) (io_in (p := 0) (N := 200) (by decide) (by decide)) (Eq.trans (congrArg (sA t 21 27) (nn_io (p := 0) (by decide))) hk0) ?_
  refine x_iald (pc' := 21) (N := 200) (x := (mA M 14 o0)) rfl rfl rfl (kN_21_14 hc) (io_in (p := o0) (N := 200) (Nat.lt_of_lt_of_le ho0 (gn200 hR)) (by decide)) (Eq.trans (congrArg (sA t 21 14) (nn_io (p := o0) (Nat.lt_trans (Nat.lt_of_lt_of_le ho0 (gn200 hR)) (by decide)))) (gF14 hM (Fr.refl _))) ?_
  refine x_aload_n (pc' := 22) rfl rfl rfl rfl rfl ?_
  refine x_gR (pc' := 25) (r := (some 14)) rfl rfl rfl (kR_790_0 hc) ?_
  refine x_aload_n (pc' := 26) rfl rfl rfl rfl rfl ?_
  refine x_gR (pc' := 29) (r := (some 27)) rfl rfl rfl (kR_809_0 hc) ?_
  refine x_iconst (pc' := 30) rfl rfl ?_
  refine x_iald (pc' := 31) (N := 200) (x := (io o1)) rfl rfl rfl (kN_21_27 hc) (io_in (p := 1) (N := 200) (by decide) (by decide)) (Eq.trans (congrArg (sA t 21 27) (nn_io (p := 1) (by decide))) hk1) ?_
  refine x_iald (pc' := 32) (N := 200) (x := (mA M 14 o1)) rfl rfl rfl (kN_21_14 hc) (io_in (p := o1) (N := 200) (Nat.lt_of_lt_of_le ho1 (gn200 hR)) (by decide)) (Eq.trans (congrArg (sA t 21 14) (nn_io (p := o1) (Nat.lt_trans (Nat.lt_of_lt_of_le ho1 (gn200 hR)) (by decide)))) (gF14 hM (Fr.refl _))) ?_
  refine x_isub (pc' := 33) (z := ((mA M 14 o0) - (mA M 14 o1))) rfl rfl rfl ?_
  refine x_reti rfl rfl ?_
  exact q
-- ((mA M 14 o0) - (mA M 14 o1))
set_option maxHeartbeats 4000000 in
set_option maxRecDepth 10000 in
theorem r159_42 {t : sT} {Q : sRs → sT → Prop} {M : sM} {n : Nat} {s : Bool} (hM : rp t = M) (hc : Cn t) (hR : Ri M n)
    (q : ∀ t', rp t' = M → cp t' = cp t → (∀ L, lgO M n 4 s 2 = some L → Tk t' L) → Q (.inl (some (.inl (bz (lgO M n 4 s 2).isSome)))) t') :
    X 159 0 [.inr (.inr (12, (some 0))), .inl 4, .inl (bz s), .inl 2, sJk, sJk, sJk] [] t Q := by
  refine x_iload_n (pc' := 1) rfl rfl rfl ?_
  refine x_iload_n (pc' := 2) rfl rfl rfl ?_
  refine x_iconst (pc' := 3) rfl rfl ?_
  refine x_cs (ls0 := [_, _, _, sJk, sJk, sJk]) (rest := []) rfl rfl rfl rfl ?_
  refine x_getstatic (pc' := 3) rfl rfl (show 1 < sC t 28 from gst1 hc) ?_
  refine x_iconst (pc' := 4) rfl rfl ?_
  refine x_iload_n (pc' := 5) rfl rfl rfl ?_
  refine x_imul (pc' := 6) (z := 12) rfl rfl (by decide) ?_
  refine x_iload_n (pc' := 7) rfl rfl rfl ?_
  refine x_iadd (pc' := 8) (z := 14) rfl rfl (by decide) ?_
  refine x_iald (pc' := 9) (N := 15) (x := 0) rfl rfl rfl (kN_28_1 hc) (io_in (p := 14) (N := 15) (by decide) (by decide)) (Eq.trans (congrArg (sA t 28 1) (nn_io (p := 14) (by decide))) ((hc.2.2.2.2.2 14).2.trans rfl)) ?_
  refine x_istore_n (pc' := 10) (ls' := [_, _, _, _, _, _]) rfl rfl rfl rfl ?_
  refine x_iload_n (pc' := 11) rfl rfl rfl ?_
  refine x_bipush (pc' := 13) rfl rfl ?_
  refine x_icmp (a' := 20) (pc' := 16) (z := true) rfl rfl rfl (by decide) (fun _ => ?_) (fun h => by cases h)
  refine x_iload_n (pc' := 21) rfl rfl rfl ?_
  refine x_bipush (pc' := 23) rfl rfl ?_
  refine x_icmp (a' := 30) (pc' := 26) (z := true) rfl rfl rfl (by decide) (fun _ => ?_) (fun h => by cases h)
  refine x_iload_n (pc' := 31) rfl rfl rfl ?_
  refine x_if (a' := 38) (pc' := 34) (z := true) rfl rfl rfl (by decide) (fun _ => ?_) (fun h => by cases h)
  refine x_iconst (pc' := 39) rfl rfl ?_
  refine x_istore (pc' := 41) (ls' := [_, _, _, _, _, _]) rfl rfl rfl rfl ?_
  refine x_iload (pc' := 43) rfl rfl rfl ?_
  refine x_iload_n (pc' := 44) rfl rfl rfl ?_
  refine x_isub (pc' := 45) (z := 0) rfl rfl (by decide) ?_
  refine x_istore (pc' := 47) (ls' := [_, _, _, _, _, _]) rfl rfl rfl rfl ?_
  refine x_iload (pc' := 49) rfl rfl rfl ?_
  refine x_if (a' := 56) (pc' := 52) (z := false) rfl rfl rfl (by decide) (fun h => by cases h) (fun _ => ?_)
  refine x_iconst (pc' := 53) rfl rfl ?_
  refine x_goto (pc' := 91) rfl rfl ?_
  refine x_reti rfl rfl ?_
  refine sK_i (pc' := 6) rfl ?_
  refine x_iconst (pc' := 7) rfl rfl ?_
  refine x_icmp (a' := 14) (pc' := 10) (z := true) rfl rfl rfl (by decide) (fun _ => ?_) (fun h => by cases h)
  refine x_iconst (pc' := 15) rfl rfl ?_
  refine x_istore (pc' := 17) (ls' := [_, _, _, _, _, _, _]) rfl rfl rfl rfl ?_
  refine x_aload_n (pc' := 18) rfl rfl rfl rfl rfl ?_
  refine x_iconst (pc' := 19) rfl rfl ?_
  refine x_pI (pc' := 22) rfl rfl rfl ?_
  refine x_iconst (pc' := 23) rfl rfl ?_
  refine x_istore (pc' := 25) (ls' := [_, _, _, _, _, _, _]) rfl rfl rfl rfl ?_
  refine x_iload (pc' := 27) rfl rfl rfl ?_
  refine x_iconst (pc' := 28) rfl rfl ?_
  refine x_icmp (a' := 129) (pc' := 31) (z := false) rfl rfl rfl (by decide) (fun h => by cases h) (fun _ => ?_)
  refine x_iload (pc' := 33) rfl rfl rfl ?_
  refine x_if (a' := 129) (pc' := 36) (z := true) rfl rfl rfl (by decide) (fun _ => ?_) (fun h => by cases h)
  refine x_iload (pc' := 131) rfl rfl rfl ?_
  refine x_retz (z := false) rfl rfl ?_
  exact q _ ((rp_Ic rfl).trans hM) (cp_I rfl) (fun L hL => by cases hL)
set_option maxHeartbeats 4000000 in
set_option maxRecDepth 10000 in
theorem r159 {t : sT} {Q : sRs → sT → Prop} {M : sM} {n b w : Nat} {s : Bool} (hM : rp t = M) (hc : Cn t) (hR : Ri M n) (hb : b < 5) (hw : w < 3)
    (q : ∀ t', rp t' = M → cp t' = cp t → (∀ L, lgO M n b s w = some L → Tk t' L) → Q (.inl (some (.inl (bz (wokF M n b s w))))) t') :
    X 159 0 [.inr (.inr (12, (some 0))), .inl (io b), .inl (bz s), .inl (io w), sJk, sJk, sJk] [] t Q := by
  match b, hb, w, hw with
  | 0, _, 0, _ => exact r159_00 hM hc hR q
  | 0, _, 1, _ => exact r159_01 hM hc hR q
  | 0, _, 2, _ => exact r159_02 hM hc hR q
  | 1, _, 0, _ => exact r159_10 hM hc hR q
  | 1, _, 1, _ => exact r159_11 hM hc hR q
  | 1, _, 2, _ => exact r159_12 hM hc hR q
  | 2, _, 0, _ => exact r159_20 hM hc hR q
  | 2, _, 1, _ => exact r159_21 hM hc hR q
  | 2, _, 2, _ => exact r159_22 hM hc hR q
  | 3, _, 0, _ => exact r159_30 hM hc hR q
  | 3, _, 1, _ => exact r159_31 hM hc hR q
  | 3, _, 2, _ => exact r159_32 hM hc hR q
  | 4, _, 0, _ => exact r159_40 hM hc hR q
  | 4, _, 1, _ => exact r159_41 hM hc hR q
  | 4, _, 2, _ => exact r159_42 hM hc hR q
set_option maxHeartbeats 4000000 in
set_option maxRecDepth 10000 in
theorem r160 {t : sT} {Q : sRs → sT → Prop} {M : sM} {n b w : Nat} {s : Bool} {L : List Nat} (hM : rp t = M) (hc : Cn t) (hR : Ri M n) (hb : b < 5) (hw : w < 3) (hL : lgO M n b s w = some L) (hk : Tk t L)
    (q : Q (.inl (some (.inl (prF M b w L)))) t) :
    X 160 0 [.inr (.inr (12, (some 0))), .inl (io b), .inl (io w), sJk, sJk] [] t Q := by
  match b, hb, w, hw with
  | 0, _, 0, _ =>
    obtain ⟨l0, z0, h0, j0, rfl⟩ := lgF_i hL
    cases lgF_nil h0
    exact r160_00 hM hc hR j0 hk.1 hk.2.1 q
  | 0, _, 1, _ =>
    obtain ⟨l0, z0, h0, j0, rfl⟩ := lgF_i hL
    obtain ⟨l1, z1, h1, j1, rfl⟩ := lgF_i h0
    cases lgF_nil h1
    exact r160_01 hM hc hR j0 j1 hk.1 hk.2.1 hk.2.2.1 q
  | 0, _, 2, _ =>
    obtain ⟨l0, z0, h0, j0, rfl⟩ := lgF_i hL
    obtain ⟨l1, z1, h1, j1, rfl⟩ := lgF_i h0
    obtain ⟨l2, z2, h2, j2, rfl⟩ := lgF_i h1
    cases lgF_nil h2
    exact r160_02 hM hc hR j0 j1 j2 hk.1 hk.2.1 hk.2.2.1 hk.2.2.2.1 q
  | 1, _, 0, _ =>
    obtain ⟨l0, z0, h0, j0, rfl⟩ := lgF_i hL
    cases lgF_nil h0
    exact r160_10 hM hc hR j0 hk.1 hk.2.1 q
  | 1, _, 1, _ =>
    obtain ⟨l0, z0, h0, j0, rfl⟩ := lgF_i hL
    obtain ⟨l1, z1, h1, j1, rfl⟩ := lgF_i h0
    cases lgF_nil h1
    exact r160_11 hM hc hR j0 j1 hk.1 hk.2.1 hk.2.2.1 q
  | 1, _, 2, _ =>
    obtain ⟨l0, z0, h0, j0, rfl⟩ := lgF_i hL
    obtain ⟨l1, z1, h1, j1, rfl⟩ := lgF_i h0
    cases lgF_nil h1
    exact r160_12 hM hc hR j0 j1 hk.1 hk.2.1 hk.2.2.1 q
  | 2, _, 0, _ =>
    obtain ⟨l0, z0, h0, j0, rfl⟩ := lgF_i hL
    cases lgF_nil h0
    exact r160_20 hM hc hR j0 hk.1 hk.2.1 q
  | 2, _, 1, _ =>
    obtain ⟨l0, z0, h0, j0, rfl⟩ := lgF_i hL
    obtain ⟨l1, z1, h1, j1, rfl⟩ := lgF_i h0
    cases lgF_nil h1
    exact r160_21 hM hc hR j0 j1 hk.1 hk.2.1 hk.2.2.1 q
  | 2, _, 2, _ =>
    obtain ⟨l0, z0, h0, j0, rfl⟩ := lgF_i hL
    obtain ⟨l1, z1, h1, j1, rfl⟩ := lgF_i h0
    obtain ⟨l2, z2, h2, j2, rfl⟩ := lgF_i h1
    cases lgF_nil h2
    exact r160_22 hM hc hR j0 j1 j2 hk.1 hk.2.1 hk.2.2.1 hk.2.2.2.1 q
  | 3, _, 0, _ =>
    obtain ⟨l0, z0, h0, j0, rfl⟩ := lgF_i hL
    cases lgF_nil h0
    exact r160_30 hM hc hR j0 hk.1 hk.2.1 q
  | 3, _, 1, _ =>
    obtain ⟨l0, z0, h0, j0, rfl⟩ := lgF_i hL
    obtain ⟨l1, z1, h1, j1, rfl⟩ := lgF_i h0
    cases lgF_nil h1
    exact r160_31 hM hc hR j0 j1 hk.1 hk.2.1 hk.2.2.1 q
  | 3, _, 2, _ => cases hL
  | 4, _, 0, _ =>
    obtain ⟨l0, z0, h0, j0, rfl⟩ := lgF_i hL
    cases lgF_nil h0
    exact r160_40 hM hc hR j0 hk.1 hk.2.1 q
  | 4, _, 1, _ =>
    obtain ⟨l0, z0, h0, j0, rfl⟩ := lgF_i hL
    obtain ⟨l1, z1, h1, j1, rfl⟩ := lgF_i h0
    cases lgF_nil h1
    exact r160_41 hM hc hR j0 j1 hk.1 hk.2.1 hk.2.2.1 q
  | 4, _, 2, _ => cases hL
def bwF (M : sM) (n : Nat) (b : Nat) (s : Bool) : Option Nat := (bif (wokF M n b s 1) then (bif (wokF M n b s 2) then (bif (((bif (((bif (wokF M n b s 0) then (some 0) else none).isNone) || (bif s then (decide ((wprF M n b s 1) < (bif (wokF M n b s 0) then (wprF M n b s 0) else 0))) else (decide ((bif (wokF M n b s 0) then (wprF M n b s 0) else 0) < (wprF M n b s 1))))) then (some 1) else (bif (wokF M n b s 0) then (some 0) else none)).isNone) || (bif s then (decide ((wprF M n b s 2) < (bif (((bif (wokF M n b s 0) then (some 0) else none).isNone) || (bif s then (decide ((wprF M n b s 1) < (bif (wokF M n b s 0) then (wprF M n b s 0) else 0))) else (decide ((bif (wokF M n b s 0) then (wprF M n b s 0) else 0) < (wprF M n b s 1))))) then (wprF M n b s 1) else (bif (wokF M n b s 0) then (wprF M n b s 0) else 0)))) else (decide ((bif (((bif (wokF M n b s 0) then (some 0) else none).isNone) || (bif s then (decide ((wprF M n b s 1) < (bif (wokF M n b s 0) then (wprF M n b s 0) else 0))) else (decide ((bif (wokF M n b s 0) then (wprF M n b s 0) else 0) < (wprF M n b s 1))))) then (wprF M n b s 1) else (bif (wokF M n b s 0) then (wprF M n b s 0) else 0)) < (wprF M n b s 2))))) then (some 2) else (bif (((bif (wokF M n b s 0) then (some 0) else none).isNone) || (bif s then (decide ((wprF M n b s 1) < (bif (wokF M n b s 0) then (wprF M n b s 0) else 0))) else (decide ((bif (wokF M n b s 0) then (wprF M n b s 0) else 0) < (wprF M n b s 1))))) then (some 1) else (bif (wokF M n b s 0) then (some 0) else none))) else (bif (((bif (wokF M n b s 0) then (some 0) else none).isNone) || (bif s then (decide ((wprF M n b s 1) < (bif (wokF M n b s 0) then (wprF M n b s 0) else 0))) else (decide ((bif (wokF M n b s 0) then (wprF M n b s 0) else 0) < (wprF M n b s 1))))) then (some 1) else (bif (wokF M n b s 0) then (some 0) else none))) else (bif (wokF M n b s 2) then (bif (((bif (wokF M n b s 0) then (some 0) else none).isNone) || (bif s then (decide ((wprF M n b s 2) < (bif (wokF M n b s 0) then (wprF M n b s 0) else 0))) else (decide ((bif (wokF M n b s 0) then (wprF M n b s 0) else 0) < (wprF M n b s 2))))) then (some 2) else (bif (wokF M n b s 0) then (some 0) else none)) else (bif (wokF M n b s 0) then (some 0) else none)))
set_option maxHeartbeats 4000000 in
set_option maxRecDepth 10000 in
theorem r161 {t : sT} {Q : sRs → sT → Prop} {M : sM} {n : Nat} {b : Nat} {s : Bool}
    (hM : rp t = M)
    (hc : Cn t)
    (hR : Ri M n)
    (hb : b < 5)
    (q : ∀ t', rp t' = M → cp t' = cp t → (∀ j, bwF M n b s = some j → j < 3) → Q (.inl (some (.inl (ov (bwF M n b s))))) t') :
    X 161 0 [.inr (.inr (12, (some 0))), .inl (io b), .inl (bz s), sJk, sJk, sJk, sJk, sJk] [] t Q := by
  refine x_iconst (pc' := 1) rfl rfl ?_
  refine x_istore_n (pc' := 2) (ls' := [_, _, _, _, _, _, _, _]) rfl rfl rfl rfl ?_
  refine x_iconst (pc' := 3) rfl rfl ?_
  refine x_istore (pc' := 5) (ls' := [_, _, _, _, _, _, _, _]) rfl rfl rfl rfl ?_
  refine x_iconst (pc' := 6) rfl rfl ?_
  refine x_istore (pc' := 8) (ls' := [_, _, _, _, _, _, _, _]) rfl rfl rfl rfl ?_
  refine x_iload (pc' := 10) rfl rfl rfl ?_
  refine x_iconst (pc' := 11) rfl rfl ?_
  refine x_icmp (a' := 99) (pc' := 14) (z := false) rfl rfl rfl (by decide) (fun h => by cases h) (fun _ => ?_)
  refine x_aload_n (pc' := 15) rfl rfl rfl rfl rfl ?_
  refine x_iload_n (pc' := 16) rfl rfl rfl ?_
  refine x_iload_n (pc' := 17) rfl rfl rfl ?_
  refine x_iload (pc' := 19) rfl rfl rfl ?_
  refine x_cv (ls0 := [_, _, _, _, sJk, sJk, sJk]) (rest := []) rfl rfl rfl rfl rfl ?_
  refine r159 hM hc (Fr.ri (Fr.refl _) hR) hb (by decide) (fun u1 h1 c1 y1 => ?_)
  refine sK_i (pc' := 22) rfl ?_
  have J7 : ∀ x9_5 : sV, ∀ x9_6 : sV, X 161 93 [.inr (.inr (12, (some 0))), .inl (io b), .inl (bz s), .inl (ov (bif (wokF M n b s 0) then (some 0) else none)), .inl (bif (wokF M n b s 0) then (wprF M n b s 0) else 0), .inl 0, x9_5, x9_6] [] u1 Q := by
    intro x9_5 x9_6
    refine x_iinc (pc' := 96) (y := 1) (ls' := [_, _, _, _, _, _, _, _]) rfl rfl rfl rfl rfl ?_
    refine x_goto (pc' := 8) rfl rfl ?_
    refine x_iload (pc' := 10) rfl rfl rfl ?_
    refine x_iconst (pc' := 11) rfl rfl ?_
    refine x_icmp (a' := 99) (pc' := 14) (z := false) rfl rfl rfl (by decide) (fun h => by cases h) (fun _ => ?_)
    refine x_aload_n (pc' := 15) rfl rfl rfl rfl rfl ?_
    refine x_iload_n (pc' := 16) rfl rfl rfl ?_
    refine x_iload_n (pc' := 17) rfl rfl rfl ?_
    refine x_iload (pc' := 19) rfl rfl rfl ?_
    refine x_cv (ls0 := [_, _, _, _, sJk, sJk, sJk]) (rest := []) rfl rfl rfl rfl rfl ?_
    refine r159 h1 (Cn_cp c1 hc) (Fr.ri (Fr.refl _) hR) hb (by decide) (fun u2 h2 c2 y2 => ?_)
    refine sK_i (pc' := 22) rfl ?_
    refine x_ifeq_z (a' := 93) (pc' := 25) (z := (wokF M n b s 1)) rfl rfl rfl (fun q10 => ?_) (fun q10 => ?_)
    · refine x_iinc (pc' := 96) (y := 2) (ls' := [_, _, _, _, _, _, _, _]) rfl rfl rfl rfl rfl ?_
      refine x_goto (pc' := 8) rfl rfl ?_
      refine x_iload (pc' := 10) rfl rfl rfl ?_
      refine x_iconst (pc' := 11) rfl rfl ?_
      refine x_icmp (a' := 99) (pc' := 14) (z := false) rfl rfl rfl (by decide) (fun h => by cases h) (fun _ => ?_)
      refine x_aload_n (pc' := 15) rfl rfl rfl rfl rfl ?_
      refine x_iload_n (pc' := 16) rfl rfl rfl ?_
      refine x_iload_n (pc' := 17) rfl rfl rfl ?_
      refine x_iload (pc' := 19) rfl rfl rfl ?_
      refine x_cv (ls0 := [_, _, _, _, sJk, sJk, sJk]) (rest := []) rfl rfl rfl rfl rfl ?_
      refine r159 h2 (Cn_cp (c2.trans c1) hc) (Fr.ri (Fr.refl _) hR) hb (by decide) (fun u3 h3 c3 y3 => ?_)
      refine sK_i (pc' := 22) rfl ?_
      refine x_ifeq_z (a' := 93) (pc' := 25) (z := (wokF M n b s 2)) rfl rfl rfl (fun q12 => ?_) (fun q12 => ?_)
      · refine x_iinc (pc' := 96) (y := 3) (ls' := [_, _, _, _, _, _, _, _]) rfl rfl rfl rfl rfl ?_
        refine x_goto (pc' := 8) rfl rfl ?_
        refine x_iload (pc' := 10) rfl rfl rfl ?_
        refine x_iconst (pc' := 11) rfl rfl ?_
        refine x_icmp (a' := 99) (pc' := 14) (z := true) rfl rfl rfl (by decide) (fun _ => ?_) (fun h => by cases h)
        refine x_iload_n (pc' := 100) rfl rfl rfl ?_
        refine x_reti rfl rfl ?_
        exact qv (by simp only [bwF, q10, q12, cd_t, cd_f]) (q _ h3 (c3.trans (c2.trans c1)) (by have hz : ∀ j, (bif (wokF M n b s 0) then (some 0) else none) = some j → j < 3 := (obd_c (obd_s (by decide)) obd_n); simpa only [bwF, q10, q12, cd_t, cd_f] using hz))
      · refine x_aload_n (pc' := 26) rfl rfl rfl rfl rfl ?_
        refine x_iload_n (pc' := 27) rfl rfl rfl ?_
        refine x_iload (pc' := 29) rfl rfl rfl ?_
        refine x_cv (ls0 := [_, _, _, sJk, sJk]) (rest := []) rfl rfl rfl rfl rfl ?_
        refine r160 h3 (Cn_cp (c3.trans (c2.trans c1)) hc) (Fr.ri (Fr.refl _) hR) hb (by decide) (gsome (d := []) q12) (y3 _ (gsome q12)) ?_
        refine sK_i (pc' := 32) rfl ?_
        refine x_istore (pc' := 34) (ls' := [_, _, _, _, _, _, _, _]) rfl rfl rfl rfl ?_
        refine x_iload_n (pc' := 35) rfl rfl rfl ?_
        refine x_iconst (pc' := 36) rfl rfl ?_
        have J17 : X 161 65 [.inr (.inr (12, (some 0))), .inl (io b), .inl (bz s), .inl (ov (bif (wokF M n b s 0) then (some 0) else none)), .inl (bif (wokF M n b s 0) then (wprF M n b s 0) else 0), .inl 2, .inl (wprF M n b s 2), x9_6] [.inl (bz (((bif (wokF M n b s 0) then (some 0) else none).isNone) || (bif s then (decide ((wprF M n b s 2) < (bif (wokF M n b s 0) then (wprF M n b s 0) else 0))) else (decide ((bif (wokF M n b s 0) then (wprF M n b s 0) else 0) < (wprF M n b s 2))))))] u3 Q := by
          refine x_istore (pc' := 67) (ls' := [_, _, _, _, _, _, _, _]) rfl rfl rfl rfl ?_
          refine x_iload (pc' := 69) rfl rfl rfl ?_
          have J19 : X 161 78 [.inr (.inr (12, (some 0))), .inl (io b), .inl (bz s), .inl (ov (bif (wokF M n b s 0) then (some 0) else none)), .inl (bif (wokF M n b s 0) then (wprF M n b s 0) else 0), .inl 2, .inl (wprF M n b s 2), .inl (bz (((bif (wokF M n b s 0) then (some 0) else none).isNone) || (bif s then (decide ((wprF M n b s 2) < (bif (wokF M n b s 0) then (wprF M n b s 0) else 0))) else (decide ((bif (wokF M n b s 0) then (wprF M n b s 0) else 0) < (wprF M n b s 2))))))] [.inl (ov (bif (((bif (wokF M n b s 0) then (some 0) else none).isNone) || (bif s then (decide ((wprF M n b s 2) < (bif (wokF M n b s 0) then (wprF M n b s 0) else 0))) else (decide ((bif (wokF M n b s 0) then (wprF M n b s 0) else 0) < (wprF M n b s 2))))) then (some 2) else (bif (wokF M n b s 0) then (some 0) else none)))] u3 Q := by
            refine x_istore_n (pc' := 79) (ls' := [_, _, _, _, _, _, _, _]) rfl rfl rfl rfl ?_
            refine x_iload (pc' := 81) rfl rfl rfl ?_
            have J21 : X 161 91 [.inr (.inr (12, (some 0))), .inl (io b), .inl (bz s), .inl (ov (bif (((bif (wokF M n b s 0) then (some 0) else none).isNone) || (bif s then (decide ((wprF M n b s 2) < (bif (wokF M n b s 0) then (wprF M n b s 0) else 0))) else (decide ((bif (wokF M n b s 0) then (wprF M n b s 0) else 0) < (wprF M n b s 2))))) then (some 2) else (bif (wokF M n b s 0) then (some 0) else none))), .inl (bif (wokF M n b s 0) then (wprF M n b s 0) else 0), .inl 2, .inl (wprF M n b s 2), .inl (bz (((bif (wokF M n b s 0) then (some 0) else none).isNone) || (bif s then (decide ((wprF M n b s 2) < (bif (wokF M n b s 0) then (wprF M n b s 0) else 0))) else (decide ((bif (wokF M n b s 0) then (wprF M n b s 0) else 0) < (wprF M n b s 2))))))] [.inl (bif (((bif (wokF M n b s 0) then (some 0) else none).isNone) || (bif s then (decide ((wprF M n b s 2) < (bif (wokF M n b s 0) then (wprF M n b s 0) else 0))) else (decide ((bif (wokF M n b s 0) then (wprF M n b s 0) else 0) < (wprF M n b s 2))))) then (wprF M n b s 2) else (bif (wokF M n b s 0) then (wprF M n b s 0) else 0))] u3 Q := by
              refine x_istore (pc' := 93) (ls' := [_, _, _, _, _, _, _, _]) rfl rfl rfl rfl ?_
              refine x_iinc (pc' := 96) (y := 3) (ls' := [_, _, _, _, _, _, _, _]) rfl rfl rfl rfl rfl ?_
              refine x_goto (pc' := 8) rfl rfl ?_
              refine x_iload (pc' := 10) rfl rfl rfl ?_
              refine x_iconst (pc' := 11) rfl rfl ?_
              refine x_icmp (a' := 99) (pc' := 14) (z := true) rfl rfl rfl (by decide) (fun _ => ?_) (fun h => by cases h)
              refine x_iload_n (pc' := 100) rfl rfl rfl ?_
              refine x_reti rfl rfl ?_
              exact qv (by simp only [bwF, q10, q12, cd_t, cd_f]) (q _ h3 (c3.trans (c2.trans c1)) (by have hz : ∀ j, (bif (((bif (wokF M n b s 0) then (some 0) else none).isNone) || (bif s then (decide ((wprF M n b s 2) < (bif (wokF M n b s 0) then (wprF M n b s 0) else 0))) else (decide ((bif (wokF M n b s 0) then (wprF M n b s 0) else 0) < (wprF M n b s 2))))) then (some 2) else (bif (wokF M n b s 0) then (some 0) else none)) = some j → j < 3 := (obd_c (obd_s (by decide)) (obd_c (obd_s (by decide)) obd_n)); simpa only [bwF, q10, q12, cd_t, cd_f] using hz))
            refine x_ifeq_z (a' := 89) (pc' := 84) (z := (((bif (wokF M n b s 0) then (some 0) else none).isNone) || (bif s then (decide ((wprF M n b s 2) < (bif (wokF M n b s 0) then (wprF M n b s 0) else 0))) else (decide ((bif (wokF M n b s 0) then (wprF M n b s 0) else 0) < (wprF M n b s 2)))))) rfl rfl rfl (fun q21 => ?_) (fun q21 => ?_)
            · refine x_iload (pc' := 91) rfl rfl rfl ?_
              ((try rw [q21] at J21); (try rw [q21]); (try simp only [cd_t, cd_f, nt_t, nt_f, an_t, an_f, or_t, or_f] at J21); (try simp only [cd_t, cd_f, nt_t, nt_f, an_t, an_f, or_t, or_f]); exact J21)
            · refine x_iload (pc' := 86) rfl rfl rfl ?_
              refine x_goto (pc' := 91) rfl rfl ?_
              ((try rw [q21] at J21); (try rw [q21]); (try simp only [cd_t, cd_f, nt_t, nt_f, an_t, an_f, or_t, or_f] at J21); (try simp only [cd_t, cd_f, nt_t, nt_f, an_t, an_f, or_t, or_f]); exact J21)
          refine x_ifeq_z (a' := 77) (pc' := 72) (z := (((bif (wokF M n b s 0) then (some 0) else none).isNone) || (bif s then (decide ((wprF M n b s 2) < (bif (wokF M n b s 0) then (wprF M n b s 0) else 0))) else (decide ((bif (wokF M n b s 0) then (wprF M n b s 0) else 0) < (wprF M n b s 2)))))) rfl rfl rfl (fun q19 => ?_) (fun q19 => ?_)
          · refine x_iload_n (pc' := 78) rfl rfl rfl ?_
            ((try rw [q19] at J19); (try rw [q19]); (try simp only [cd_t, cd_f, nt_t, nt_f, an_t, an_f, or_t, or_f] at J19); (try simp only [cd_t, cd_f, nt_t, nt_f, an_t, an_f, or_t, or_f]); exact J19)
          · refine x_iload (pc' := 74) rfl rfl rfl ?_
            refine x_goto (pc' := 78) rfl rfl ?_
            ((try rw [q19] at J19); (try rw [q19]); (try simp only [cd_t, cd_f, nt_t, nt_f, an_t, an_f, or_t, or_f] at J19); (try simp only [cd_t, cd_f, nt_t, nt_f, an_t, an_f, or_t, or_f]); exact J19)
        refine x_icmp (a' := 60) (pc' := 39) (z := (bif (wokF M n b s 0) then (some 0) else none).isNone) rfl rfl rfl (ov_eq (ov_31 (N := 3) (obd_c (obd_s (by decide)) obd_n) (by decide))) (fun q14 => ?_) (fun q14 => ?_)
        · refine x_iconst (pc' := 61) rfl rfl ?_
          refine x_goto (pc' := 65) rfl rfl ?_
          ((try rw [q14] at J17); (try rw [q14]); (try simp only [cd_t, cd_f, nt_t, nt_f, an_t, an_f, or_t, or_f] at J17); (try simp only [cd_t, cd_f, nt_t, nt_f, an_t, an_f, or_t, or_f]); exact J17)
        · refine x_iload_n (pc' := 40) rfl rfl rfl ?_
          refine x_ifeq_z (a' := 53) (pc' := 43) (z := s) rfl rfl rfl (fun q15 => ?_) (fun q15 => ?_)
          · refine x_iload (pc' := 55) rfl rfl rfl ?_
            refine x_iload (pc' := 57) rfl rfl rfl ?_
            refine x_icmp_n (a' := 64) (pc' := 60) (z := decide ((bif (wokF M n b s 0) then (wprF M n b s 0) else 0) < (wprF M n b s 2))) rfl rfl rfl (ik_le _ _) (fun q16 => ?_) (fun q16 => ?_)
            · refine x_iconst (pc' := 65) rfl rfl ?_
              ((try rw [q16] at J17); (try rw [q16]); (try rw [q14] at J17); (try rw [q14]); (try rw [q15] at J17); (try rw [q15]); (try simp only [cd_t, cd_f, nt_t, nt_f, an_t, an_f, or_t, or_f] at J17); (try simp only [cd_t, cd_f, nt_t, nt_f, an_t, an_f, or_t, or_f]); exact J17)
            · refine x_iconst (pc' := 61) rfl rfl ?_
              refine x_goto (pc' := 65) rfl rfl ?_
              ((try rw [q16] at J17); (try rw [q16]); (try rw [q14] at J17); (try rw [q14]); (try rw [q15] at J17); (try rw [q15]); (try simp only [cd_t, cd_f, nt_t, nt_f, an_t, an_f, or_t, or_f] at J17); (try simp only [cd_t, cd_f, nt_t, nt_f, an_t, an_f, or_t, or_f]); exact J17)
          · refine x_iload (pc' := 45) rfl rfl rfl ?_
            refine x_iload (pc' := 47) rfl rfl rfl ?_
            refine x_icmp_n (a' := 64) (pc' := 50) (z := decide ((wprF M n b s 2) < (bif (wokF M n b s 0) then (wprF M n b s 0) else 0))) rfl rfl rfl (ik_ge _ _) (fun q17 => ?_) (fun q17 => ?_)
            · refine x_iconst (pc' := 65) rfl rfl ?_
              ((try rw [q17] at J17); (try rw [q17]); (try rw [q14] at J17); (try rw [q14]); (try rw [q15] at J17); (try rw [q15]); (try simp only [cd_t, cd_f, nt_t, nt_f, an_t, an_f, or_t, or_f] at J17); (try simp only [cd_t, cd_f, nt_t, nt_f, an_t, an_f, or_t, or_f]); exact J17)
            · refine x_goto (pc' := 60) rfl rfl ?_
              refine x_iconst (pc' := 61) rfl rfl ?_
              refine x_goto (pc' := 65) rfl rfl ?_
              ((try rw [q17] at J17); (try rw [q17]); (try rw [q14] at J17); (try rw [q14]); (try rw [q15] at J17); (try rw [q15]); (try simp only [cd_t, cd_f, nt_t, nt_f, an_t, an_f, or_t, or_f] at J17); (try simp only [cd_t, cd_f, nt_t, nt_f, an_t, an_f, or_t, or_f]); exact J17)
    · refine x_aload_n (pc' := 26) rfl rfl rfl rfl rfl ?_
      refine x_iload_n (pc' := 27) rfl rfl rfl ?_
      refine x_iload (pc' := 29) rfl rfl rfl ?_
      refine x_cv (ls0 := [_, _, _, sJk, sJk]) (rest := []) rfl rfl rfl rfl rfl ?_
      refine r160 h2 (Cn_cp (c2.trans c1) hc) (Fr.ri (Fr.refl _) hR) hb (by decide) (gsome (d := []) q10) (y2 _ (gsome q10)) ?_
      refine sK_i (pc' := 32) rfl ?_
      refine x_istore (pc' := 34) (ls' := [_, _, _, _, _, _, _, _]) rfl rfl rfl rfl ?_
      refine x_iload_n (pc' := 35) rfl rfl rfl ?_
      refine x_iconst (pc' := 36) rfl rfl ?_
      have J27 : X 161 65 [.inr (.inr (12, (some 0))), .inl (io b), .inl (bz s), .inl (ov (bif (wokF M n b s 0) then (some 0) else none)), .inl (bif (wokF M n b s 0) then (wprF M n b s 0) else 0), .inl 1, .inl (wprF M n b s 1), x9_6] [.inl (bz (((bif (wokF M n b s 0) then (some 0) else none).isNone) || (bif s then (decide ((wprF M n b s 1) < (bif (wokF M n b s 0) then (wprF M n b s 0) else 0))) else (decide ((bif (wokF M n b s 0) then (wprF M n b s 0) else 0) < (wprF M n b s 1))))))] u2 Q := by
        refine x_istore (pc' := 67) (ls' := [_, _, _, _, _, _, _, _]) rfl rfl rfl rfl ?_
        refine x_iload (pc' := 69) rfl rfl rfl ?_
        have J29 : X 161 78 [.inr (.inr (12, (some 0))), .inl (io b), .inl (bz s), .inl (ov (bif (wokF M n b s 0) then (some 0) else none)), .inl (bif (wokF M n b s 0) then (wprF M n b s 0) else 0), .inl 1, .inl (wprF M n b s 1), .inl (bz (((bif (wokF M n b s 0) then (some 0) else none).isNone) || (bif s then (decide ((wprF M n b s 1) < (bif (wokF M n b s 0) then (wprF M n b s 0) else 0))) else (decide ((bif (wokF M n b s 0) then (wprF M n b s 0) else 0) < (wprF M n b s 1))))))] [.inl (ov (bif (((bif (wokF M n b s 0) then (some 0) else none).isNone) || (bif s then (decide ((wprF M n b s 1) < (bif (wokF M n b s 0) then (wprF M n b s 0) else 0))) else (decide ((bif (wokF M n b s 0) then (wprF M n b s 0) else 0) < (wprF M n b s 1))))) then (some 1) else (bif (wokF M n b s 0) then (some 0) else none)))] u2 Q := by
          refine x_istore_n (pc' := 79) (ls' := [_, _, _, _, _, _, _, _]) rfl rfl rfl rfl ?_
          refine x_iload (pc' := 81) rfl rfl rfl ?_
          have J31 : X 161 91 [.inr (.inr (12, (some 0))), .inl (io b), .inl (bz s), .inl (ov (bif (((bif (wokF M n b s 0) then (some 0) else none).isNone) || (bif s then (decide ((wprF M n b s 1) < (bif (wokF M n b s 0) then (wprF M n b s 0) else 0))) else (decide ((bif (wokF M n b s 0) then (wprF M n b s 0) else 0) < (wprF M n b s 1))))) then (some 1) else (bif (wokF M n b s 0) then (some 0) else none))), .inl (bif (wokF M n b s 0) then (wprF M n b s 0) else 0), .inl 1, .inl (wprF M n b s 1), .inl (bz (((bif (wokF M n b s 0) then (some 0) else none).isNone) || (bif s then (decide ((wprF M n b s 1) < (bif (wokF M n b s 0) then (wprF M n b s 0) else 0))) else (decide ((bif (wokF M n b s 0) then (wprF M n b s 0) else 0) < (wprF M n b s 1))))))] [.inl (bif (((bif (wokF M n b s 0) then (some 0) else none).isNone) || (bif s then (decide ((wprF M n b s 1) < (bif (wokF M n b s 0) then (wprF M n b s 0) else 0))) else (decide ((bif (wokF M n b s 0) then (wprF M n b s 0) else 0) < (wprF M n b s 1))))) then (wprF M n b s 1) else (bif (wokF M n b s 0) then (wprF M n b s 0) else 0))] u2 Q := by
            refine x_istore (pc' := 93) (ls' := [_, _, _, _, _, _, _, _]) rfl rfl rfl rfl ?_
            refine x_iinc (pc' := 96) (y := 2) (ls' := [_, _, _, _, _, _, _, _]) rfl rfl rfl rfl rfl ?_
            refine x_goto (pc' := 8) rfl rfl ?_
            refine x_iload (pc' := 10) rfl rfl rfl ?_
            refine x_iconst (pc' := 11) rfl rfl ?_
            refine x_icmp (a' := 99) (pc' := 14) (z := false) rfl rfl rfl (by decide) (fun h => by cases h) (fun _ => ?_)
            refine x_aload_n (pc' := 15) rfl rfl rfl rfl rfl ?_
            refine x_iload_n (pc' := 16) rfl rfl rfl ?_
            refine x_iload_n (pc' := 17) rfl rfl rfl ?_
            refine x_iload (pc' := 19) rfl rfl rfl ?_
            refine x_cv (ls0 := [_, _, _, _, sJk, sJk, sJk]) (rest := []) rfl rfl rfl rfl rfl ?_
            refine r159 h2 (Cn_cp (c2.trans c1) hc) (Fr.ri (Fr.refl _) hR) hb (by decide) (fun u4 h4 c4 y4 => ?_)
            refine sK_i (pc' := 22) rfl ?_
            have J43 : X 161 93 [.inr (.inr (12, (some 0))), .inl (io b), .inl (bz s), .inl (ov (bif (wokF M n b s 2) then (bif (((bif (((bif (wokF M n b s 0) then (some 0) else none).isNone) || (bif s then (decide ((wprF M n b s 1) < (bif (wokF M n b s 0) then (wprF M n b s 0) else 0))) else (decide ((bif (wokF M n b s 0) then (wprF M n b s 0) else 0) < (wprF M n b s 1))))) then (some 1) else (bif (wokF M n b s 0) then (some 0) else none)).isNone) || (bif s then (decide ((wprF M n b s 2) < (bif (((bif (wokF M n b s 0) then (some 0) else none).isNone) || (bif s then (decide ((wprF M n b s 1) < (bif (wokF M n b s 0) then (wprF M n b s 0) else 0))) else (decide ((bif (wokF M n b s 0) then (wprF M n b s 0) else 0) < (wprF M n b s 1))))) then (wprF M n b s 1) else (bif (wokF M n b s 0) then (wprF M n b s 0) else 0)))) else (decide ((bif (((bif (wokF M n b s 0) then (some 0) else none).isNone) || (bif s then (decide ((wprF M n b s 1) < (bif (wokF M n b s 0) then (wprF M n b s 0) else 0))) else (decide ((bif (wokF M n b s 0) then (wprF M n b s 0) else 0) < (wprF M n b s 1))))) then (wprF M n b s 1) else (bif (wokF M n b s 0) then (wprF M n b s 0) else 0)) < (wprF M n b s 2))))) then (some 2) else (bif (((bif (wokF M n b s 0) then (some 0) else none).isNone) || (bif s then (decide ((wprF M n b s 1) < (bif (wokF M n b s 0) then (wprF M n b s 0) else 0))) else (decide ((bif (wokF M n b s 0) then (wprF M n b s 0) else 0) < (wprF M n b s 1))))) then (some 1) else (bif (wokF M n b s 0) then (some 0) else none))) else (bif (((bif (wokF M n b s 0) then (some 0) else none).isNone) || (bif s then (decide ((wprF M n b s 1) < (bif (wokF M n b s 0) then (wprF M n b s 0) else 0))) else (decide ((bif (wokF M n b s 0) then (wprF M n b s 0) else 0) < (wprF M n b s 1))))) then (some 1) else (bif (wokF M n b s 0) then (some 0) else none)))), .inl (bif (wokF M n b s 2) then (bif (((bif (((bif (wokF M n b s 0) then (some 0) else none).isNone) || (bif s then (decide ((wprF M n b s 1) < (bif (wokF M n b s 0) then (wprF M n b s 0) else 0))) else (decide ((bif (wokF M n b s 0) then (wprF M n b s 0) else 0) < (wprF M n b s 1))))) then (some 1) else (bif (wokF M n b s 0) then (some 0) else none)).isNone) || (bif s then (decide ((wprF M n b s 2) < (bif (((bif (wokF M n b s 0) then (some 0) else none).isNone) || (bif s then (decide ((wprF M n b s 1) < (bif (wokF M n b s 0) then (wprF M n b s 0) else 0))) else (decide ((bif (wokF M n b s 0) then (wprF M n b s 0) else 0) < (wprF M n b s 1))))) then (wprF M n b s 1) else (bif (wokF M n b s 0) then (wprF M n b s 0) else 0)))) else (decide ((bif (((bif (wokF M n b s 0) then (some 0) else none).isNone) || (bif s then (decide ((wprF M n b s 1) < (bif (wokF M n b s 0) then (wprF M n b s 0) else 0))) else (decide ((bif (wokF M n b s 0) then (wprF M n b s 0) else 0) < (wprF M n b s 1))))) then (wprF M n b s 1) else (bif (wokF M n b s 0) then (wprF M n b s 0) else 0)) < (wprF M n b s 2))))) then (wprF M n b s 2) else (bif (((bif (wokF M n b s 0) then (some 0) else none).isNone) || (bif s then (decide ((wprF M n b s 1) < (bif (wokF M n b s 0) then (wprF M n b s 0) else 0))) else (decide ((bif (wokF M n b s 0) then (wprF M n b s 0) else 0) < (wprF M n b s 1))))) then (wprF M n b s 1) else (bif (wokF M n b s 0) then (wprF M n b s 0) else 0))) else (bif (((bif (wokF M n b s 0) then (some 0) else none).isNone) || (bif s then (decide ((wprF M n b s 1) < (bif (wokF M n b s 0) then (wprF M n b s 0) else 0))) else (decide ((bif (wokF M n b s 0) then (wprF M n b s 0) else 0) < (wprF M n b s 1))))) then (wprF M n b s 1) else (bif (wokF M n b s 0) then (wprF M n b s 0) else 0))), .inl 2, .inl (bif (wokF M n b s 2) then (wprF M n b s 2) else (wprF M n b s 1)), .inl (bz (bif (wokF M n b s 2) then (((bif (((bif (wokF M n b s 0) then (some 0) else none).isNone) || (bif s then (decide ((wprF M n b s 1) < (bif (wokF M n b s 0) then (wprF M n b s 0) else 0))) else (decide ((bif (wokF M n b s 0) then (wprF M n b s 0) else 0) < (wprF M n b s 1))))) then (some 1) else (bif (wokF M n b s 0) then (some 0) else none)).isNone) || (bif s then (decide ((wprF M n b s 2) < (bif (((bif (wokF M n b s 0) then (some 0) else none).isNone) || (bif s then (decide ((wprF M n b s 1) < (bif (wokF M n b s 0) then (wprF M n b s 0) else 0))) else (decide ((bif (wokF M n b s 0) then (wprF M n b s 0) else 0) < (wprF M n b s 1))))) then (wprF M n b s 1) else (bif (wokF M n b s 0) then (wprF M n b s 0) else 0)))) else (decide ((bif (((bif (wokF M n b s 0) then (some 0) else none).isNone) || (bif s then (decide ((wprF M n b s 1) < (bif (wokF M n b s 0) then (wprF M n b s 0) else 0))) else (decide ((bif (wokF M n b s 0) then (wprF M n b s 0) else 0) < (wprF M n b s 1))))) then (wprF M n b s 1) else (bif (wokF M n b s 0) then (wprF M n b s 0) else 0)) < (wprF M n b s 2))))) else (((bif (wokF M n b s 0) then (some 0) else none).isNone) || (bif s then (decide ((wprF M n b s 1) < (bif (wokF M n b s 0) then (wprF M n b s 0) else 0))) else (decide ((bif (wokF M n b s 0) then (wprF M n b s 0) else 0) < (wprF M n b s 1)))))))] [] u4 Q := by
              refine x_iinc (pc' := 96) (y := 3) (ls' := [_, _, _, _, _, _, _, _]) rfl rfl rfl rfl rfl ?_
              refine x_goto (pc' := 8) rfl rfl ?_
              refine x_iload (pc' := 10) rfl rfl rfl ?_
              refine x_iconst (pc' := 11) rfl rfl ?_
              refine x_icmp (a' := 99) (pc' := 14) (z := true) rfl rfl rfl (by decide) (fun _ => ?_) (fun h => by cases h)
              refine x_iload_n (pc' := 100) rfl rfl rfl ?_
              refine x_reti rfl rfl ?_
              exact qv (by simp only [bwF, q10, cd_t, cd_f]) (q _ h4 (c4.trans (c2.trans c1)) (by have hz : ∀ j, (bif (wokF M n b s 2) then (bif (((bif (((bif (wokF M n b s 0) then (some 0) else none).isNone) || (bif s then (decide ((wprF M n b s 1) < (bif (wokF M n b s 0) then (wprF M n b s 0) else 0))) else (decide ((bif (wokF M n b s 0) then (wprF M n b s 0) else 0) < (wprF M n b s 1))))) then (some 1) else (bif (wokF M n b s 0) then (some 0) else none)).isNone) || (bif s then (decide ((wprF M n b s 2) < (bif (((bif (wokF M n b s 0) then (some 0) else none).isNone) || (bif s then (decide ((wprF M n b s 1) < (bif (wokF M n b s 0) then (wprF M n b s 0) else 0))) else (decide ((bif (wokF M n b s 0) then (wprF M n b s 0) else 0) < (wprF M n b s 1))))) then (wprF M n b s 1) else (bif (wokF M n b s 0) then (wprF M n b s 0) else 0)))) else (decide ((bif (((bif (wokF M n b s 0) then (some 0) else none).isNone) || (bif s then (decide ((wprF M n b s 1) < (bif (wokF M n b s 0) then (wprF M n b s 0) else 0))) else (decide ((bif (wokF M n b s 0) then (wprF M n b s 0) else 0) < (wprF M n b s 1))))) then (wprF M n b s 1) else (bif (wokF M n b s 0) then (wprF M n b s 0) else 0)) < (wprF M n b s 2))))) then (some 2) else (bif (((bif (wokF M n b s 0) then (some 0) else none).isNone) || (bif s then (decide ((wprF M n b s 1) < (bif (wokF M n b s 0) then (wprF M n b s 0) else 0))) else (decide ((bif (wokF M n b s 0) then (wprF M n b s 0) else 0) < (wprF M n b s 1))))) then (some 1) else (bif (wokF M n b s 0) then (some 0) else none))) else (bif (((bif (wokF M n b s 0) then (some 0) else none).isNone) || (bif s then (decide ((wprF M n b s 1) < (bif (wokF M n b s 0) then (wprF M n b s 0) else 0))) else (decide ((bif (wokF M n b s 0) then (wprF M n b s 0) else 0) < (wprF M n b s 1))))) then (some 1) else (bif (wokF M n b s 0) then (some 0) else none))) = some j → j < 3 := (obd_c (obd_c (obd_s (by decide)) (obd_c (obd_s (by decide)) (obd_c (obd_s (by decide)) obd_n))) (obd_c (obd_s (by decide)) (obd_c (obd_s (by decide)) obd_n))); simpa only [bwF, q10, cd_t, cd_f] using hz))
            refine x_ifeq_z (a' := 93) (pc' := 25) (z := (wokF M n b s 2)) rfl rfl rfl (fun q34 => ?_) (fun q34 => ?_)
            · ((try rw [q34] at J43); (try rw [q34]); (try simp only [cd_t, cd_f, nt_t, nt_f, an_t, an_f, or_t, or_f] at J43); (try simp only [cd_t, cd_f, nt_t, nt_f, an_t, an_f, or_t, or_f]); exact J43)
            · refine x_aload_n (pc' := 26) rfl rfl rfl rfl rfl ?_
              refine x_iload_n (pc' := 27) rfl rfl rfl ?_
              refine x_iload (pc' := 29) rfl rfl rfl ?_
              refine x_cv (ls0 := [_, _, _, sJk, sJk]) (rest := []) rfl rfl rfl rfl rfl ?_
              refine r160 h4 (Cn_cp (c4.trans (c2.trans c1)) hc) (Fr.ri (Fr.refl _) hR) hb (by decide) (gsome (d := []) q34) (y4 _ (gsome q34)) ?_
              refine sK_i (pc' := 32) rfl ?_
              refine x_istore (pc' := 34) (ls' := [_, _, _, _, _, _, _, _]) rfl rfl rfl rfl ?_
              refine x_iload_n (pc' := 35) rfl rfl rfl ?_
              refine x_iconst (pc' := 36) rfl rfl ?_
              have J38 : X 161 65 [.inr (.inr (12, (some 0))), .inl (io b), .inl (bz s), .inl (ov (bif (((bif (wokF M n b s 0) then (some 0) else none).isNone) || (bif s then (decide ((wprF M n b s 1) < (bif (wokF M n b s 0) then (wprF M n b s 0) else 0))) else (decide ((bif (wokF M n b s 0) then (wprF M n b s 0) else 0) < (wprF M n b s 1))))) then (some 1) else (bif (wokF M n b s 0) then (some 0) else none))), .inl (bif (((bif (wokF M n b s 0) then (some 0) else none).isNone) || (bif s then (decide ((wprF M n b s 1) < (bif (wokF M n b s 0) then (wprF M n b s 0) else 0))) else (decide ((bif (wokF M n b s 0) then (wprF M n b s 0) else 0) < (wprF M n b s 1))))) then (wprF M n b s 1) else (bif (wokF M n b s 0) then (wprF M n b s 0) else 0)), .inl 2, .inl (wprF M n b s 2), .inl (bz (((bif (wokF M n b s 0) then (some 0) else none).isNone) || (bif s then (decide ((wprF M n b s 1) < (bif (wokF M n b s 0) then (wprF M n b s 0) else 0))) else (decide ((bif (wokF M n b s 0) then (wprF M n b s 0) else 0) < (wprF M n b s 1))))))] [.inl (bz (((bif (((bif (wokF M n b s 0) then (some 0) else none).isNone) || (bif s then (decide ((wprF M n b s 1) < (bif (wokF M n b s 0) then (wprF M n b s 0) else 0))) else (decide ((bif (wokF M n b s 0) then (wprF M n b s 0) else 0) < (wprF M n b s 1))))) then (some 1) else (bif (wokF M n b s 0) then (some 0) else none)).isNone) || (bif s then (decide ((wprF M n b s 2) < (bif (((bif (wokF M n b s 0) then (some 0) else none).isNone) || (bif s then (decide ((wprF M n b s 1) < (bif (wokF M n b s 0) then (wprF M n b s 0) else 0))) else (decide ((bif (wokF M n b s 0) then (wprF M n b s 0) else 0) < (wprF M n b s 1))))) then (wprF M n b s 1) else (bif (wokF M n b s 0) then (wprF M n b s 0) else 0)))) else (decide ((bif (((bif (wokF M n b s 0) then (some 0) else none).isNone) || (bif s then (decide ((wprF M n b s 1) < (bif (wokF M n b s 0) then (wprF M n b s 0) else 0))) else (decide ((bif (wokF M n b s 0) then (wprF M n b s 0) else 0) < (wprF M n b s 1))))) then (wprF M n b s 1) else (bif (wokF M n b s 0) then (wprF M n b s 0) else 0)) < (wprF M n b s 2))))))] u4 Q := by
                refine x_istore (pc' := 67) (ls' := [_, _, _, _, _, _, _, _]) rfl rfl rfl rfl ?_
                refine x_iload (pc' := 69) rfl rfl rfl ?_
                have J40 : X 161 78 [.inr (.inr (12, (some 0))), .inl (io b), .inl (bz s), .inl (ov (bif (((bif (wokF M n b s 0) then (some 0) else none).isNone) || (bif s then (decide ((wprF M n b s 1) < (bif (wokF M n b s 0) then (wprF M n b s 0) else 0))) else (decide ((bif (wokF M n b s 0) then (wprF M n b s 0) else 0) < (wprF M n b s 1))))) then (some 1) else (bif (wokF M n b s 0) then (some 0) else none))), .inl (bif (((bif (wokF M n b s 0) then (some 0) else none).isNone) || (bif s then (decide ((wprF M n b s 1) < (bif (wokF M n b s 0) then (wprF M n b s 0) else 0))) else (decide ((bif (wokF M n b s 0) then (wprF M n b s 0) else 0) < (wprF M n b s 1))))) then (wprF M n b s 1) else (bif (wokF M n b s 0) then (wprF M n b s 0) else 0)), .inl 2, .inl (wprF M n b s 2), .inl (bz (((bif (((bif (wokF M n b s 0) then (some 0) else none).isNone) || (bif s then (decide ((wprF M n b s 1) < (bif (wokF M n b s 0) then (wprF M n b s 0) else 0))) else (decide ((bif (wokF M n b s 0) then (wprF M n b s 0) else 0) < (wprF M n b s 1))))) then (some 1) else (bif (wokF M n b s 0) then (some 0) else none)).isNone) || (bif s then (decide ((wprF M n b s 2) < (bif (((bif (wokF M n b s 0) then (some 0) else none).isNone) || (bif s then (decide ((wprF M n b s 1) < (bif (wokF M n b s 0) then (wprF M n b s 0) else 0))) else (decide ((bif (wokF M n b s 0) then (wprF M n b s 0) else 0) < (wprF M n b s 1))))) then (wprF M n b s 1) else (bif (wokF M n b s 0) then (wprF M n b s 0) else 0)))) else (decide ((bif (((bif (wokF M n b s 0) then (some 0) else none).isNone) || (bif s then (decide ((wprF M n b s 1) < (bif (wokF M n b s 0) then (wprF M n b s 0) else 0))) else (decide ((bif (wokF M n b s 0) then (wprF M n b s 0) else 0) < (wprF M n b s 1))))) then (wprF M n b s 1) else (bif (wokF M n b s 0) then (wprF M n b s 0) else 0)) < (wprF M n b s 2))))))] [.inl (ov (bif (((bif (((bif (wokF M n b s 0) then (some 0) else none).isNone) || (bif s then (decide ((wprF M n b s 1) < (bif (wokF M n b s 0) then (wprF M n b s 0) else 0))) else (decide ((bif (wokF M n b s 0) then (wprF M n b s 0) else 0) < (wprF M n b s 1))))) then (some 1) else (bif (wokF M n b s 0) then (some 0) else none)).isNone) || (bif s then (decide ((wprF M n b s 2) < (bif (((bif (wokF M n b s 0) then (some 0) else none).isNone) || (bif s then (decide ((wprF M n b s 1) < (bif (wokF M n b s 0) then (wprF M n b s 0) else 0))) else (decide ((bif (wokF M n b s 0) then (wprF M n b s 0) else 0) < (wprF M n b s 1))))) then (wprF M n b s 1) else (bif (wokF M n b s 0) then (wprF M n b s 0) else 0)))) else (decide ((bif (((bif (wokF M n b s 0) then (some 0) else none).isNone) || (bif s then (decide ((wprF M n b s 1) < (bif (wokF M n b s 0) then (wprF M n b s 0) else 0))) else (decide ((bif (wokF M n b s 0) then (wprF M n b s 0) else 0) < (wprF M n b s 1))))) then (wprF M n b s 1) else (bif (wokF M n b s 0) then (wprF M n b s 0) else 0)) < (wprF M n b s 2))))) then (some 2) else (bif (((bif (wokF M n b s 0) then (some 0) else none).isNone) || (bif s then (decide ((wprF M n b s 1) < (bif (wokF M n b s 0) then (wprF M n b s 0) else 0))) else (decide ((bif (wokF M n b s 0) then (wprF M n b s 0) else 0) < (wprF M n b s 1))))) then (some 1) else (bif (wokF M n b s 0) then (some 0) else none))))] u4 Q := by
                  refine x_istore_n (pc' := 79) (ls' := [_, _, _, _, _, _, _, _]) rfl rfl rfl rfl ?_
                  refine x_iload (pc' := 81) rfl rfl rfl ?_
                  have J42 : X 161 91 [.inr (.inr (12, (some 0))), .inl (io b), .inl (bz s), .inl (ov (bif (((bif (((bif (wokF M n b s 0) then (some 0) else none).isNone) || (bif s then (decide ((wprF M n b s 1) < (bif (wokF M n b s 0) then (wprF M n b s 0) else 0))) else (decide ((bif (wokF M n b s 0) then (wprF M n b s 0) else 0) < (wprF M n b s 1))))) then (some 1) else (bif (wokF M n b s 0) then (some 0) else none)).isNone) || (bif s then (decide ((wprF M n b s 2) < (bif (((bif (wokF M n b s 0) then (some 0) else none).isNone) || (bif s then (decide ((wprF M n b s 1) < (bif (wokF M n b s 0) then (wprF M n b s 0) else 0))) else (decide ((bif (wokF M n b s 0) then (wprF M n b s 0) else 0) < (wprF M n b s 1))))) then (wprF M n b s 1) else (bif (wokF M n b s 0) then (wprF M n b s 0) else 0)))) else (decide ((bif (((bif (wokF M n b s 0) then (some 0) else none).isNone) || (bif s then (decide ((wprF M n b s 1) < (bif (wokF M n b s 0) then (wprF M n b s 0) else 0))) else (decide ((bif (wokF M n b s 0) then (wprF M n b s 0) else 0) < (wprF M n b s 1))))) then (wprF M n b s 1) else (bif (wokF M n b s 0) then (wprF M n b s 0) else 0)) < (wprF M n b s 2))))) then (some 2) else (bif (((bif (wokF M n b s 0) then (some 0) else none).isNone) || (bif s then (decide ((wprF M n b s 1) < (bif (wokF M n b s 0) then (wprF M n b s 0) else 0))) else (decide ((bif (wokF M n b s 0) then (wprF M n b s 0) else 0) < (wprF M n b s 1))))) then (some 1) else (bif (wokF M n b s 0) then (some 0) else none)))), .inl (bif (((bif (wokF M n b s 0) then (some 0) else none).isNone) || (bif s then (decide ((wprF M n b s 1) < (bif (wokF M n b s 0) then (wprF M n b s 0) else 0))) else (decide ((bif (wokF M n b s 0) then (wprF M n b s 0) else 0) < (wprF M n b s 1))))) then (wprF M n b s 1) else (bif (wokF M n b s 0) then (wprF M n b s 0) else 0)), .inl 2, .inl (wprF M n b s 2), .inl (bz (((bif (((bif (wokF M n b s 0) then (some 0) else none).isNone) || (bif s then (decide ((wprF M n b s 1) < (bif (wokF M n b s 0) then (wprF M n b s 0) else 0))) else (decide ((bif (wokF M n b s 0) then (wprF M n b s 0) else 0) < (wprF M n b s 1))))) then (some 1) else (bif (wokF M n b s 0) then (some 0) else none)).isNone) || (bif s then (decide ((wprF M n b s 2) < (bif (((bif (wokF M n b s 0) then (some 0) else none).isNone) || (bif s then (decide ((wprF M n b s 1) < (bif (wokF M n b s 0) then (wprF M n b s 0) else 0))) else (decide ((bif (wokF M n b s 0) then (wprF M n b s 0) else 0) < (wprF M n b s 1))))) then (wprF M n b s 1) else (bif (wokF M n b s 0) then (wprF M n b s 0) else 0)))) else (decide ((bif (((bif (wokF M n b s 0) then (some 0) else none).isNone) || (bif s then (decide ((wprF M n b s 1) < (bif (wokF M n b s 0) then (wprF M n b s 0) else 0))) else (decide ((bif (wokF M n b s 0) then (wprF M n b s 0) else 0) < (wprF M n b s 1))))) then (wprF M n b s 1) else (bif (wokF M n b s 0) then (wprF M n b s 0) else 0)) < (wprF M n b s 2))))))] [.inl (bif (((bif (((bif (wokF M n b s 0) then (some 0) else none).isNone) || (bif s then (decide ((wprF M n b s 1) < (bif (wokF M n b s 0) then (wprF M n b s 0) else 0))) else (decide ((bif (wokF M n b s 0) then (wprF M n b s 0) else 0) < (wprF M n b s 1))))) then (some 1) else (bif (wokF M n b s 0) then (some 0) else none)).isNone) || (bif s then (decide ((wprF M n b s 2) < (bif (((bif (wokF M n b s 0) then (some 0) else none).isNone) || (bif s then (decide ((wprF M n b s 1) < (bif (wokF M n b s 0) then (wprF M n b s 0) else 0))) else (decide ((bif (wokF M n b s 0) then (wprF M n b s 0) else 0) < (wprF M n b s 1))))) then (wprF M n b s 1) else (bif (wokF M n b s 0) then (wprF M n b s 0) else 0)))) else (decide ((bif (((bif (wokF M n b s 0) then (some 0) else none).isNone) || (bif s then (decide ((wprF M n b s 1) < (bif (wokF M n b s 0) then (wprF M n b s 0) else 0))) else (decide ((bif (wokF M n b s 0) then (wprF M n b s 0) else 0) < (wprF M n b s 1))))) then (wprF M n b s 1) else (bif (wokF M n b s 0) then (wprF M n b s 0) else 0)) < (wprF M n b s 2))))) then (wprF M n b s 2) else (bif (((bif (wokF M n b s 0) then (some 0) else none).isNone) || (bif s then (decide ((wprF M n b s 1) < (bif (wokF M n b s 0) then (wprF M n b s 0) else 0))) else (decide ((bif (wokF M n b s 0) then (wprF M n b s 0) else 0) < (wprF M n b s 1))))) then (wprF M n b s 1) else (bif (wokF M n b s 0) then (wprF M n b s 0) else 0)))] u4 Q := by
                    refine x_istore (pc' := 93) (ls' := [_, _, _, _, _, _, _, _]) rfl rfl rfl rfl ?_
                    ((try rw [q34] at J43); (try rw [q34]); (try simp only [cd_t, cd_f, nt_t, nt_f, an_t, an_f, or_t, or_f] at J43); (try simp only [cd_t, cd_f, nt_t, nt_f, an_t, an_f, or_t, or_f]); exact J43)
                  refine x_ifeq_z (a' := 89) (pc' := 84) (z := (((bif (((bif (wokF M n b s 0) then (some 0) else none).isNone) || (bif s then (decide ((wprF M n b s 1) < (bif (wokF M n b s 0) then (wprF M n b s 0) else 0))) else (decide ((bif (wokF M n b s 0) then (wprF M n b s 0) else 0) < (wprF M n b s 1))))) then (some 1) else (bif (wokF M n b s 0) then (some 0) else none)).isNone) || (bif s then (decide ((wprF M n b s 2) < (bif (((bif (wokF M n b s 0) then (some 0) else none).isNone) || (bif s then (decide ((wprF M n b s 1) < (bif (wokF M n b s 0) then (wprF M n b s 0) else 0))) else (decide ((bif (wokF M n b s 0) then (wprF M n b s 0) else 0) < (wprF M n b s 1))))) then (wprF M n b s 1) else (bif (wokF M n b s 0) then (wprF M n b s 0) else 0)))) else (decide ((bif (((bif (wokF M n b s 0) then (some 0) else none).isNone) || (bif s then (decide ((wprF M n b s 1) < (bif (wokF M n b s 0) then (wprF M n b s 0) else 0))) else (decide ((bif (wokF M n b s 0) then (wprF M n b s 0) else 0) < (wprF M n b s 1))))) then (wprF M n b s 1) else (bif (wokF M n b s 0) then (wprF M n b s 0) else 0)) < (wprF M n b s 2)))))) rfl rfl rfl (fun q42 => ?_) (fun q42 => ?_)
                  · refine x_iload (pc' := 91) rfl rfl rfl ?_
                    ((try rw [q42] at J42); (try rw [q42]); (try simp only [cd_t, cd_f, nt_t, nt_f, an_t, an_f, or_t, or_f] at J42); (try simp only [cd_t, cd_f, nt_t, nt_f, an_t, an_f, or_t, or_f]); exact J42)
                  · refine x_iload (pc' := 86) rfl rfl rfl ?_
                    refine x_goto (pc' := 91) rfl rfl ?_
                    ((try rw [q42] at J42); (try rw [q42]); (try simp only [cd_t, cd_f, nt_t, nt_f, an_t, an_f, or_t, or_f] at J42); (try simp only [cd_t, cd_f, nt_t, nt_f, an_t, an_f, or_t, or_f]); exact J42)
                refine x_ifeq_z (a' := 77) (pc' := 72) (z := (((bif (((bif (wokF M n b s 0) then (some 0) else none).isNone) || (bif s then (decide ((wprF M n b s 1) < (bif (wokF M n b s 0) then (wprF M n b s 0) else 0))) else (decide ((bif (wokF M n b s 0) then (wprF M n b s 0) else 0) < (wprF M n b s 1))))) then (some 1) else (bif (wokF M n b s 0) then (some 0) else none)).isNone) || (bif s then (decide ((wprF M n b s 2) < (bif (((bif (wokF M n b s 0) then (some 0) else none).isNone) || (bif s then (decide ((wprF M n b s 1) < (bif (wokF M n b s 0) then (wprF M n b s 0) else 0))) else (decide ((bif (wokF M n b s 0) then (wprF M n b s 0) else 0) < (wprF M n b s 1))))) then (wprF M n b s 1) else (bif (wokF M n b s 0) then (wprF M n b s 0) else 0)))) else (decide ((bif (((bif (wokF M n b s 0) then (some 0) else none).isNone) || (bif s then (decide ((wprF M n b s 1) < (bif (wokF M n b s 0) then (wprF M n b s 0) else 0))) else (decide ((bif (wokF M n b s 0) then (wprF M n b s 0) else 0) < (wprF M n b s 1))))) then (wprF M n b s 1) else (bif (wokF M n b s 0) then (wprF M n b s 0) else 0)) < (wprF M n b s 2)))))) rfl rfl rfl (fun q40 => ?_) (fun q40 => ?_)
                · refine x_iload_n (pc' := 78) rfl rfl rfl ?_
                  ((try rw [q40] at J40); (try rw [q40]); (try simp only [cd_t, cd_f, nt_t, nt_f, an_t, an_f, or_t, or_f] at J40); (try simp only [cd_t, cd_f, nt_t, nt_f, an_t, an_f, or_t, or_f]); exact J40)
                · refine x_iload (pc' := 74) rfl rfl rfl ?_
                  refine x_goto (pc' := 78) rfl rfl ?_
                  ((try rw [q40] at J40); (try rw [q40]); (try simp only [cd_t, cd_f, nt_t, nt_f, an_t, an_f, or_t, or_f] at J40); (try simp only [cd_t, cd_f, nt_t, nt_f, an_t, an_f, or_t, or_f]); exact J40)
              refine x_icmp (a' := 60) (pc' := 39) (z := (bif (((bif (wokF M n b s 0) then (some 0) else none).isNone) || (bif s then (decide ((wprF M n b s 1) < (bif (wokF M n b s 0) then (wprF M n b s 0) else 0))) else (decide ((bif (wokF M n b s 0) then (wprF M n b s 0) else 0) < (wprF M n b s 1))))) then (some 1) else (bif (wokF M n b s 0) then (some 0) else none)).isNone) rfl rfl rfl (ov_eq (ov_31 (N := 3) (obd_c (obd_s (by decide)) (obd_c (obd_s (by decide)) obd_n)) (by decide))) (fun q35 => ?_) (fun q35 => ?_)
              · refine x_iconst (pc' := 61) rfl rfl ?_
                refine x_goto (pc' := 65) rfl rfl ?_
                ((try rw [q35] at J38); (try rw [q35]); (try simp only [cd_t, cd_f, nt_t, nt_f, an_t, an_f, or_t, or_f] at J38); (try simp only [cd_t, cd_f, nt_t, nt_f, an_t, an_f, or_t, or_f]); exact J38)
              · refine x_iload_n (pc' := 40) rfl rfl rfl ?_
                refine x_ifeq_z (a' := 53) (pc' := 43) (z := s) rfl rfl rfl (fun q36 => ?_) (fun q36 => ?_)
                · refine x_iload (pc' := 55) rfl rfl rfl ?_
                  refine x_iload (pc' := 57) rfl rfl rfl ?_
                  refine x_icmp_n (a' := 64) (pc' := 60) (z := decide ((bif (((bif (wokF M n b s 0) then (some 0) else none).isNone) || (bif s then (decide ((wprF M n b s 1) < (bif (wokF M n b s 0) then (wprF M n b s 0) else 0))) else (decide ((bif (wokF M n b s 0) then (wprF M n b s 0) else 0) < (wprF M n b s 1))))) then (wprF M n b s 1) else (bif (wokF M n b s 0) then (wprF M n b s 0) else 0)) < (wprF M n b s 2))) rfl rfl rfl (ik_le _ _) (fun q37 => ?_) (fun q37 => ?_)
                  · refine x_iconst (pc' := 65) rfl rfl ?_
                    ((try rw [q37] at J38); (try rw [q37]); (try rw [q35] at J38); (try rw [q35]); (try rw [q36] at J38); (try rw [q36]); (try simp only [cd_t, cd_f, nt_t, nt_f, an_t, an_f, or_t, or_f] at J38); (try simp only [cd_t, cd_f, nt_t, nt_f, an_t, an_f, or_t, or_f]); exact J38)
                  · refine x_iconst (pc' := 61) rfl rfl ?_
                    refine x_goto (pc' := 65) rfl rfl ?_
                    ((try rw [q37] at J38); (try rw [q37]); (try rw [q35] at J38); (try rw [q35]); (try rw [q36] at J38); (try rw [q36]); (try simp only [cd_t, cd_f, nt_t, nt_f, an_t, an_f, or_t, or_f] at J38); (try simp only [cd_t, cd_f, nt_t, nt_f, an_t, an_f, or_t, or_f]); exact J38)
                · refine x_iload (pc' := 45) rfl rfl rfl ?_
                  refine x_iload (pc' := 47) rfl rfl rfl ?_
                  refine x_icmp_n (a' := 64) (pc' := 50) (z := decide ((wprF M n b s 2) < (bif (((bif (wokF M n b s 0) then (some 0) else none).isNone) || (bif s then (decide ((wprF M n b s 1) < (bif (wokF M n b s 0) then (wprF M n b s 0) else 0))) else (decide ((bif (wokF M n b s 0) then (wprF M n b s 0) else 0) < (wprF M n b s 1))))) then (wprF M n b s 1) else (bif (wokF M n b s 0) then (wprF M n b s 0) else 0)))) rfl rfl rfl (ik_ge _ _) (fun q38 => ?_) (fun q38 => ?_)
                  · refine x_iconst (pc' := 65) rfl rfl ?_
                    ((try rw [q38] at J38); (try rw [q38]); (try rw [q35] at J38); (try rw [q35]); (try rw [q36] at J38); (try rw [q36]); (try simp only [cd_t, cd_f, nt_t, nt_f, an_t, an_f, or_t, or_f] at J38); (try simp only [cd_t, cd_f, nt_t, nt_f, an_t, an_f, or_t, or_f]); exact J38)
                  · refine x_goto (pc' := 60) rfl rfl ?_
                    refine x_iconst (pc' := 61) rfl rfl ?_
                    refine x_goto (pc' := 65) rfl rfl ?_
                    ((try rw [q38] at J38); (try rw [q38]); (try rw [q35] at J38); (try rw [q35]); (try rw [q36] at J38); (try rw [q36]); (try simp only [cd_t, cd_f, nt_t, nt_f, an_t, an_f, or_t, or_f] at J38); (try simp only [cd_t, cd_f, nt_t, nt_f, an_t, an_f, or_t, or_f]); exact J38)
          refine x_ifeq_z (a' := 89) (pc' := 84) (z := (((bif (wokF M n b s 0) then (some 0) else none).isNone) || (bif s then (decide ((wprF M n b s 1) < (bif (wokF M n b s 0) then (wprF M n b s 0) else 0))) else (decide ((bif (wokF M n b s 0) then (wprF M n b s 0) else 0) < (wprF M n b s 1)))))) rfl rfl rfl (fun q31 => ?_) (fun q31 => ?_)
          · refine x_iload (pc' := 91) rfl rfl rfl ?_
            ((try rw [q31] at J31); (try rw [q31]); (try simp only [cd_t, cd_f, nt_t, nt_f, an_t, an_f, or_t, or_f] at J31); (try simp only [cd_t, cd_f, nt_t, nt_f, an_t, an_f, or_t, or_f]); exact J31)
          · refine x_iload (pc' := 86) rfl rfl rfl ?_
            refine x_goto (pc' := 91) rfl rfl ?_
            ((try rw [q31] at J31); (try rw [q31]); (try simp only [cd_t, cd_f, nt_t, nt_f, an_t, an_f, or_t, or_f] at J31); (try simp only [cd_t, cd_f, nt_t, nt_f, an_t, an_f, or_t, or_f]); exact J31)
        refine x_ifeq_z (a' := 77) (pc' := 72) (z := (((bif (wokF M n b s 0) then (some 0) else none).isNone) || (bif s then (decide ((wprF M n b s 1) < (bif (wokF M n b s 0) then (wprF M n b s 0) else 0))) else (decide ((bif (wokF M n b s 0) then (wprF M n b s 0) else 0) < (wprF M n b s 1)))))) rfl rfl rfl (fun q29 => ?_) (fun q29 => ?_)
        · refine x_iload_n (pc' := 78) rfl rfl rfl ?_
          ((try rw [q29] at J29); (try rw [q29]); (try simp only [cd_t, cd_f, nt_t, nt_f, an_t, an_f, or_t, or_f] at J29); (try simp only [cd_t, cd_f, nt_t, nt_f, an_t, an_f, or_t, or_f]); exact J29)
        · refine x_iload (pc' := 74) rfl rfl rfl ?_
          refine x_goto (pc' := 78) rfl rfl ?_
          ((try rw [q29] at J29); (try rw [q29]); (try simp only [cd_t, cd_f, nt_t, nt_f, an_t, an_f, or_t, or_f] at J29); (try simp only [cd_t, cd_f, nt_t, nt_f, an_t, an_f, or_t, or_f]); exact J29)
      refine x_icmp (a' := 60) (pc' := 39) (z := (bif (wokF M n b s 0) then (some 0) else none).isNone) rfl rfl rfl (ov_eq (ov_31 (N := 3) (obd_c (obd_s (by decide)) obd_n) (by decide))) (fun q24 => ?_) (fun q24 => ?_)
      · refine x_iconst (pc' := 61) rfl rfl ?_
        refine x_goto (pc' := 65) rfl rfl ?_
        ((try rw [q24] at J27); (try rw [q24]); (try simp only [cd_t, cd_f, nt_t, nt_f, an_t, an_f, or_t, or_f] at J27); (try simp only [cd_t, cd_f, nt_t, nt_f, an_t, an_f, or_t, or_f]); exact J27)
      · refine x_iload_n (pc' := 40) rfl rfl rfl ?_
        refine x_ifeq_z (a' := 53) (pc' := 43) (z := s) rfl rfl rfl (fun q25 => ?_) (fun q25 => ?_)
        · refine x_iload (pc' := 55) rfl rfl rfl ?_
          refine x_iload (pc' := 57) rfl rfl rfl ?_
          refine x_icmp_n (a' := 64) (pc' := 60) (z := decide ((bif (wokF M n b s 0) then (wprF M n b s 0) else 0) < (wprF M n b s 1))) rfl rfl rfl (ik_le _ _) (fun q26 => ?_) (fun q26 => ?_)
          · refine x_iconst (pc' := 65) rfl rfl ?_
            ((try rw [q26] at J27); (try rw [q26]); (try rw [q24] at J27); (try rw [q24]); (try rw [q25] at J27); (try rw [q25]); (try simp only [cd_t, cd_f, nt_t, nt_f, an_t, an_f, or_t, or_f] at J27); (try simp only [cd_t, cd_f, nt_t, nt_f, an_t, an_f, or_t, or_f]); exact J27)
          · refine x_iconst (pc' := 61) rfl rfl ?_
            refine x_goto (pc' := 65) rfl rfl ?_
            ((try rw [q26] at J27); (try rw [q26]); (try rw [q24] at J27); (try rw [q24]); (try rw [q25] at J27); (try rw [q25]); (try simp only [cd_t, cd_f, nt_t, nt_f, an_t, an_f, or_t, or_f] at J27); (try simp only [cd_t, cd_f, nt_t, nt_f, an_t, an_f, or_t, or_f]); exact J27)
        · refine x_iload (pc' := 45) rfl rfl rfl ?_
          refine x_iload (pc' := 47) rfl rfl rfl ?_
          refine x_icmp_n (a' := 64) (pc' := 50) (z := decide ((wprF M n b s 1) < (bif (wokF M n b s 0) then (wprF M n b s 0) else 0))) rfl rfl rfl (ik_ge _ _) (fun q27 => ?_) (fun q27 => ?_)
          · refine x_iconst (pc' := 65) rfl rfl ?_
            ((try rw [q27] at J27); (try rw [q27]); (try rw [q24] at J27); (try rw [q24]); (try rw [q25] at J27); (try rw [q25]); (try simp only [cd_t, cd_f, nt_t, nt_f, an_t, an_f, or_t, or_f] at J27); (try simp only [cd_t, cd_f, nt_t, nt_f, an_t, an_f, or_t, or_f]); exact J27)
          · refine x_goto (pc' := 60) rfl rfl ?_
            refine x_iconst (pc' := 61) rfl rfl ?_
            refine x_goto (pc' := 65) rfl rfl ?_
            ((try rw [q27] at J27); (try rw [q27]); (try rw [q24] at J27); (try rw [q24]); (try rw [q25] at J27); (try rw [q25]); (try simp only [cd_t, cd_f, nt_t, nt_f, an_t, an_f, or_t, or_f] at J27); (try simp only [cd_t, cd_f, nt_t, nt_f, an_t, an_f, or_t, or_f]); exact J27)
  refine x_ifeq_z (a' := 93) (pc' := 25) (z := (wokF M n b s 0)) rfl rfl rfl (fun q2 => ?_) (fun q2 => ?_)
  · ((try rw [q2] at J7); (try rw [q2]); (try simp only [cd_t, cd_f, nt_t, nt_f, an_t, an_f, or_t, or_f] at J7); (try simp only [cd_t, cd_f, nt_t, nt_f, an_t, an_f, or_t, or_f]); exact J7 _ _)
  · refine x_aload_n (pc' := 26) rfl rfl rfl rfl rfl ?_
    refine x_iload_n (pc' := 27) rfl rfl rfl ?_
    refine x_iload (pc' := 29) rfl rfl rfl ?_
    refine x_cv (ls0 := [_, _, _, sJk, sJk]) (rest := []) rfl rfl rfl rfl rfl ?_
    refine r160 h1 (Cn_cp c1 hc) (Fr.ri (Fr.refl _) hR) hb (by decide) (gsome (d := []) q2) (y1 _ (gsome q2)) ?_
    refine sK_i (pc' := 32) rfl ?_
    refine x_istore (pc' := 34) (ls' := [_, _, _, _, _, _, _, _]) rfl rfl rfl rfl ?_
    refine x_iload_n (pc' := 35) rfl rfl rfl ?_
    refine x_iconst (pc' := 36) rfl rfl ?_
    refine x_icmp (a' := 60) (pc' := 39) (z := true) rfl rfl rfl (by decide) (fun _ => ?_) (fun h => by cases h)
    refine x_iconst (pc' := 61) rfl rfl ?_
    refine x_goto (pc' := 65) rfl rfl ?_
    refine x_istore (pc' := 67) (ls' := [_, _, _, _, _, _, _, _]) rfl rfl rfl rfl ?_
    refine x_iload (pc' := 69) rfl rfl rfl ?_
    refine x_if (a' := 77) (pc' := 72) (z := false) rfl rfl rfl (by decide) (fun h => by cases h) (fun _ => ?_)
    refine x_iload (pc' := 74) rfl rfl rfl ?_
    refine x_goto (pc' := 78) rfl rfl ?_
    refine x_istore_n (pc' := 79) (ls' := [_, _, _, _, _, _, _, _]) rfl rfl rfl rfl ?_
    refine x_iload (pc' := 81) rfl rfl rfl ?_
    refine x_if (a' := 89) (pc' := 84) (z := false) rfl rfl rfl (by decide) (fun h => by cases h) (fun _ => ?_)
    refine x_iload (pc' := 86) rfl rfl rfl ?_
    refine x_goto (pc' := 91) rfl rfl ?_
    refine x_istore (pc' := 93) (ls' := [_, _, _, _, _, _, _, _]) rfl rfl rfl rfl ?_
    ((try rw [q2] at J7); (try rw [q2]); (try simp only [cd_t, cd_f, nt_t, nt_f, an_t, an_f, or_t, or_f] at J7); (try simp only [cd_t, cd_f, nt_t, nt_f, an_t, an_f, or_t, or_f]); exact J7 _ _)
