/-! pieces of the class (printed by cw0.py) -/
/-- the class's part of a store, all of it together -/
def Wc (t : sT) (M : sM) (n T : Nat) (L : List Nat) (A B : Nat) : Prop := Rl t M n T ∧ Sf t M n T ∧ Ri M n ∧ rlC t M n ∧ LL t T n L A B ∧ L.length ≤ 200
theorem LL_gx {t : sT} {Q : sRs → sT → Prop} {T n A B k x : Nat} {L : List Nat} (hL : LL t T n L A B) (hk : k < L.length) (hx : L.getD k 0 = x) (q : Q (.inl (some (.inr (.inr (8, some x))))) t) : X 252 0 [.inr (.inr (13, some 2)), .inl (io k)] [] t Q := by
  subst hx
  exact LL_g hL hk q
theorem snd3 {b c : Nat} (hb : b < 5) (h : snd b = some c) : c < 3 := by
  unfold snd at h
  split at h
  · cases h
  · cases h; omega
theorem pos_ne0 {h : Int32} (h0 : 0 < h) : ¬ h = 0 := fun e => by rw [e] at h0; exact absurd h0 (by decide)
set_option maxHeartbeats 4000000 in
set_option maxRecDepth 10000 in
theorem n59_0 {t : sT} {Q : sRs → sT → Prop} {M : sM} {n : Nat} {T : Nat} {L0 : List Nat} {A : Nat} {B : Nat} {m : Nat}
    (hW : Wc t M n T L0 A B)
    (k0 : X 59 4 [.inr (.inr (6, (some 0))), .inr (.inr (7, (some m))), .inl 0, .inl 0] [] t Q) :
    X 59 0 [.inr (.inr (6, (some 0))), .inr (.inr (7, (some m))), sJk, sJk] [] t Q := by
  obtain ⟨hM, hc, hR, hC, hL, hL9⟩ := hW
  refine x_iconst (pc' := 1) rfl rfl ?_
  refine x_istore_n (pc' := 2) (ls' := [_, _, _, _]) rfl rfl rfl rfl ?_
  refine x_iconst (pc' := 3) rfl rfl ?_
  refine x_istore_n (pc' := 4) (ls' := [_, _, _, _]) rfl rfl rfl rfl ?_
  exact k0
set_option maxHeartbeats 4000000 in
set_option maxRecDepth 10000 in
theorem n59_e {t : sT} {Q : sRs → sT → Prop} {M : sM} {n : Nat} {T : Nat} {L0 : List Nat} {A : Nat} {B : Nat} {m : Nat} {z : Bool}
    (hW : Wc t M n T L0 A B)
    (k0 : Q (.inl (some (.inl (bz z)))) t) :
    X 59 4 [.inr (.inr (6, (some 0))), .inr (.inr (7, (some m))), .inl (bz z), .inl (io L0.length)] [] t Q := by
  obtain ⟨hM, hc, hR, hC, hL, hL9⟩ := hW
  refine x_iload_n (pc' := 5) rfl rfl rfl ?_
  refine x_aload_n (pc' := 6) rfl rfl rfl rfl rfl ?_
  refine x_gR (pc' := 9) (r := (some 2)) rfl rfl rfl (kR_387_0 hc.1) ?_
  refine x_cv (ls0 := [_]) (rest := [_]) rfl rfl rfl rfl rfl ?_
  refine x_aload_n (pc' := 1) rfl rfl rfl rfl rfl ?_
  refine x_gI (pc' := 4) (x := (io L0.length)) rfl rfl rfl (show sI t 834 2 = io L0.length from LL_s hL) ?_
  refine x_reti rfl rfl ?_
  refine sK_i (pc' := 12) rfl ?_
  refine x_icmp_n (a' := 59) (pc' := 15) (z := decide (L0.length < L0.length)) rfl rfl rfl (ic_gen (p := L0.length) (q := L0.length) (Nat.lt_of_le_of_lt hL9 (by decide)) (Nat.lt_of_le_of_lt hL9 (by decide))) (fun _ => ?_) (fun h => absurd (of_decide_eq_true h) (by first | decide | omega | simp))
  refine x_iload_n (pc' := 60) rfl rfl rfl ?_
  refine x_retz (z := z) rfl rfl ?_
  exact k0
set_option maxHeartbeats 4000000 in
set_option maxRecDepth 10000 in
theorem n59_k {t : sT} {Q : sRs → sT → Prop} {M : sM} {n : Nat} {T : Nat} {L0 : List Nat} {A : Nat} {B : Nat} {k : Nat} {x : Nat} {m : Nat} {z : Bool}
    (hW : Wc t M n T L0 A B)
    (hk : k < L0.length)
    (hx : L0.getD k 0 = x)
    (hxn : x < n)
    (k0 : ¬ (oM M x = m) → X 59 4 [.inr (.inr (6, (some 0))), .inr (.inr (7, (some m))), .inl (bz z), .inl (io (k + 1))] [] t Q)
    (k1 : oM M x = m → X 30 0 [.inr (.inr (4, (some 0))), .inr (.inr (8, (some x)))] [] t (sK 30 59 48 [.inr (.inr (6, (some 0))), .inr (.inr (7, (some m))), .inl (bz z), .inl (io k)] [] Q)) :
    X 59 4 [.inr (.inr (6, (some 0))), .inr (.inr (7, (some m))), .inl (bz z), .inl (io k)] [] t Q := by
  obtain ⟨hM, hc, hR, hC, hL, hL9⟩ := hW
  refine x_iload_n (pc' := 5) rfl rfl rfl ?_
  refine x_aload_n (pc' := 6) rfl rfl rfl rfl rfl ?_
  refine x_gR (pc' := 9) (r := (some 2)) rfl rfl rfl (kR_387_0 hc.1) ?_
  refine x_cv (ls0 := [_]) (rest := [_]) rfl rfl rfl rfl rfl ?_
  refine x_aload_n (pc' := 1) rfl rfl rfl rfl rfl ?_
  refine x_gI (pc' := 4) (x := (io L0.length)) rfl rfl rfl (show sI t 834 2 = io L0.length from LL_s hL) ?_
  refine x_reti rfl rfl ?_
  refine sK_i (pc' := 12) rfl ?_
  refine x_icmp_n (a' := 59) (pc' := 15) (z := decide (k < L0.length)) rfl rfl rfl (ic_gen (p := k) (q := L0.length) (Nat.lt_trans hk (Nat.lt_of_le_of_lt hL9 (by decide))) (Nat.lt_of_le_of_lt hL9 (by decide))) (fun h => absurd hk (of_decide_eq_false h)) (fun _ => ?_)
  refine x_aload_n (pc' := 16) rfl rfl rfl rfl rfl ?_
  refine x_gR (pc' := 19) (r := (some 2)) rfl rfl rfl (kR_387_0 hc.1) ?_
  refine x_iload_n (pc' := 20) rfl rfl rfl ?_
  refine x_cv (ls0 := [_, _]) (rest := []) rfl rfl rfl rfl rfl ?_
  refine LL_gx hL hk hx ?_
  refine sK_i (pc' := 23) rfl ?_
  refine x_cast (pc' := 26) rfl rfl rfl ?_
  refine x_gR (pc' := 29) (r := (some (oM M x))) rfl rfl rfl (Sf_513f hc (Fr.refl _) hxn) ?_
  refine x_aload_n (pc' := 30) rfl rfl rfl rfl rfl ?_
  refine x_acmp_nen (a' := 53) (pc' := 33) (z := decide (oM M x = m)) rfl rfl rfl rfl dec_some (fun q2 => ?_) (fun q2 => ?_)
  · refine x_iinc (pc' := 56) (y := (io (k + 1))) (ls' := [_, _, _, _]) rfl rfl rfl (io_add k 1) rfl ?_
    refine x_goto (pc' := 4) rfl rfl ?_
    exact k0 (of_decide_eq_false q2)
  · refine x_aload_n (pc' := 34) rfl rfl rfl rfl rfl ?_
    refine x_gR (pc' := 37) (r := (some 0)) rfl rfl rfl (kR_385_0 hc.1) ?_
    refine x_aload_n (pc' := 38) rfl rfl rfl rfl rfl ?_
    refine x_gR (pc' := 41) (r := (some 2)) rfl rfl rfl (kR_387_0 hc.1) ?_
    refine x_iload_n (pc' := 42) rfl rfl rfl ?_
    refine x_cv (ls0 := [_, _]) (rest := [_]) rfl rfl rfl rfl rfl ?_
    refine LL_gx hL hk hx ?_
    refine sK_i (pc' := 45) rfl ?_
    refine x_cast (pc' := 48) rfl rfl rfl ?_
    refine x_cv (ls0 := [_, _]) (rest := []) rfl rfl rfl rfl rfl ?_
    exact k1 (of_decide_eq_true q2)
set_option maxHeartbeats 4000000 in
set_option maxRecDepth 10000 in
theorem n59_c {t : sT} {Q : sRs → sT → Prop} {M : sM} {n : Nat} {T : Nat} {L0 : List Nat} {A : Nat} {B : Nat} {k : Nat} {x : Nat} {m : Nat} {z : Bool}
    (hW : Wc t M n T L0 A B)
    (hk : k < L0.length)
    (hx : L0.getD k 0 = x)
    (hxn : x < n)
    (k0 : X 59 4 [.inr (.inr (6, (some 0))), .inr (.inr (7, (some m))), .inl 1, .inl (io (k + 1))] [] t Q) :
    X 59 51 [.inr (.inr (6, (some 0))), .inr (.inr (7, (some m))), .inl (bz z), .inl (io k)] [] t Q := by
  obtain ⟨hM, hc, hR, hC, hL, hL9⟩ := hW
  refine x_iconst (pc' := 52) rfl rfl ?_
  refine x_istore_n (pc' := 53) (ls' := [_, _, _, _]) rfl rfl rfl rfl ?_
  refine x_iinc (pc' := 56) (y := (io (k + 1))) (ls' := [_, _, _, _]) rfl rfl rfl (io_add k 1) rfl ?_
  refine x_goto (pc' := 4) rfl rfl ?_
  exact k0
set_option maxHeartbeats 4000000 in
set_option maxRecDepth 10000 in
theorem n58_0 {t : sT} {Q : sRs → sT → Prop} {M : sM} {n : Nat} {T : Nat} {L0 : List Nat} {A : Nat} {B : Nat} {o : Nat}
    (hW : Wc t M n T L0 A B)
    (ho : o < n)
    (k0 : X 58 2 [.inr (.inr (6, (some 0))), .inr (.inr (8, (some o))), .inr (.inr (8, (some o)))] [] t Q) :
    X 58 0 [.inr (.inr (6, (some 0))), .inr (.inr (8, (some o))), sJk] [] t Q := by
  obtain ⟨hM, hc, hR, hC, hL, hL9⟩ := hW
  refine x_aload_n (pc' := 1) rfl rfl rfl rfl rfl ?_
  refine x_astore_n (pc' := 2) (ls' := [_, _, _]) rfl rfl rfl rfl rfl ?_
  exact k0
set_option maxHeartbeats 4000000 in
set_option maxRecDepth 10000 in
theorem n58_n {t : sT} {Q : sRs → sT → Prop} {M : sM} {n : Nat} {T : Nat} {L0 : List Nat} {A : Nat} {B : Nat} {o : Nat}
    (hW : Wc t M n T L0 A B)
    (ho : o < n)
    (k0 : Q (.inl none) t) :
    X 58 2 [.inr (.inr (6, (some 0))), .inr (.inr (8, (some o))), .inr (.inr (8, none))] [] t Q := by
  obtain ⟨hM, hc, hR, hC, hL, hL9⟩ := hW
  refine x_aload_n (pc' := 3) rfl rfl rfl rfl rfl ?_
  refine x_ifnull (a' := 34) (pc' := 6) rfl rfl rfl rfl (fun _ => ?_) (fun i h => by cases h)
  refine x_ret rfl ?_
  exact k0
set_option maxHeartbeats 4000000 in
set_option maxRecDepth 10000 in
theorem n58_k {t : sT} {Q : sRs → sT → Prop} {M : sM} {n : Nat} {T : Nat} {L0 : List Nat} {A : Nat} {B : Nat} {o : Nat} {x : Nat}
    (hW : Wc t M n T L0 A B)
    (ho : o < n)
    (hxn : x < n)
    (k0 : ¬ ((mA M 14 x) = (mA M 14 o)) → Q (.inl none) t)
    (k1 : (mA M 14 x) = (mA M 14 o) → X 254 0 [.inr (.inr (13, (some 2))), .inr (.inr (8, (some x)))] [] t (sK 254 58 22 [.inr (.inr (6, (some 0))), .inr (.inr (8, (some o))), .inr (.inr (8, (some x)))] [] Q)) :
    X 58 2 [.inr (.inr (6, (some 0))), .inr (.inr (8, (some o))), .inr (.inr (8, (some x)))] [] t Q := by
  obtain ⟨hM, hc, hR, hC, hL, hL9⟩ := hW
  refine x_aload_n (pc' := 3) rfl rfl rfl rfl rfl ?_
  refine x_ifnull (a' := 34) (pc' := 6) rfl rfl rfl rfl (fun h => by cases h) (fun _ _ => ?_)
  refine x_aload_n (pc' := 7) rfl rfl rfl rfl rfl ?_
  refine x_gI (pc' := 10) (x := (mA M 14 x)) rfl rfl rfl ((kA hM rfl hxn).trans (congrFun (Fr.f14 (Fr.refl _)) _)) ?_
  refine x_aload_n (pc' := 11) rfl rfl rfl rfl rfl ?_
  refine x_gI (pc' := 14) (x := (mA M 14 o)) rfl rfl rfl ((kA hM rfl ho).trans (congrFun (Fr.f14 (Fr.refl _)) _)) ?_
  refine x_icmp_n (a' := 34) (pc' := 17) (z := decide ((mA M 14 x) = (mA M 14 o))) rfl rfl rfl (ik_ne _ _) (fun q2 => ?_) (fun q2 => ?_)
  · refine x_ret rfl ?_
    exact k0 (of_decide_eq_false q2)
  · refine x_aload_n (pc' := 18) rfl rfl rfl rfl rfl ?_
    refine x_gR (pc' := 21) (r := (some 2)) rfl rfl rfl (kR_387_0 hc.1) ?_
    refine x_aload_n (pc' := 22) rfl rfl rfl rfl rfl ?_
    refine x_cv (ls0 := [_, _]) (rest := []) rfl rfl rfl rfl rfl ?_
    exact k1 (of_decide_eq_true q2)
set_option maxHeartbeats 4000000 in
set_option maxRecDepth 10000 in
theorem n58_c {t : sT} {Q : sRs → sT → Prop} {M : sM} {n : Nat} {T : Nat} {L0 : List Nat} {A : Nat} {B : Nat} {o : Nat} {x : Nat} {z : Bool}
    (hW : Wc t M n T L0 A B)
    (ho : o < n)
    (hxn : x < n)
    (k0 : X 58 2 [.inr (.inr (6, (some 0))), .inr (.inr (8, (some o))), .inr (.inr (8, (sR t 529 x)))] [] t Q) :
    X 58 25 [.inr (.inr (6, (some 0))), .inr (.inr (8, (some o))), .inr (.inr (8, (some x)))] [.inl (bz z)] t Q := by
  obtain ⟨hM, hc, hR, hC, hL, hL9⟩ := hW
  refine x_pop (pc' := 26) rfl rfl rfl ?_
  refine x_aload_n (pc' := 27) rfl rfl rfl rfl rfl ?_
  refine x_gR (pc' := 30) (r := (sR t 529 x)) rfl rfl rfl rfl ?_
  refine x_astore_n (pc' := 31) (ls' := [_, _, _]) rfl rfl rfl rfl rfl ?_
  refine x_goto (pc' := 2) rfl rfl ?_
  exact k0
set_option maxHeartbeats 4000000 in
set_option maxRecDepth 10000 in
theorem n61_0 {t : sT} {Q : sRs → sT → Prop} {M : sM} {n : Nat} {T : Nat} {L0 : List Nat} {A : Nat} {B : Nat} {c : Nat} {p : Int32}
    (hW : Wc t M n T L0 A B)
    (k0 : X 61 8 [.inr (.inr (6, (some 0))), .inr (.inr (2, (some c))), .inl p, .inr (.inr (2, (some c))), .inl p, .inl 0, sJk, sJk] [] t Q) :
    X 61 0 [.inr (.inr (6, (some 0))), .inr (.inr (2, (some c))), .inl p, sJk, sJk, sJk, sJk, sJk] [] t Q := by
  obtain ⟨hM, hc, hR, hC, hL, hL9⟩ := hW
  refine x_aload_n (pc' := 1) rfl rfl rfl rfl rfl ?_
  refine x_astore_n (pc' := 2) (ls' := [_, _, _, _, _, _, _, _]) rfl rfl rfl rfl rfl ?_
  refine x_iload_n (pc' := 3) rfl rfl rfl ?_
  refine x_istore (pc' := 5) (ls' := [_, _, _, _, _, _, _, _]) rfl rfl rfl rfl ?_
  refine x_iconst (pc' := 6) rfl rfl ?_
  refine x_istore (pc' := 8) (ls' := [_, _, _, _, _, _, _, _]) rfl rfl rfl rfl ?_
  exact k0
set_option maxHeartbeats 4000000 in
set_option maxRecDepth 10000 in
theorem n61_e {t : sT} {Q : sRs → sT → Prop} {M : sM} {n : Nat} {T : Nat} {L0 : List Nat} {A : Nat} {B : Nat} {c : Nat} {p : Int32} {c0 : Nat} {p0 : Int32} {y0 : sV} {y1 : sV}
    (hW : Wc t M n T L0 A B)
    (k0 : Q (.inl none) t) :
    X 61 8 [.inr (.inr (6, (some 0))), .inr (.inr (2, (some c0))), .inl p0, .inr (.inr (2, (some c))), .inl p, .inl (io L0.length), y0, y1] [] t Q := by
  obtain ⟨hM, hc, hR, hC, hL, hL9⟩ := hW
  refine x_iload (pc' := 10) rfl rfl rfl ?_
  refine x_aload_n (pc' := 11) rfl rfl rfl rfl rfl ?_
  refine x_gR (pc' := 14) (r := (some 2)) rfl rfl rfl (kR_387_0 hc.1) ?_
  refine x_cv (ls0 := [_]) (rest := [_]) rfl rfl rfl rfl rfl ?_
  refine x_aload_n (pc' := 1) rfl rfl rfl rfl rfl ?_
  refine x_gI (pc' := 4) (x := (io L0.length)) rfl rfl rfl (show sI t 834 2 = io L0.length from LL_s hL) ?_
  refine x_reti rfl rfl ?_
  refine sK_i (pc' := 17) rfl ?_
  refine x_icmp_n (a' := 132) (pc' := 20) (z := decide (L0.length < L0.length)) rfl rfl rfl (ic_gen (p := L0.length) (q := L0.length) (Nat.lt_of_le_of_lt hL9 (by decide)) (Nat.lt_of_le_of_lt hL9 (by decide))) (fun _ => ?_) (fun h => absurd (of_decide_eq_true h) (by first | decide | omega | simp))
  refine x_ret rfl ?_
  exact k0
set_option maxHeartbeats 4000000 in
set_option maxRecDepth 10000 in
theorem n61_k {t : sT} {Q : sRs → sT → Prop} {M : sM} {n : Nat} {T : Nat} {L0 : List Nat} {A : Nat} {B : Nat} {k : Nat} {x : Nat} {c : Nat} {p : Int32} {c0 : Nat} {p0 : Int32} {y0 : sV} {y1 : sV}
    (hW : Wc t M n T L0 A B)
    (hk : k < L0.length)
    (hx : L0.getD k 0 = x)
    (hxn : x < n)
    (k0 : (snd (oB M x)) = none → X 61 8 [.inr (.inr (6, (some 0))), .inr (.inr (2, (some c0))), .inl p0, .inr (.inr (2, (some c))), .inl p, .inl (io (k + 1)), .inr (.inr (8, (some x))), y1] [] (sIw (sRw t 527 x (some c)) 528 x p) Q)
    (k1 : ∀ j0, (snd (oB M x)) = some j0 → X 61 8 [.inr (.inr (6, (some 0))), .inr (.inr (2, (some c0))), .inl p0, .inr (.inr (2, (bif (decide (fst (oB M x) = c)) then (some j0) else (some (fst (oB M x)))))), .inl (p + (bif (decide (fst (oB M x) = c)) then (-(mA M 14 x)) else (mA M 14 x))), .inl (io (k + 1)), .inr (.inr (8, (some x))), .inl (bz (decide (fst (oB M x) = c)))] [] (sIw (sRw t 527 x (some c)) 528 x p) Q) :
    X 61 8 [.inr (.inr (6, (some 0))), .inr (.inr (2, (some c0))), .inl p0, .inr (.inr (2, (some c))), .inl p, .inl (io k), y0, y1] [] t Q := by
  obtain ⟨hM, hc, hR, hC, hL, hL9⟩ := hW
  refine x_iload (pc' := 10) rfl rfl rfl ?_
  refine x_aload_n (pc' := 11) rfl rfl rfl rfl rfl ?_
  refine x_gR (pc' := 14) (r := (some 2)) rfl rfl rfl (kR_387_0 hc.1) ?_
  refine x_cv (ls0 := [_]) (rest := [_]) rfl rfl rfl rfl rfl ?_
  refine x_aload_n (pc' := 1) rfl rfl rfl rfl rfl ?_
  refine x_gI (pc' := 4) (x := (io L0.length)) rfl rfl rfl (show sI t 834 2 = io L0.length from LL_s hL) ?_
  refine x_reti rfl rfl ?_
  refine sK_i (pc' := 17) rfl ?_
  refine x_icmp_n (a' := 132) (pc' := 20) (z := decide (k < L0.length)) rfl rfl rfl (ic_gen (p := k) (q := L0.length) (Nat.lt_trans hk (Nat.lt_of_le_of_lt hL9 (by decide))) (Nat.lt_of_le_of_lt hL9 (by decide))) (fun h => absurd hk (of_decide_eq_false h)) (fun _ => ?_)
  refine x_aload_n (pc' := 21) rfl rfl rfl rfl rfl ?_
  refine x_gR (pc' := 24) (r := (some 2)) rfl rfl rfl (kR_387_0 hc.1) ?_
  refine x_iload (pc' := 26) rfl rfl rfl ?_
  refine x_cv (ls0 := [_, _]) (rest := []) rfl rfl rfl rfl rfl ?_
  refine LL_gx hL hk hx ?_
  refine sK_i (pc' := 29) rfl ?_
  refine x_cast (pc' := 32) rfl rfl rfl ?_
  refine x_astore (pc' := 34) (ls' := [_, _, _, _, _, _, _, _]) rfl rfl rfl rfl rfl ?_
  refine x_aload (pc' := 36) rfl rfl rfl rfl rfl ?_
  refine x_aload_n (pc' := 37) rfl rfl rfl rfl rfl ?_
  refine x_pR (pc' := 40) rfl rfl rfl ?_
  refine x_aload (pc' := 42) rfl rfl rfl rfl rfl ?_
  refine x_iload (pc' := 44) rfl rfl rfl ?_
  refine x_pI (pc' := 47) rfl rfl rfl ?_
  refine x_aload (pc' := 49) rfl rfl rfl rfl rfl ?_
  refine x_gR (pc' := 52) (r := (some (oB M x))) rfl rfl rfl (Eq.trans (b := sR t 514 x) rfl (Sf_514f hc (Fr.refl _) hxn)) ?_
  refine x_gR (pc' := 55) (r := (snd (oB M x))) rfl rfl rfl (Eq.trans (b := sR t 66 (oB M x)) rfl (kBk hc.1 (gb5 hR hxn)).2.1) ?_
  refine x_ifnull (a' := 126) (pc' := 58) rfl rfl rfl rfl (fun q2 => ?_) (fun j0 q2 => ?_)
  · refine x_iinc (pc' := 129) (y := (io (k + 1))) (ls' := [_, _, _, _, _, _, _, _]) rfl rfl rfl (io_add k 1) rfl ?_
    refine x_goto (pc' := 8) rfl rfl ?_
    exact k0 q2
  · refine x_aload (pc' := 60) rfl rfl rfl rfl rfl ?_
    refine x_gR (pc' := 63) (r := (some (oB M x))) rfl rfl rfl (Eq.trans (b := sR t 514 x) rfl (Sf_514f hc (Fr.refl _) hxn)) ?_
    refine x_gR (pc' := 66) (r := (some (fst (oB M x)))) rfl rfl rfl (Eq.trans (b := sR t 65 (oB M x)) rfl (kBk hc.1 (gb5 hR hxn)).1) ?_
    refine x_aload_n (pc' := 67) rfl rfl rfl rfl rfl ?_
    have J3 : X 61 75 [.inr (.inr (6, (some 0))), .inr (.inr (2, (some c0))), .inl p0, .inr (.inr (2, (some c))), .inl p, .inl (io k), .inr (.inr (8, (some x))), y1] [.inl (bz (decide (fst (oB M x) = c)))] (sIw (sRw t 527 x (some c)) 528 x p) Q := by
      refine x_istore (pc' := 77) (ls' := [_, _, _, _, _, _, _, _]) rfl rfl rfl rfl ?_
      refine x_iload (pc' := 79) rfl rfl rfl ?_
      refine x_iload (pc' := 81) rfl rfl rfl ?_
      have J5 : X 61 98 [.inr (.inr (6, (some 0))), .inr (.inr (2, (some c0))), .inl p0, .inr (.inr (2, (some c))), .inl p, .inl (io k), .inr (.inr (8, (some x))), .inl (bz (decide (fst (oB M x) = c)))] [.inl (bif (decide (fst (oB M x) = c)) then (-(mA M 14 x)) else (mA M 14 x)), .inl p] (sIw (sRw t 527 x (some c)) 528 x p) Q := by
        refine x_iadd (pc' := 99) (z := (p + (bif (decide (fst (oB M x) = c)) then (-(mA M 14 x)) else (mA M 14 x)))) rfl rfl rfl ?_
        refine x_istore (pc' := 101) (ls' := [_, _, _, _, _, _, _, _]) rfl rfl rfl rfl ?_
        refine x_iload (pc' := 103) rfl rfl rfl ?_
        have J7 : X 61 125 [.inr (.inr (6, (some 0))), .inr (.inr (2, (some c0))), .inl p0, .inr (.inr (2, (some c))), .inl (p + (bif (decide (fst (oB M x) = c)) then (-(mA M 14 x)) else (mA M 14 x))), .inl (io k), .inr (.inr (8, (some x))), .inl (bz (decide (fst (oB M x) = c)))] [.inr (.inr (2, (bif (decide (fst (oB M x) = c)) then (some j0) else (some (fst (oB M x))))))] (sIw (sRw t 527 x (some c)) 528 x p) Q := by
          refine x_astore_n (pc' := 126) (ls' := [_, _, _, _, _, _, _, _]) rfl rfl rfl rfl rfl ?_
          refine x_iinc (pc' := 129) (y := (io (k + 1))) (ls' := [_, _, _, _, _, _, _, _]) rfl rfl rfl (io_add k 1) rfl ?_
          refine x_goto (pc' := 8) rfl rfl ?_
          exact k1 j0 q2
        refine x_ifeq_z (a' := 117) (pc' := 106) (z := (decide (fst (oB M x) = c))) rfl rfl rfl (fun q7 => ?_) (fun q7 => ?_)
        · refine x_aload (pc' := 119) rfl rfl rfl rfl rfl ?_
          refine x_gR (pc' := 122) (r := (some (oB M x))) rfl rfl rfl (Eq.trans (b := sR t 514 x) rfl (Sf_514f hc (Fr.refl _) hxn)) ?_
          refine x_gR (pc' := 125) (r := (some (fst (oB M x)))) rfl rfl rfl (Eq.trans (b := sR t 65 (oB M x)) rfl (kBk hc.1 (gb5 hR hxn)).1) ?_
          ((try rw [q7] at J7); (try rw [q7]); (try simp only [cd_t, cd_f, nt_t, nt_f, an_t, an_f, or_t, or_f] at J7); (try simp only [cd_t, cd_f, nt_t, nt_f, an_t, an_f, or_t, or_f]); exact J7)
        · refine x_aload (pc' := 108) rfl rfl rfl rfl rfl ?_
          refine x_gR (pc' := 111) (r := (some (oB M x))) rfl rfl rfl (Eq.trans (b := sR t 514 x) rfl (Sf_514f hc (Fr.refl _) hxn)) ?_
          refine x_gR (pc' := 114) (r := (some j0)) rfl rfl rfl (Eq.trans (Eq.trans (b := sR t 66 (oB M x)) rfl (kBk hc.1 (gb5 hR hxn)).2.1) q2) ?_
          refine x_goto (pc' := 125) rfl rfl ?_
          ((try rw [q7] at J7); (try rw [q7]); (try simp only [cd_t, cd_f, nt_t, nt_f, an_t, an_f, or_t, or_f] at J7); (try simp only [cd_t, cd_f, nt_t, nt_f, an_t, an_f, or_t, or_f]); exact J7)
      refine x_ifeq_z (a' := 93) (pc' := 84) (z := (decide (fst (oB M x) = c))) rfl rfl rfl (fun q5 => ?_) (fun q5 => ?_)
      · refine x_aload (pc' := 95) rfl rfl rfl rfl rfl ?_
        refine x_gI (pc' := 98) (x := (mA M 14 x)) rfl rfl rfl (Eq.trans (b := sI t 516 x) rfl ((kA hM rfl hxn).trans (congrFun (Fr.f14 (Fr.refl _)) _))) ?_
        ((try rw [q5] at J5); (try rw [q5]); (try simp only [cd_t, cd_f, nt_t, nt_f, an_t, an_f, or_t, or_f] at J5); (try simp only [cd_t, cd_f, nt_t, nt_f, an_t, an_f, or_t, or_f]); exact J5)
      · refine x_aload (pc' := 86) rfl rfl rfl rfl rfl ?_
        refine x_gI (pc' := 89) (x := (mA M 14 x)) rfl rfl rfl (Eq.trans (b := sI t 516 x) rfl ((kA hM rfl hxn).trans (congrFun (Fr.f14 (Fr.refl _)) _))) ?_
        refine x_ineg (pc' := 90) rfl rfl rfl ?_
        refine x_goto (pc' := 98) rfl rfl ?_
        ((try rw [q5] at J5); (try rw [q5]); (try simp only [cd_t, cd_f, nt_t, nt_f, an_t, an_f, or_t, or_f] at J5); (try simp only [cd_t, cd_f, nt_t, nt_f, an_t, an_f, or_t, or_f]); exact J5)
    refine x_acmp_nen (a' := 74) (pc' := 70) (z := decide (fst (oB M x) = c)) rfl rfl rfl rfl dec_some (fun q3 => ?_) (fun q3 => ?_)
    · refine x_iconst (pc' := 75) rfl rfl ?_
      ((try rw [q3] at J3); (try rw [q3]); (try simp only [cd_t, cd_f, nt_t, nt_f, an_t, an_f, or_t, or_f] at J3); (try simp only [cd_t, cd_f, nt_t, nt_f, an_t, an_f, or_t, or_f]); exact J3)
    · refine x_iconst (pc' := 71) rfl rfl ?_
      refine x_goto (pc' := 75) rfl rfl ?_
      ((try rw [q3] at J3); (try rw [q3]); (try simp only [cd_t, cd_f, nt_t, nt_f, an_t, an_f, or_t, or_f] at J3); (try simp only [cd_t, cd_f, nt_t, nt_f, an_t, an_f, or_t, or_f]); exact J3)
set_option maxHeartbeats 4000000 in
set_option maxRecDepth 10000 in
theorem n60_0n {t : sT} {Q : sRs → sT → Prop} {M : sM} {n : Nat} {T : Nat} {L0 : List Nat} {A : Nat} {B : Nat} {o : Nat} {p : Int32} {w : Int32}
    (hW : Wc t M n T L0 A B)
    (ho : o < n)
    (k0 : ∀ j0, (snd (oB M o)) = some j0 → X 60 28 [.inr (.inr (6, (some 0))), .inr (.inr (8, (some o))), .inl w, .inl p, .inr (.inr (1, (some (oB M o)))), .inl 0, sJk] [] t Q)
    (k1 : (snd (oB M o)) = none → X 61 0 [.inr (.inr (6, (some 0))), .inr (.inr (2, (some (fst (oB M o))))), .inl p, sJk, sJk, sJk, sJk, sJk] [] t (sK 61 60 21 [.inr (.inr (6, (some 0))), .inr (.inr (8, (some o))), .inl w, .inl p, .inr (.inr (1, (some (oB M o)))), sJk, sJk] [] Q)) :
    X 60 0 [.inr (.inr (6, (some 0))), .inr (.inr (8, (some o))), .inl w, .inl p, sJk, sJk, sJk] [] t Q := by
  obtain ⟨hM, hc, hR, hC, hL, hL9⟩ := hW
  refine x_aload_n (pc' := 1) rfl rfl rfl rfl rfl ?_
  refine x_gR (pc' := 4) (r := (some (oB M o))) rfl rfl rfl (Sf_514f hc (Fr.refl _) ho) ?_
  refine x_astore (pc' := 6) (ls' := [_, _, _, _, _, _, _]) rfl rfl rfl rfl rfl ?_
  refine x_aload (pc' := 8) rfl rfl rfl rfl rfl ?_
  refine x_gR (pc' := 11) (r := (snd (oB M o))) rfl rfl rfl (kBk hc.1 (gb5 hR ho)).2.1 ?_
  refine x_ifnonnull (a' := 25) (pc' := 14) rfl rfl rfl rfl (fun j0 q1 => ?_) (fun q1 => ?_)
  · refine x_iconst (pc' := 26) rfl rfl ?_
    refine x_istore (pc' := 28) (ls' := [_, _, _, _, _, _, _]) rfl rfl rfl rfl ?_
    exact k0 j0 q1
  · refine x_aload_n (pc' := 15) rfl rfl rfl rfl rfl ?_
    refine x_aload (pc' := 17) rfl rfl rfl rfl rfl ?_
    refine x_gR (pc' := 20) (r := (some (fst (oB M o)))) rfl rfl rfl (kBk hc.1 (gb5 hR ho)).1 ?_
    refine x_iload_n (pc' := 21) rfl rfl rfl ?_
    refine x_cv (ls0 := [_, _, _, sJk, sJk, sJk, sJk, sJk]) (rest := []) rfl rfl rfl rfl rfl ?_
    exact k1 q1
set_option maxHeartbeats 4000000 in
set_option maxRecDepth 10000 in
theorem n60_24 {t : sT} {Q : sRs → sT → Prop} {o : Nat} {b : Nat} {p : Int32} {w : Int32}
    (k0 : Q (.inl none) t) :
    X 60 24 [.inr (.inr (6, (some 0))), .inr (.inr (8, (some o))), .inl w, .inl p, .inr (.inr (1, (some b))), sJk, sJk] [] t Q := by
  refine x_ret rfl ?_
  exact k0
set_option maxHeartbeats 4000000 in
set_option maxRecDepth 10000 in
theorem n60_e {t : sT} {Q : sRs → sT → Prop} {M : sM} {n : Nat} {T : Nat} {L0 : List Nat} {A : Nat} {B : Nat} {o : Nat} {b : Nat} {p : Int32} {y0 : sV} {w : Int32}
    (hW : Wc t M n T L0 A B)
    (k0 : Q (.inl none) t) :
    X 60 28 [.inr (.inr (6, (some 0))), .inr (.inr (8, (some o))), .inl w, .inl p, .inr (.inr (1, (some b))), .inl (io L0.length), y0] [] t Q := by
  obtain ⟨hM, hc, hR, hC, hL, hL9⟩ := hW
  refine x_iload (pc' := 30) rfl rfl rfl ?_
  refine x_aload_n (pc' := 31) rfl rfl rfl rfl rfl ?_
  refine x_gR (pc' := 34) (r := (some 2)) rfl rfl rfl (kR_387_0 hc.1) ?_
  refine x_cv (ls0 := [_]) (rest := [_]) rfl rfl rfl rfl rfl ?_
  refine x_aload_n (pc' := 1) rfl rfl rfl rfl rfl ?_
  refine x_gI (pc' := 4) (x := (io L0.length)) rfl rfl rfl (show sI t 834 2 = io L0.length from LL_s hL) ?_
  refine x_reti rfl rfl ?_
  refine sK_i (pc' := 37) rfl ?_
  refine x_icmp_n (a' := 101) (pc' := 40) (z := decide (L0.length < L0.length)) rfl rfl rfl (ic_gen (p := L0.length) (q := L0.length) (Nat.lt_of_le_of_lt hL9 (by decide)) (Nat.lt_of_le_of_lt hL9 (by decide))) (fun _ => ?_) (fun h => absurd (of_decide_eq_true h) (by first | decide | omega | simp))
  refine x_ret rfl ?_
  exact k0
set_option maxHeartbeats 4000000 in
set_option maxRecDepth 10000 in
theorem n60_k0 {t : sT} {Q : sRs → sT → Prop} {M : sM} {n : Nat} {T : Nat} {L0 : List Nat} {A : Nat} {B : Nat} {k : Nat} {x : Nat} {o : Nat} {b : Nat} {p : Int32} {y0 : sV}
    (hW : Wc t M n T L0 A B)
    (hk : k < L0.length)
    (hx : L0.getD k 0 = x)
    (hxn : x < n)
    (k0 : X 60 28 [.inr (.inr (6, (some 0))), .inr (.inr (8, (some o))), .inl 0, .inl p, .inr (.inr (1, (some b))), .inl (io (k + 1)), .inr (.inr (8, (some x)))] [] (sIw (sRw t 527 x none) 528 x (mA M 14 x)) Q) :
    X 60 28 [.inr (.inr (6, (some 0))), .inr (.inr (8, (some o))), .inl 0, .inl p, .inr (.inr (1, (some b))), .inl (io k), y0] [] t Q := by
  obtain ⟨hM, hc, hR, hC, hL, hL9⟩ := hW
  refine x_iload (pc' := 30) rfl rfl rfl ?_
  refine x_aload_n (pc' := 31) rfl rfl rfl rfl rfl ?_
  refine x_gR (pc' := 34) (r := (some 2)) rfl rfl rfl (kR_387_0 hc.1) ?_
  refine x_cv (ls0 := [_]) (rest := [_]) rfl rfl rfl rfl rfl ?_
  refine x_aload_n (pc' := 1) rfl rfl rfl rfl rfl ?_
  refine x_gI (pc' := 4) (x := (io L0.length)) rfl rfl rfl (show sI t 834 2 = io L0.length from LL_s hL) ?_
  refine x_reti rfl rfl ?_
  refine sK_i (pc' := 37) rfl ?_
  refine x_icmp_n (a' := 101) (pc' := 40) (z := decide (k < L0.length)) rfl rfl rfl (ic_gen (p := k) (q := L0.length) (Nat.lt_trans hk (Nat.lt_of_le_of_lt hL9 (by decide))) (Nat.lt_of_le_of_lt hL9 (by decide))) (fun h => absurd hk (of_decide_eq_false h)) (fun _ => ?_)
  refine x_aload_n (pc' := 41) rfl rfl rfl rfl rfl ?_
  refine x_gR (pc' := 44) (r := (some 2)) rfl rfl rfl (kR_387_0 hc.1) ?_
  refine x_iload (pc' := 46) rfl rfl rfl ?_
  refine x_cv (ls0 := [_, _]) (rest := []) rfl rfl rfl rfl rfl ?_
  refine LL_gx hL hk hx ?_
  refine sK_i (pc' := 49) rfl ?_
  refine x_cast (pc' := 52) rfl rfl rfl ?_
  refine x_astore (pc' := 54) (ls' := [_, _, _, _, _, _, _]) rfl rfl rfl rfl rfl ?_
  refine x_aload (pc' := 56) rfl rfl rfl rfl rfl ?_
  refine x_iload_n (pc' := 57) rfl rfl rfl ?_
  refine x_if (a' := 64) (pc' := 60) (z := false) rfl rfl rfl (by decide) (fun h => by cases h) (fun _ => ?_)
  refine x_null (pc' := 61) rfl rfl rfl ?_
  refine x_goto (pc' := 82) rfl rfl ?_
  refine x_pR (pc' := 85) rfl rfl rfl ?_
  refine x_aload (pc' := 87) rfl rfl rfl rfl rfl ?_
  refine x_aload (pc' := 89) rfl rfl rfl rfl rfl ?_
  refine x_gI (pc' := 92) (x := (mA M 14 x)) rfl rfl rfl (Eq.trans (b := sI t 516 x) rfl ((kA hM rfl hxn).trans (congrFun (Fr.f14 (Fr.refl _)) _))) ?_
  refine x_pI (pc' := 95) rfl rfl rfl ?_
  refine x_iinc (pc' := 98) (y := (io (k + 1))) (ls' := [_, _, _, _, _, _, _]) rfl rfl rfl (io_add k 1) rfl ?_
  refine x_goto (pc' := 28) rfl rfl ?_
  exact k0
set_option maxHeartbeats 4000000 in
set_option maxRecDepth 10000 in
theorem n60_k {t : sT} {Q : sRs → sT → Prop} {M : sM} {n : Nat} {T : Nat} {L0 : List Nat} {A : Nat} {B : Nat} {k : Nat} {x : Nat} {o : Nat} {b : Nat} {p : Int32} {w : Int32} {y0 : sV}
    (hW : Wc t M n T L0 A B)
    (hk : k < L0.length)
    (hx : L0.getD k 0 = x)
    (hxn : x < n)
    (hb : b < 5)
    (k0 : X 60 28 [.inr (.inr (6, (some 0))), .inr (.inr (8, (some o))), .inl w, .inl p, .inr (.inr (1, (some b))), .inl (io (k + 1)), .inr (.inr (8, (some x)))] [] (sIw (sRw t 527 x (bif (decide (w = 0)) then none else (bif (decide (k = 0)) then (some (fst b)) else (snd b)))) 528 x (mA M 14 x)) Q) :
    X 60 28 [.inr (.inr (6, (some 0))), .inr (.inr (8, (some o))), .inl w, .inl p, .inr (.inr (1, (some b))), .inl (io k), y0] [] t Q := by
  obtain ⟨hM, hc, hR, hC, hL, hL9⟩ := hW
  refine x_iload (pc' := 30) rfl rfl rfl ?_
  refine x_aload_n (pc' := 31) rfl rfl rfl rfl rfl ?_
  refine x_gR (pc' := 34) (r := (some 2)) rfl rfl rfl (kR_387_0 hc.1) ?_
  refine x_cv (ls0 := [_]) (rest := [_]) rfl rfl rfl rfl rfl ?_
  refine x_aload_n (pc' := 1) rfl rfl rfl rfl rfl ?_
  refine x_gI (pc' := 4) (x := (io L0.length)) rfl rfl rfl (show sI t 834 2 = io L0.length from LL_s hL) ?_
  refine x_reti rfl rfl ?_
  refine sK_i (pc' := 37) rfl ?_
  refine x_icmp_n (a' := 101) (pc' := 40) (z := decide (k < L0.length)) rfl rfl rfl (ic_gen (p := k) (q := L0.length) (Nat.lt_trans hk (Nat.lt_of_le_of_lt hL9 (by decide))) (Nat.lt_of_le_of_lt hL9 (by decide))) (fun h => absurd hk (of_decide_eq_false h)) (fun _ => ?_)
  refine x_aload_n (pc' := 41) rfl rfl rfl rfl rfl ?_
  refine x_gR (pc' := 44) (r := (some 2)) rfl rfl rfl (kR_387_0 hc.1) ?_
  refine x_iload (pc' := 46) rfl rfl rfl ?_
  refine x_cv (ls0 := [_, _]) (rest := []) rfl rfl rfl rfl rfl ?_
  refine LL_gx hL hk hx ?_
  refine sK_i (pc' := 49) rfl ?_
  refine x_cast (pc' := 52) rfl rfl rfl ?_
  refine x_astore (pc' := 54) (ls' := [_, _, _, _, _, _, _]) rfl rfl rfl rfl rfl ?_
  refine x_aload (pc' := 56) rfl rfl rfl rfl rfl ?_
  refine x_iload_n (pc' := 57) rfl rfl rfl ?_
  have J3 : X 60 82 [.inr (.inr (6, (some 0))), .inr (.inr (8, (some o))), .inl w, .inl p, .inr (.inr (1, (some b))), .inl (io k), .inr (.inr (8, (some x)))] [.inr (.inr (2, (bif (decide (w = 0)) then none else (bif (decide (k = 0)) then (some (fst b)) else (snd b))))), .inr (.inr (8, (some x)))] t Q := by
    refine x_pR (pc' := 85) rfl rfl rfl ?_
    refine x_aload (pc' := 87) rfl rfl rfl rfl rfl ?_
    refine x_aload (pc' := 89) rfl rfl rfl rfl rfl ?_
    refine x_gI (pc' := 92) (x := (mA M 14 x)) rfl rfl rfl (Eq.trans (b := sI t 516 x) rfl ((kA hM rfl hxn).trans (congrFun (Fr.f14 (Fr.refl _)) _))) ?_
    refine x_pI (pc' := 95) rfl rfl rfl ?_
    refine x_iinc (pc' := 98) (y := (io (k + 1))) (ls' := [_, _, _, _, _, _, _]) rfl rfl rfl (io_add k 1) rfl ?_
    refine x_goto (pc' := 28) rfl rfl ?_
    exact k0
  refine x_if_n (a' := 64) (pc' := 60) (z := decide (w = 0)) rfl rfl rfl (ik_ne _ _) (fun q2 => ?_) (fun q2 => ?_)
  · refine x_iload (pc' := 66) rfl rfl rfl ?_
    refine x_if_n (a' := 77) (pc' := 69) (z := decide (k = 0)) rfl rfl rfl (ic_nen (p := k) (q := 0) (Nat.lt_trans hk (Nat.lt_of_le_of_lt hL9 (by decide))) (by decide)) (fun q3 => ?_) (fun q3 => ?_)
    · refine x_aload (pc' := 79) rfl rfl rfl rfl rfl ?_
      refine x_gR (pc' := 82) (r := (snd b)) rfl rfl rfl (kBk hc.1 hb).2.1 ?_
      ((try rw [q3] at J3); (try rw [q3]); (try rw [q2] at J3); (try rw [q2]); (try simp only [cd_t, cd_f, nt_t, nt_f, an_t, an_f, or_t, or_f] at J3); (try simp only [cd_t, cd_f, nt_t, nt_f, an_t, an_f, or_t, or_f]); exact J3)
    · refine x_aload (pc' := 71) rfl rfl rfl rfl rfl ?_
      refine x_gR (pc' := 74) (r := (some (fst b))) rfl rfl rfl (kBk hc.1 hb).1 ?_
      refine x_goto (pc' := 82) rfl rfl ?_
      ((try rw [q3] at J3); (try rw [q3]); (try rw [q2] at J3); (try rw [q2]); (try simp only [cd_t, cd_f, nt_t, nt_f, an_t, an_f, or_t, or_f] at J3); (try simp only [cd_t, cd_f, nt_t, nt_f, an_t, an_f, or_t, or_f]); exact J3)
  · refine x_null (pc' := 61) rfl rfl rfl ?_
    refine x_goto (pc' := 82) rfl rfl ?_
    ((try rw [q2] at J3); (try rw [q2]); (try simp only [cd_t, cd_f, nt_t, nt_f, an_t, an_f, or_t, or_f] at J3); (try simp only [cd_t, cd_f, nt_t, nt_f, an_t, an_f, or_t, or_f]); exact J3)
set_option maxHeartbeats 4000000 in
set_option maxRecDepth 10000 in
theorem n62_0 {t : sT} {Q : sRs → sT → Prop} {M : sM} {n : Nat} {T : Nat} {L0 : List Nat} {A : Nat} {B : Nat}
    (hW : Wc t M n T L0 A B)
    (k0 : X 62 4 [.inr (.inr (6, (some 0))), .inr (.inr (2, none)), .inl 0, sJk, sJk] [] t Q) :
    X 62 0 [.inr (.inr (6, (some 0))), sJk, sJk, sJk, sJk] [] t Q := by
  obtain ⟨hM, hc, hR, hC, hL, hL9⟩ := hW
  refine x_null (pc' := 1) rfl rfl rfl ?_
  refine x_astore_n (pc' := 2) (ls' := [_, _, _, _, _]) rfl rfl rfl rfl rfl ?_
  refine x_iconst (pc' := 3) rfl rfl ?_
  refine x_istore_n (pc' := 4) (ls' := [_, _, _, _, _]) rfl rfl rfl rfl ?_
  exact k0
set_option maxHeartbeats 4000000 in
set_option maxRecDepth 10000 in
theorem n62_e {t : sT} {Q : sRs → sT → Prop} {M : sM} {n : Nat} {T : Nat} {L0 : List Nat} {A : Nat} {B : Nat} {f : Option Nat} {y0 : sV} {y1 : sV}
    (hW : Wc t M n T L0 A B)
    (k0 : Q (.inl (some (.inr (.inr (2, f))))) t) :
    X 62 4 [.inr (.inr (6, (some 0))), .inr (.inr (2, f)), .inl (io L0.length), y0, y1] [] t Q := by
  obtain ⟨hM, hc, hR, hC, hL, hL9⟩ := hW
  refine x_iload_n (pc' := 5) rfl rfl rfl ?_
  refine x_aload_n (pc' := 6) rfl rfl rfl rfl rfl ?_
  refine x_gR (pc' := 9) (r := (some 2)) rfl rfl rfl (kR_387_0 hc.1) ?_
  refine x_cv (ls0 := [_]) (rest := [_]) rfl rfl rfl rfl rfl ?_
  refine x_aload_n (pc' := 1) rfl rfl rfl rfl rfl ?_
  refine x_gI (pc' := 4) (x := (io L0.length)) rfl rfl rfl (show sI t 834 2 = io L0.length from LL_s hL) ?_
  refine x_reti rfl rfl ?_
  refine sK_i (pc' := 12) rfl ?_
  refine x_icmp_n (a' := 90) (pc' := 15) (z := decide (L0.length < L0.length)) rfl rfl rfl (ic_gen (p := L0.length) (q := L0.length) (Nat.lt_of_le_of_lt hL9 (by decide)) (Nat.lt_of_le_of_lt hL9 (by decide))) (fun _ => ?_) (fun h => absurd (of_decide_eq_true h) (by first | decide | omega | simp))
  refine x_aload_n (pc' := 91) rfl rfl rfl rfl rfl ?_
  refine x_reta rfl rfl ?_
  exact k0
set_option maxHeartbeats 4000000 in
set_option maxRecDepth 10000 in
theorem n62_kn {t : sT} {Q : sRs → sT → Prop} {M : sM} {n : Nat} {T : Nat} {L0 : List Nat} {A : Nat} {B : Nat} {k : Nat} {x : Nat} {f : Option Nat} {p : Int32} {y0 : sV} {y1 : sV}
    (hW : Wc t M n T L0 A B)
    (hk : k < L0.length)
    (hx : L0.getD k 0 = x)
    (hxn : x < n)
    (hf : ∀ j, f = some j → j < 3)
    (hp : sI t 528 x = p)
    (ht : sR t 527 x = none)
    (k0 : X 62 4 [.inr (.inr (6, (some 0))), .inr (.inr (2, f)), .inl (io (k + 1)), .inr (.inr (2, none)), .inl 0] [] t Q) :
    X 62 4 [.inr (.inr (6, (some 0))), .inr (.inr (2, f)), .inl (io k), y0, y1] [] t Q := by
  obtain ⟨hM, hc, hR, hC, hL, hL9⟩ := hW
  refine x_iload_n (pc' := 5) rfl rfl rfl ?_
  refine x_aload_n (pc' := 6) rfl rfl rfl rfl rfl ?_
  refine x_gR (pc' := 9) (r := (some 2)) rfl rfl rfl (kR_387_0 hc.1) ?_
  refine x_cv (ls0 := [_]) (rest := [_]) rfl rfl rfl rfl rfl ?_
  refine x_aload_n (pc' := 1) rfl rfl rfl rfl rfl ?_
  refine x_gI (pc' := 4) (x := (io L0.length)) rfl rfl rfl (show sI t 834 2 = io L0.length from LL_s hL) ?_
  refine x_reti rfl rfl ?_
  refine sK_i (pc' := 12) rfl ?_
  refine x_icmp_n (a' := 90) (pc' := 15) (z := decide (k < L0.length)) rfl rfl rfl (ic_gen (p := k) (q := L0.length) (Nat.lt_trans hk (Nat.lt_of_le_of_lt hL9 (by decide))) (Nat.lt_of_le_of_lt hL9 (by decide))) (fun h => absurd hk (of_decide_eq_false h)) (fun _ => ?_)
  refine x_aload_n (pc' := 16) rfl rfl rfl rfl rfl ?_
  refine x_gR (pc' := 19) (r := (some 2)) rfl rfl rfl (kR_387_0 hc.1) ?_
  refine x_iload_n (pc' := 20) rfl rfl rfl ?_
  refine x_cv (ls0 := [_, _]) (rest := []) rfl rfl rfl rfl rfl ?_
  refine LL_gx hL hk hx ?_
  refine sK_i (pc' := 23) rfl ?_
  refine x_cast (pc' := 26) rfl rfl rfl ?_
  refine x_gR (pc' := 29) (r := none) rfl rfl rfl ht ?_
  refine x_astore_n (pc' := 30) (ls' := [_, _, _, _, _]) rfl rfl rfl rfl rfl ?_
  refine x_aload_n (pc' := 31) rfl rfl rfl rfl rfl ?_
  refine x_ifnull (a' := 59) (pc' := 34) rfl rfl rfl rfl (fun _ => ?_) (fun i h => by cases h)
  refine x_iconst (pc' := 60) rfl rfl ?_
  refine x_istore (pc' := 62) (ls' := [_, _, _, _, _]) rfl rfl rfl rfl ?_
  refine x_iload (pc' := 64) rfl rfl rfl ?_
  refine x_if (a' := 84) (pc' := 67) (z := true) rfl rfl rfl (by decide) (fun _ => ?_) (fun h => by cases h)
  refine x_iinc (pc' := 87) (y := (io (k + 1))) (ls' := [_, _, _, _, _]) rfl rfl rfl (io_add k 1) rfl ?_
  refine x_goto (pc' := 4) rfl rfl ?_
  exact k0
set_option maxHeartbeats 4000000 in
set_option maxRecDepth 10000 in
theorem n62_ksn {t : sT} {Q : sRs → sT → Prop} {M : sM} {n : Nat} {T : Nat} {L0 : List Nat} {A : Nat} {B : Nat} {k : Nat} {x : Nat} {p : Int32} {y0 : sV} {y1 : sV} {d : Nat}
    (hW : Wc t M n T L0 A B)
    (hk : k < L0.length)
    (hx : L0.getD k 0 = x)
    (hxn : x < n)
    (hp : sI t 528 x = p)
    (ht : sR t 527 x = some d)
    (hd3 : d < 3)
    (k0 : X 62 4 [.inr (.inr (6, (some 0))), .inr (.inr (2, (bif (decide ((mA M 3 d) < (ab (p - (mA M 2 d))))) then (some d) else none))), .inl (io (k + 1)), .inr (.inr (2, (some d))), .inl (bz (decide ((mA M 3 d) < (ab (p - (mA M 2 d))))))] [] t Q) :
    X 62 4 [.inr (.inr (6, (some 0))), .inr (.inr (2, none)), .inl (io k), y0, y1] [] t Q := by
  obtain ⟨hM, hc, hR, hC, hL, hL9⟩ := hW
  refine x_iload_n (pc' := 5) rfl rfl rfl ?_
  refine x_aload_n (pc' := 6) rfl rfl rfl rfl rfl ?_
  refine x_gR (pc' := 9) (r := (some 2)) rfl rfl rfl (kR_387_0 hc.1) ?_
  refine x_cv (ls0 := [_]) (rest := [_]) rfl rfl rfl rfl rfl ?_
  refine x_aload_n (pc' := 1) rfl rfl rfl rfl rfl ?_
  refine x_gI (pc' := 4) (x := (io L0.length)) rfl rfl rfl (show sI t 834 2 = io L0.length from LL_s hL) ?_
  refine x_reti rfl rfl ?_
  refine sK_i (pc' := 12) rfl ?_
  refine x_icmp_n (a' := 90) (pc' := 15) (z := decide (k < L0.length)) rfl rfl rfl (ic_gen (p := k) (q := L0.length) (Nat.lt_trans hk (Nat.lt_of_le_of_lt hL9 (by decide))) (Nat.lt_of_le_of_lt hL9 (by decide))) (fun h => absurd hk (of_decide_eq_false h)) (fun _ => ?_)
  refine x_aload_n (pc' := 16) rfl rfl rfl rfl rfl ?_
  refine x_gR (pc' := 19) (r := (some 2)) rfl rfl rfl (kR_387_0 hc.1) ?_
  refine x_iload_n (pc' := 20) rfl rfl rfl ?_
  refine x_cv (ls0 := [_, _]) (rest := []) rfl rfl rfl rfl rfl ?_
  refine LL_gx hL hk hx ?_
  refine sK_i (pc' := 23) rfl ?_
  refine x_cast (pc' := 26) rfl rfl rfl ?_
  refine x_gR (pc' := 29) (r := (some d)) rfl rfl rfl ht ?_
  refine x_astore_n (pc' := 30) (ls' := [_, _, _, _, _]) rfl rfl rfl rfl rfl ?_
  refine x_aload_n (pc' := 31) rfl rfl rfl rfl rfl ?_
  refine x_ifnull (a' := 59) (pc' := 34) rfl rfl rfl rfl (fun h => by cases h) (fun _ _ => ?_)
  refine x_aload_n (pc' := 35) rfl rfl rfl rfl rfl ?_
  refine x_aload_n (pc' := 36) rfl rfl rfl rfl rfl ?_
  refine x_gR (pc' := 39) (r := (some 2)) rfl rfl rfl (kR_387_0 hc.1) ?_
  refine x_iload_n (pc' := 40) rfl rfl rfl ?_
  refine x_cv (ls0 := [_, _]) (rest := [_]) rfl rfl rfl rfl rfl ?_
  refine LL_gx hL hk hx ?_
  refine sK_i (pc' := 43) rfl ?_
  refine x_cast (pc' := 46) rfl rfl rfl ?_
  refine x_gI (pc' := 49) (x := p) rfl rfl rfl hp ?_
  refine x_cv (ls0 := [_, _]) (rest := []) rfl rfl rfl rfl rfl ?_
  refine x_iload_n (pc' := 1) rfl rfl rfl ?_
  refine x_aload_n (pc' := 2) rfl rfl rfl rfl rfl ?_
  refine x_gI (pc' := 5) (x := (mA M 2 d)) rfl rfl rfl (kA hM rfl hd3) ?_
  refine x_isub (pc' := 6) (z := (p - (mA M 2 d))) rfl rfl rfl ?_
  refine x_abs (pc' := 9) (z := (ab (p - (mA M 2 d)))) rfl rfl rfl rfl ?_
  refine x_aload_n (pc' := 10) rfl rfl rfl rfl rfl ?_
  refine x_gI (pc' := 13) (x := (mA M 3 d)) rfl rfl rfl (kA hM rfl hd3) ?_
  have J3 : X 13 21 [.inr (.inr (2, (some d))), .inl p] [.inl (bz (decide ((mA M 3 d) < (ab (p - (mA M 2 d))))))] t (sK 13 62 49 [.inr (.inr (6, (some 0))), .inr (.inr (2, none)), .inl (io k), .inr (.inr (2, (some d))), y1] [] Q) := by
    refine x_retz (z := (decide ((mA M 3 d) < (ab (p - (mA M 2 d)))))) rfl rfl ?_
    refine sK_i (pc' := 52) rfl ?_
    have J5 : X 62 60 [.inr (.inr (6, (some 0))), .inr (.inr (2, none)), .inl (io k), .inr (.inr (2, (some d))), y1] [.inl (bz (decide ((mA M 3 d) < (ab (p - (mA M 2 d))))))] t Q := by
      refine x_istore (pc' := 62) (ls' := [_, _, _, _, _]) rfl rfl rfl rfl ?_
      refine x_iload (pc' := 64) rfl rfl rfl ?_
      have J8 : X 62 84 [.inr (.inr (6, (some 0))), .inr (.inr (2, (bif (decide ((mA M 3 d) < (ab (p - (mA M 2 d))))) then (some d) else none))), .inl (io k), .inr (.inr (2, (some d))), .inl (bz (decide ((mA M 3 d) < (ab (p - (mA M 2 d))))))] [] t Q := by
        refine x_iinc (pc' := 87) (y := (io (k + 1))) (ls' := [_, _, _, _, _]) rfl rfl rfl (io_add k 1) rfl ?_
        refine x_goto (pc' := 4) rfl rfl ?_
        exact k0
      refine x_ifeq_z (a' := 84) (pc' := 67) (z := (decide ((mA M 3 d) < (ab (p - (mA M 2 d)))))) rfl rfl rfl (fun q7 => ?_) (fun q7 => ?_)
      · ((try rw [q7] at J8); (try rw [q7]); (try simp only [cd_t, cd_f, nt_t, nt_f, an_t, an_f, or_t, or_f] at J8); (try simp only [cd_t, cd_f, nt_t, nt_f, an_t, an_f, or_t, or_f]); exact J8)
      · refine x_aload_n (pc' := 68) rfl rfl rfl rfl rfl ?_
        refine x_ifnull (a' := 82) (pc' := 71) rfl rfl rfl rfl (fun _ => ?_) (fun i h => by cases h)
        refine x_aload_n (pc' := 83) rfl rfl rfl rfl rfl ?_
        refine x_astore_n (pc' := 84) (ls' := [_, _, _, _, _]) rfl rfl rfl rfl rfl ?_
        ((try rw [q7] at J8); (try rw [q7]); (try simp only [cd_t, cd_f, nt_t, nt_f, an_t, an_f, or_t, or_f] at J8); (try simp only [cd_t, cd_f, nt_t, nt_f, an_t, an_f, or_t, or_f]); exact J8)
    refine x_ifeq_z (a' := 59) (pc' := 55) (z := (decide ((mA M 3 d) < (ab (p - (mA M 2 d)))))) rfl rfl rfl (fun q5 => ?_) (fun q5 => ?_)
    · refine x_iconst (pc' := 60) rfl rfl ?_
      ((try rw [q5] at J5); (try rw [q5]); (try simp only [cd_t, cd_f, nt_t, nt_f, an_t, an_f, or_t, or_f] at J5); (try simp only [cd_t, cd_f, nt_t, nt_f, an_t, an_f, or_t, or_f]); exact J5)
    · refine x_iconst (pc' := 56) rfl rfl ?_
      refine x_goto (pc' := 60) rfl rfl ?_
      ((try rw [q5] at J5); (try rw [q5]); (try simp only [cd_t, cd_f, nt_t, nt_f, an_t, an_f, or_t, or_f] at J5); (try simp only [cd_t, cd_f, nt_t, nt_f, an_t, an_f, or_t, or_f]); exact J5)
  refine x_icmp_n (a' := 20) (pc' := 16) (z := decide ((mA M 3 d) < (ab (p - (mA M 2 d))))) rfl rfl rfl (ik_le _ _) (fun q3 => ?_) (fun q3 => ?_)
  · refine x_iconst (pc' := 21) rfl rfl ?_
    ((try rw [q3] at J3); (try rw [q3]); (try simp only [cd_t, cd_f, nt_t, nt_f, an_t, an_f, or_t, or_f] at J3); (try simp only [cd_t, cd_f, nt_t, nt_f, an_t, an_f, or_t, or_f]); exact J3)
  · refine x_iconst (pc' := 17) rfl rfl ?_
    refine x_goto (pc' := 21) rfl rfl ?_
    ((try rw [q3] at J3); (try rw [q3]); (try simp only [cd_t, cd_f, nt_t, nt_f, an_t, an_f, or_t, or_f] at J3); (try simp only [cd_t, cd_f, nt_t, nt_f, an_t, an_f, or_t, or_f]); exact J3)
set_option maxHeartbeats 4000000 in
set_option maxRecDepth 10000 in
theorem n62_kss {t : sT} {Q : sRs → sT → Prop} {M : sM} {n : Nat} {T : Nat} {L0 : List Nat} {A : Nat} {B : Nat} {k : Nat} {x : Nat} {p : Int32} {y0 : sV} {y1 : sV} {d : Nat} {f : Nat}
    (hW : Wc t M n T L0 A B)
    (hk : k < L0.length)
    (hx : L0.getD k 0 = x)
    (hxn : x < n)
    (hp : sI t 528 x = p)
    (ht : sR t 527 x = some d)
    (hd3 : d < 3)
    (hf3 : f < 3)
    (k0 : X 62 4 [.inr (.inr (6, (some 0))), .inr (.inr (2, (bif (decide ((mA M 3 d) < (ab (p - (mA M 2 d))))) then (bif (decide (d < f)) then (some d) else (some f)) else (some f)))), .inl (io (k + 1)), .inr (.inr (2, (some d))), .inl (bz (decide ((mA M 3 d) < (ab (p - (mA M 2 d))))))] [] t Q) :
    X 62 4 [.inr (.inr (6, (some 0))), .inr (.inr (2, (some f))), .inl (io k), y0, y1] [] t Q := by
  obtain ⟨hM, hc, hR, hC, hL, hL9⟩ := hW
  refine x_iload_n (pc' := 5) rfl rfl rfl ?_
  refine x_aload_n (pc' := 6) rfl rfl rfl rfl rfl ?_
  refine x_gR (pc' := 9) (r := (some 2)) rfl rfl rfl (kR_387_0 hc.1) ?_
  refine x_cv (ls0 := [_]) (rest := [_]) rfl rfl rfl rfl rfl ?_
  refine x_aload_n (pc' := 1) rfl rfl rfl rfl rfl ?_
  refine x_gI (pc' := 4) (x := (io L0.length)) rfl rfl rfl (show sI t 834 2 = io L0.length from LL_s hL) ?_
  refine x_reti rfl rfl ?_
  refine sK_i (pc' := 12) rfl ?_
  refine x_icmp_n (a' := 90) (pc' := 15) (z := decide (k < L0.length)) rfl rfl rfl (ic_gen (p := k) (q := L0.length) (Nat.lt_trans hk (Nat.lt_of_le_of_lt hL9 (by decide))) (Nat.lt_of_le_of_lt hL9 (by decide))) (fun h => absurd hk (of_decide_eq_false h)) (fun _ => ?_)
  refine x_aload_n (pc' := 16) rfl rfl rfl rfl rfl ?_
  refine x_gR (pc' := 19) (r := (some 2)) rfl rfl rfl (kR_387_0 hc.1) ?_
  refine x_iload_n (pc' := 20) rfl rfl rfl ?_
  refine x_cv (ls0 := [_, _]) (rest := []) rfl rfl rfl rfl rfl ?_
  refine LL_gx hL hk hx ?_
  refine sK_i (pc' := 23) rfl ?_
  refine x_cast (pc' := 26) rfl rfl rfl ?_
  refine x_gR (pc' := 29) (r := (some d)) rfl rfl rfl ht ?_
  refine x_astore_n (pc' := 30) (ls' := [_, _, _, _, _]) rfl rfl rfl rfl rfl ?_
  refine x_aload_n (pc' := 31) rfl rfl rfl rfl rfl ?_
  refine x_ifnull (a' := 59) (pc' := 34) rfl rfl rfl rfl (fun h => by cases h) (fun _ _ => ?_)
  refine x_aload_n (pc' := 35) rfl rfl rfl rfl rfl ?_
  refine x_aload_n (pc' := 36) rfl rfl rfl rfl rfl ?_
  refine x_gR (pc' := 39) (r := (some 2)) rfl rfl rfl (kR_387_0 hc.1) ?_
  refine x_iload_n (pc' := 40) rfl rfl rfl ?_
  refine x_cv (ls0 := [_, _]) (rest := [_]) rfl rfl rfl rfl rfl ?_
  refine LL_gx hL hk hx ?_
  refine sK_i (pc' := 43) rfl ?_
  refine x_cast (pc' := 46) rfl rfl rfl ?_
  refine x_gI (pc' := 49) (x := p) rfl rfl rfl hp ?_
  refine x_cv (ls0 := [_, _]) (rest := []) rfl rfl rfl rfl rfl ?_
  refine x_iload_n (pc' := 1) rfl rfl rfl ?_
  refine x_aload_n (pc' := 2) rfl rfl rfl rfl rfl ?_
  refine x_gI (pc' := 5) (x := (mA M 2 d)) rfl rfl rfl (kA hM rfl hd3) ?_
  refine x_isub (pc' := 6) (z := (p - (mA M 2 d))) rfl rfl rfl ?_
  refine x_abs (pc' := 9) (z := (ab (p - (mA M 2 d)))) rfl rfl rfl rfl ?_
  refine x_aload_n (pc' := 10) rfl rfl rfl rfl rfl ?_
  refine x_gI (pc' := 13) (x := (mA M 3 d)) rfl rfl rfl (kA hM rfl hd3) ?_
  have J3 : X 13 21 [.inr (.inr (2, (some d))), .inl p] [.inl (bz (decide ((mA M 3 d) < (ab (p - (mA M 2 d))))))] t (sK 13 62 49 [.inr (.inr (6, (some 0))), .inr (.inr (2, (some f))), .inl (io k), .inr (.inr (2, (some d))), y1] [] Q) := by
    refine x_retz (z := (decide ((mA M 3 d) < (ab (p - (mA M 2 d)))))) rfl rfl ?_
    refine sK_i (pc' := 52) rfl ?_
    have J5 : X 62 60 [.inr (.inr (6, (some 0))), .inr (.inr (2, (some f))), .inl (io k), .inr (.inr (2, (some d))), y1] [.inl (bz (decide ((mA M 3 d) < (ab (p - (mA M 2 d))))))] t Q := by
      refine x_istore (pc' := 62) (ls' := [_, _, _, _, _]) rfl rfl rfl rfl ?_
      refine x_iload (pc' := 64) rfl rfl rfl ?_
      have J9 : X 62 84 [.inr (.inr (6, (some 0))), .inr (.inr (2, (bif (decide ((mA M 3 d) < (ab (p - (mA M 2 d))))) then (bif (decide (d < f)) then (some d) else (some f)) else (some f)))), .inl (io k), .inr (.inr (2, (some d))), .inl (bz (decide ((mA M 3 d) < (ab (p - (mA M 2 d))))))] [] t Q := by
        refine x_iinc (pc' := 87) (y := (io (k + 1))) (ls' := [_, _, _, _, _]) rfl rfl rfl (io_add k 1) rfl ?_
        refine x_goto (pc' := 4) rfl rfl ?_
        exact k0
      refine x_ifeq_z (a' := 84) (pc' := 67) (z := (decide ((mA M 3 d) < (ab (p - (mA M 2 d)))))) rfl rfl rfl (fun q7 => ?_) (fun q7 => ?_)
      · ((try rw [q7] at J9); (try rw [q7]); (try simp only [cd_t, cd_f, nt_t, nt_f, an_t, an_f, or_t, or_f] at J9); (try simp only [cd_t, cd_f, nt_t, nt_f, an_t, an_f, or_t, or_f]); exact J9)
      · refine x_aload_n (pc' := 68) rfl rfl rfl rfl rfl ?_
        refine x_ifnull (a' := 82) (pc' := 71) rfl rfl rfl rfl (fun h => by cases h) (fun _ _ => ?_)
        refine x_aload_n (pc' := 72) rfl rfl rfl rfl rfl ?_
        refine x_gI (pc' := 75) (x := (io d)) rfl rfl rfl (kKn hc.1 hd3) ?_
        refine x_aload_n (pc' := 76) rfl rfl rfl rfl rfl ?_
        refine x_gI (pc' := 79) (x := (io f)) rfl rfl rfl (kKn hc.1 hf3) ?_
        refine x_icmp_n (a' := 84) (pc' := 82) (z := decide (d < f)) rfl rfl rfl (ic_gen (p := d) (q := f) (gc31 hd3) (gc31 hf3)) (fun q9 => ?_) (fun q9 => ?_)
        · ((try rw [q9] at J9); (try rw [q9]); (try rw [q7] at J9); (try rw [q7]); (try simp only [cd_t, cd_f, nt_t, nt_f, an_t, an_f, or_t, or_f] at J9); (try simp only [cd_t, cd_f, nt_t, nt_f, an_t, an_f, or_t, or_f]); exact J9)
        · refine x_aload_n (pc' := 83) rfl rfl rfl rfl rfl ?_
          refine x_astore_n (pc' := 84) (ls' := [_, _, _, _, _]) rfl rfl rfl rfl rfl ?_
          ((try rw [q9] at J9); (try rw [q9]); (try rw [q7] at J9); (try rw [q7]); (try simp only [cd_t, cd_f, nt_t, nt_f, an_t, an_f, or_t, or_f] at J9); (try simp only [cd_t, cd_f, nt_t, nt_f, an_t, an_f, or_t, or_f]); exact J9)
    refine x_ifeq_z (a' := 59) (pc' := 55) (z := (decide ((mA M 3 d) < (ab (p - (mA M 2 d)))))) rfl rfl rfl (fun q5 => ?_) (fun q5 => ?_)
    · refine x_iconst (pc' := 60) rfl rfl ?_
      ((try rw [q5] at J5); (try rw [q5]); (try simp only [cd_t, cd_f, nt_t, nt_f, an_t, an_f, or_t, or_f] at J5); (try simp only [cd_t, cd_f, nt_t, nt_f, an_t, an_f, or_t, or_f]); exact J5)
    · refine x_iconst (pc' := 56) rfl rfl ?_
      refine x_goto (pc' := 60) rfl rfl ?_
      ((try rw [q5] at J5); (try rw [q5]); (try simp only [cd_t, cd_f, nt_t, nt_f, an_t, an_f, or_t, or_f] at J5); (try simp only [cd_t, cd_f, nt_t, nt_f, an_t, an_f, or_t, or_f]); exact J5)
  refine x_icmp_n (a' := 20) (pc' := 16) (z := decide ((mA M 3 d) < (ab (p - (mA M 2 d))))) rfl rfl rfl (ik_le _ _) (fun q3 => ?_) (fun q3 => ?_)
  · refine x_iconst (pc' := 21) rfl rfl ?_
    ((try rw [q3] at J3); (try rw [q3]); (try simp only [cd_t, cd_f, nt_t, nt_f, an_t, an_f, or_t, or_f] at J3); (try simp only [cd_t, cd_f, nt_t, nt_f, an_t, an_f, or_t, or_f]); exact J3)
  · refine x_iconst (pc' := 17) rfl rfl ?_
    refine x_goto (pc' := 21) rfl rfl ?_
    ((try rw [q3] at J3); (try rw [q3]); (try simp only [cd_t, cd_f, nt_t, nt_f, an_t, an_f, or_t, or_f] at J3); (try simp only [cd_t, cd_f, nt_t, nt_f, an_t, an_f, or_t, or_f]); exact J3)
set_option maxHeartbeats 4000000 in
set_option maxRecDepth 10000 in
theorem n63_0 {t : sT} {Q : sRs → sT → Prop} {M : sM} {n : Nat} {T : Nat} {L0 : List Nat} {A : Nat} {B : Nat} {c : Nat} {o : Nat}
    (hW : Wc t M n T L0 A B)
    (hc3 : c < 3)
    (ho : o < n)
    (k0 : ¬ (oB M o = c) → X 63 50 [.inr (.inr (6, (some 0))), .inr (.inr (2, (some c))), .inr (.inr (8, (some o))), .inl (io c), .inl 0] [] (sIw t 67 c 3) Q)
    (k1 : oB M o = c → Q (.inl (some (.inl (bz true)))) (sIw t 67 c 3)) :
    X 63 0 [.inr (.inr (6, (some 0))), .inr (.inr (2, (some c))), .inr (.inr (8, (some o))), sJk, sJk] [] t Q := by
  obtain ⟨hM, hc, hR, hC, hL, hL9⟩ := hW
  refine x_aload_n (pc' := 1) rfl rfl rfl rfl rfl ?_
  refine x_gI (pc' := 4) (x := (io c)) rfl rfl rfl (kKn hc.1 hc3) ?_
  refine x_istore_n (pc' := 5) (ls' := [_, _, _, _, _]) rfl rfl rfl rfl ?_
  refine x_iload_n (pc' := 6) rfl rfl rfl ?_
  refine x_if (a' := 34) (pc' := 9) (z := decide (c < 0)) rfl rfl rfl (ic_lt (p := c) (q := 0) (gc31 hc3) (by decide)) (fun h => absurd (of_decide_eq_true h) (by first | decide | omega | simp)) (fun _ => ?_)
  refine x_iload_n (pc' := 10) rfl rfl rfl ?_
  refine x_aload_n (pc' := 11) rfl rfl rfl rfl rfl ?_
  refine x_gR (pc' := 14) (r := (some 0)) rfl rfl rfl (kR_385_0 hc.1) ?_
  refine x_gR (pc' := 17) (r := (some 0)) rfl rfl rfl (kR_256_0 hc.1) ?_
  refine x_alen (pc' := 18) (N := 5) rfl rfl rfl (kN_24_0 hc.1) (?_ : X _ _ _ (.inl 5 :: _) _ _)
  refine x_icmp_n (a' := 34) (pc' := 21) (z := decide (c < 5)) rfl rfl rfl (ic_gen (p := c) (q := 5) (gc31 hc3) (by decide)) (fun h => absurd (Nat.lt_trans hc3 (by decide)) (of_decide_eq_false h)) (fun _ => ?_)
  refine x_aload_n (pc' := 22) rfl rfl rfl rfl rfl ?_
  refine x_gR (pc' := 25) (r := (some 0)) rfl rfl rfl (kR_385_0 hc.1) ?_
  refine x_gR (pc' := 28) (r := (some 0)) rfl rfl rfl (kR_256_0 hc.1) ?_
  refine x_iload_n (pc' := 29) rfl rfl rfl ?_
  refine x_aald (pc' := 30) (N := 5) (k' := 1) (r := (some c)) rfl rfl rfl (kN_24_0 hc.1) (io_in (p := c) (N := 5) (show c < 5 by omega) (by decide)) (Eq.trans (congrArg (sE t 24 0) (nn_io (p := c) (Nat.lt_trans (show c < 5 by omega) (by decide)))) (kB hc.1 (show c < 5 by omega))) ?_
  refine x_iconst (pc' := 31) rfl rfl ?_
  refine x_pI (pc' := 34) rfl rfl rfl ?_
  refine x_aload_n (pc' := 35) rfl rfl rfl rfl rfl ?_
  refine x_gR (pc' := 38) (r := (some (oB M o))) rfl rfl rfl (Eq.trans (b := sR t 514 o) rfl (Sf_514f hc (Fr.refl _) ho)) ?_
  refine x_gI (pc' := 41) (x := (io (oB M o))) rfl rfl rfl (Eq.trans (b := sI t 64 (oB M o)) rfl (kBk hc.1 (gb5 hR ho)).2.2) ?_
  refine x_iload_n (pc' := 42) rfl rfl rfl ?_
  refine x_icmp_n (a' := 47) (pc' := 45) (z := decide (oB M o = c)) rfl rfl rfl (ic_nen (p := oB M o) (q := c) (gb31 (gb5 hR ho)) (gc31 hc3)) (fun q3 => ?_) (fun q3 => ?_)
  · refine x_iconst (pc' := 48) rfl rfl ?_
    refine x_istore (pc' := 50) (ls' := [_, _, _, _, _]) rfl rfl rfl rfl ?_
    exact k0 (of_decide_eq_false q3)
  · refine x_iconst (pc' := 46) rfl rfl ?_
    refine x_retz (z := true) rfl rfl ?_
    exact k1 (of_decide_eq_true q3)
set_option maxHeartbeats 4000000 in
set_option maxRecDepth 10000 in
theorem n63_e {t : sT} {Q : sRs → sT → Prop} {M : sM} {n : Nat} {T : Nat} {L0 : List Nat} {A : Nat} {B : Nat} {c : Nat} {o : Nat}
    (hW : Wc t M n T L0 A B)
    (hc3 : c < 3)
    (ho : o < n)
    (k0 : Q (.inl (some (.inl (bz true)))) t) :
    X 63 50 [.inr (.inr (6, (some 0))), .inr (.inr (2, (some c))), .inr (.inr (8, (some o))), .inl (io c), .inl (io L0.length)] [] t Q := by
  obtain ⟨hM, hc, hR, hC, hL, hL9⟩ := hW
  refine x_iload (pc' := 52) rfl rfl rfl ?_
  refine x_aload_n (pc' := 53) rfl rfl rfl rfl rfl ?_
  refine x_gR (pc' := 56) (r := (some 2)) rfl rfl rfl (kR_387_0 hc.1) ?_
  refine x_cv (ls0 := [_]) (rest := [_]) rfl rfl rfl rfl rfl ?_
  refine x_aload_n (pc' := 1) rfl rfl rfl rfl rfl ?_
  refine x_gI (pc' := 4) (x := (io L0.length)) rfl rfl rfl (show sI t 834 2 = io L0.length from LL_s hL) ?_
  refine x_reti rfl rfl ?_
  refine sK_i (pc' := 59) rfl ?_
  refine x_icmp_n (a' := 92) (pc' := 62) (z := decide (L0.length < L0.length)) rfl rfl rfl (ic_gen (p := L0.length) (q := L0.length) (Nat.lt_of_le_of_lt hL9 (by decide)) (Nat.lt_of_le_of_lt hL9 (by decide))) (fun _ => ?_) (fun h => absurd (of_decide_eq_true h) (by first | decide | omega | simp))
  refine x_iconst (pc' := 93) rfl rfl ?_
  refine x_retz (z := true) rfl rfl ?_
  exact k0
set_option maxHeartbeats 4000000 in
set_option maxRecDepth 10000 in
theorem n63_k {t : sT} {Q : sRs → sT → Prop} {M : sM} {n : Nat} {T : Nat} {L0 : List Nat} {A : Nat} {B : Nat} {k : Nat} {x : Nat} {c : Nat} {o : Nat}
    (hW : Wc t M n T L0 A B)
    (hk : k < L0.length)
    (hx : L0.getD k 0 = x)
    (hxn : x < n)
    (hc3 : c < 3)
    (ho : o < n)
    (k0 : ¬ (oB M x = c) → X 63 50 [.inr (.inr (6, (some 0))), .inr (.inr (2, (some c))), .inr (.inr (8, (some o))), .inl (io c), .inl (io (k + 1))] [] t Q)
    (k1 : oB M x = c → Q (.inl (some (.inl (bz false)))) t) :
    X 63 50 [.inr (.inr (6, (some 0))), .inr (.inr (2, (some c))), .inr (.inr (8, (some o))), .inl (io c), .inl (io k)] [] t Q := by
  obtain ⟨hM, hc, hR, hC, hL, hL9⟩ := hW
  refine x_iload (pc' := 52) rfl rfl rfl ?_
  refine x_aload_n (pc' := 53) rfl rfl rfl rfl rfl ?_
  refine x_gR (pc' := 56) (r := (some 2)) rfl rfl rfl (kR_387_0 hc.1) ?_
  refine x_cv (ls0 := [_]) (rest := [_]) rfl rfl rfl rfl rfl ?_
  refine x_aload_n (pc' := 1) rfl rfl rfl rfl rfl ?_
  refine x_gI (pc' := 4) (x := (io L0.length)) rfl rfl rfl (show sI t 834 2 = io L0.length from LL_s hL) ?_
  refine x_reti rfl rfl ?_
  refine sK_i (pc' := 59) rfl ?_
  refine x_icmp_n (a' := 92) (pc' := 62) (z := decide (k < L0.length)) rfl rfl rfl (ic_gen (p := k) (q := L0.length) (Nat.lt_trans hk (Nat.lt_of_le_of_lt hL9 (by decide))) (Nat.lt_of_le_of_lt hL9 (by decide))) (fun h => absurd hk (of_decide_eq_false h)) (fun _ => ?_)
  refine x_aload_n (pc' := 63) rfl rfl rfl rfl rfl ?_
  refine x_gR (pc' := 66) (r := (some 2)) rfl rfl rfl (kR_387_0 hc.1) ?_
  refine x_iload (pc' := 68) rfl rfl rfl ?_
  refine x_cv (ls0 := [_, _]) (rest := []) rfl rfl rfl rfl rfl ?_
  refine LL_gx hL hk hx ?_
  refine sK_i (pc' := 71) rfl ?_
  refine x_cast (pc' := 74) rfl rfl rfl ?_
  refine x_gR (pc' := 77) (r := (some (oB M x))) rfl rfl rfl (Sf_514f hc (Fr.refl _) hxn) ?_
  refine x_gI (pc' := 80) (x := (io (oB M x))) rfl rfl rfl (kBk hc.1 (gb5 hR hxn)).2.2 ?_
  refine x_iload_n (pc' := 81) rfl rfl rfl ?_
  refine x_icmp_n (a' := 86) (pc' := 84) (z := decide (oB M x = c)) rfl rfl rfl (ic_nen (p := oB M x) (q := c) (gb31 (gb5 hR hxn)) (gc31 hc3)) (fun q2 => ?_) (fun q2 => ?_)
  · refine x_iinc (pc' := 89) (y := (io (k + 1))) (ls' := [_, _, _, _, _]) rfl rfl rfl (io_add k 1) rfl ?_
    refine x_goto (pc' := 50) rfl rfl ?_
    exact k0 (of_decide_eq_false q2)
  · refine x_iconst (pc' := 85) rfl rfl ?_
    refine x_retz (z := false) rfl rfl ?_
    exact k1 (of_decide_eq_true q2)
set_option maxHeartbeats 4000000 in
set_option maxRecDepth 10000 in
theorem n65_0 {t : sT} {Q : sRs → sT → Prop} {M : sM} {n : Nat} {T : Nat} {L0 : List Nat} {A : Nat} {B : Nat} {a : Int32}
    (hW : Wc t M n T L0 A B)
    (k0 : X 65 4 [.inr (.inr (6, (some 0))), .inl a, .inl 0, .inl 0, sJk, sJk, sJk, sJk, sJk] [] t Q) :
    X 65 0 [.inr (.inr (6, (some 0))), .inl a, sJk, sJk, sJk, sJk, sJk, sJk, sJk] [] t Q := by
  obtain ⟨hM, hc, hR, hC, hL, hL9⟩ := hW
  refine x_iconst (pc' := 1) rfl rfl ?_
  refine x_istore_n (pc' := 2) (ls' := [_, _, _, _, _, _, _, _, _]) rfl rfl rfl rfl ?_
  refine x_iconst (pc' := 3) rfl rfl ?_
  refine x_istore_n (pc' := 4) (ls' := [_, _, _, _, _, _, _, _, _]) rfl rfl rfl rfl ?_
  exact k0
set_option maxHeartbeats 4000000 in
set_option maxRecDepth 10000 in
theorem n65_4e {t : sT} {Q : sRs → sT → Prop} {M : sM} {n : Nat} {T : Nat} {L0 : List Nat} {A : Nat} {B : Nat} {a : Int32} {s : Int32}
    (hW : Wc t M n T L0 A B)
    (k0 : X 65 56 [.inr (.inr (6, (some 0))), .inl a, .inl s, .inl (mnc s a), .inl (mnc s a), .inl 0, .inl 0, .inl 0, sJk] [] t Q) :
    X 65 4 [.inr (.inr (6, (some 0))), .inl a, .inl s, .inl (io L0.length), sJk, sJk, sJk, sJk, sJk] [] t Q := by
  obtain ⟨hM, hc, hR, hC, hL, hL9⟩ := hW
  refine x_iload_n (pc' := 5) rfl rfl rfl ?_
  refine x_aload_n (pc' := 6) rfl rfl rfl rfl rfl ?_
  refine x_gR (pc' := 9) (r := (some 2)) rfl rfl rfl (kR_387_0 hc.1) ?_
  refine x_cv (ls0 := [_]) (rest := [_]) rfl rfl rfl rfl rfl ?_
  refine x_aload_n (pc' := 1) rfl rfl rfl rfl rfl ?_
  refine x_gI (pc' := 4) (x := (io L0.length)) rfl rfl rfl (show sI t 834 2 = io L0.length from LL_s hL) ?_
  refine x_reti rfl rfl ?_
  refine sK_i (pc' := 12) rfl ?_
  refine x_icmp_n (a' := 38) (pc' := 15) (z := decide (L0.length < L0.length)) rfl rfl rfl (ic_gen (p := L0.length) (q := L0.length) (Nat.lt_of_le_of_lt hL9 (by decide)) (Nat.lt_of_le_of_lt hL9 (by decide))) (fun _ => ?_) (fun h => absurd (of_decide_eq_true h) (by first | decide | omega | simp))
  refine x_iload_n (pc' := 39) rfl rfl rfl ?_
  refine x_iload_n (pc' := 40) rfl rfl rfl ?_
  refine x_min (pc' := 43) (z := (mnc s a)) rfl rfl rfl (if_mnc _ _) ?_
  refine x_istore_n (pc' := 44) (ls' := [_, _, _, _, _, _, _, _, _]) rfl rfl rfl rfl ?_
  refine x_iload_n (pc' := 45) rfl rfl rfl ?_
  refine x_istore (pc' := 47) (ls' := [_, _, _, _, _, _, _, _, _]) rfl rfl rfl rfl ?_
  refine x_iconst (pc' := 48) rfl rfl ?_
  refine x_istore (pc' := 50) (ls' := [_, _, _, _, _, _, _, _, _]) rfl rfl rfl rfl ?_
  refine x_iconst (pc' := 51) rfl rfl ?_
  refine x_istore (pc' := 53) (ls' := [_, _, _, _, _, _, _, _, _]) rfl rfl rfl rfl ?_
  refine x_iconst (pc' := 54) rfl rfl ?_
  refine x_istore (pc' := 56) (ls' := [_, _, _, _, _, _, _, _, _]) rfl rfl rfl rfl ?_
  exact k0
set_option maxHeartbeats 4000000 in
set_option maxRecDepth 10000 in
theorem n65_4k {t : sT} {Q : sRs → sT → Prop} {M : sM} {n : Nat} {T : Nat} {L0 : List Nat} {A : Nat} {B : Nat} {k : Nat} {x : Nat} {a : Int32} {s : Int32}
    (hW : Wc t M n T L0 A B)
    (hk : k < L0.length)
    (hx : L0.getD k 0 = x)
    (hxn : x < n)
    (hx1 : mA M 19 x = 1)
    (k0 : X 65 4 [.inr (.inr (6, (some 0))), .inl a, .inl (s + (mA M 17 x)), .inl (io (k + 1)), sJk, sJk, sJk, sJk, sJk] [] t Q) :
    X 65 4 [.inr (.inr (6, (some 0))), .inl a, .inl s, .inl (io k), sJk, sJk, sJk, sJk, sJk] [] t Q := by
  obtain ⟨hM, hc, hR, hC, hL, hL9⟩ := hW
  refine x_iload_n (pc' := 5) rfl rfl rfl ?_
  refine x_aload_n (pc' := 6) rfl rfl rfl rfl rfl ?_
  refine x_gR (pc' := 9) (r := (some 2)) rfl rfl rfl (kR_387_0 hc.1) ?_
  refine x_cv (ls0 := [_]) (rest := [_]) rfl rfl rfl rfl rfl ?_
  refine x_aload_n (pc' := 1) rfl rfl rfl rfl rfl ?_
  refine x_gI (pc' := 4) (x := (io L0.length)) rfl rfl rfl (show sI t 834 2 = io L0.length from LL_s hL) ?_
  refine x_reti rfl rfl ?_
  refine sK_i (pc' := 12) rfl ?_
  refine x_icmp_n (a' := 38) (pc' := 15) (z := decide (k < L0.length)) rfl rfl rfl (ic_gen (p := k) (q := L0.length) (Nat.lt_trans hk (Nat.lt_of_le_of_lt hL9 (by decide))) (Nat.lt_of_le_of_lt hL9 (by decide))) (fun h => absurd hk (of_decide_eq_false h)) (fun _ => ?_)
  refine x_iload_n (pc' := 16) rfl rfl rfl ?_
  refine x_aload_n (pc' := 17) rfl rfl rfl rfl rfl ?_
  refine x_gR (pc' := 20) (r := (some 2)) rfl rfl rfl (kR_387_0 hc.1) ?_
  refine x_iload_n (pc' := 21) rfl rfl rfl ?_
  refine x_cv (ls0 := [_, _]) (rest := [_]) rfl rfl rfl rfl rfl ?_
  refine LL_gx hL hk hx ?_
  refine sK_i (pc' := 24) rfl ?_
  refine x_cast (pc' := 27) rfl rfl rfl ?_
  refine x_gI (pc' := 30) (x := (mA M 17 x)) rfl rfl rfl (kW hM hxn hx1) ?_
  refine x_iadd (pc' := 31) (z := (s + (mA M 17 x))) rfl rfl rfl ?_
  refine x_istore_n (pc' := 32) (ls' := [_, _, _, _, _, _, _, _, _]) rfl rfl rfl rfl ?_
  refine x_iinc (pc' := 35) (y := (io (k + 1))) (ls' := [_, _, _, _, _, _, _, _, _]) rfl rfl rfl (io_add k 1) rfl ?_
  refine x_goto (pc' := 4) rfl rfl ?_
  exact k0
set_option maxHeartbeats 4000000 in
set_option maxRecDepth 10000 in
theorem n65_e {t : sT} {Q : sRs → sT → Prop} {M : sM} {n : Nat} {T : Nat} {L0 : List Nat} {A : Nat} {B : Nat} {a : Int32} {s : Int32} {z : Int32} {r : Int32} {h : Int32} {u : Int32} {y0 : sV}
    (hW : Wc t M n T L0 A B)
    (k0 : X 66 0 [.inr (.inr (6, (some 0))), .inl r, sJk, sJk, sJk] [] t (sK 66 65 166 [.inr (.inr (6, (some 0))), .inl a, .inl s, .inl z, .inl r, .inl h, .inl u, .inl (io L0.length), y0] [] Q)) :
    X 65 56 [.inr (.inr (6, (some 0))), .inl a, .inl s, .inl z, .inl r, .inl h, .inl u, .inl (io L0.length), y0] [] t Q := by
  obtain ⟨hM, hc, hR, hC, hL, hL9⟩ := hW
  refine x_iload (pc' := 58) rfl rfl rfl ?_
  refine x_aload_n (pc' := 59) rfl rfl rfl rfl rfl ?_
  refine x_gR (pc' := 62) (r := (some 2)) rfl rfl rfl (kR_387_0 hc.1) ?_
  refine x_cv (ls0 := [_]) (rest := [_]) rfl rfl rfl rfl rfl ?_
  refine x_aload_n (pc' := 1) rfl rfl rfl rfl rfl ?_
  refine x_gI (pc' := 4) (x := (io L0.length)) rfl rfl rfl (show sI t 834 2 = io L0.length from LL_s hL) ?_
  refine x_reti rfl rfl ?_
  refine sK_i (pc' := 65) rfl ?_
  refine x_icmp_n (a' := 163) (pc' := 68) (z := decide (L0.length < L0.length)) rfl rfl rfl (ic_gen (p := L0.length) (q := L0.length) (Nat.lt_of_le_of_lt hL9 (by decide)) (Nat.lt_of_le_of_lt hL9 (by decide))) (fun _ => ?_) (fun h => absurd (of_decide_eq_true h) (by first | decide | omega | simp))
  refine x_aload_n (pc' := 164) rfl rfl rfl rfl rfl ?_
  refine x_iload (pc' := 166) rfl rfl rfl ?_
  refine x_cv (ls0 := [_, _, sJk, sJk, sJk]) (rest := []) rfl rfl rfl rfl rfl ?_
  exact k0
set_option maxHeartbeats 4000000 in
set_option maxRecDepth 10000 in
theorem n65_k0 {t : sT} {Q : sRs → sT → Prop} {M : sM} {n : Nat} {T : Nat} {L0 : List Nat} {A : Nat} {B : Nat} {a : Int32} {s : Int32} {z : Int32} {r : Int32} {h : Int32} {u : Int32} {y0 : sV} {x : Nat}
    (hW : Wc t M n T L0 A B)
    (hk : 0 < L0.length)
    (hx : L0.getD 0 0 = x)
    (hxn : x < n)
    (hx1 : mA M 19 x = 1)
    (k0 : X 65 56 [.inr (.inr (6, (some 0))), .inl a, .inl s, .inl z, .inl (r - (mnc z (mA M 17 x))), .inl (s - (mA M 17 x)), .inl (z - (mnc z (mA M 17 x))), .inl 1, .inr (.inr (8, (some x)))] [] (sIw t 526 x (mnc z (mA M 17 x))) Q) :
    X 65 56 [.inr (.inr (6, (some 0))), .inl a, .inl s, .inl z, .inl r, .inl h, .inl u, .inl 0, y0] [] t Q := by
  obtain ⟨hM, hc, hR, hC, hL, hL9⟩ := hW
  refine x_iload (pc' := 58) rfl rfl rfl ?_
  refine x_aload_n (pc' := 59) rfl rfl rfl rfl rfl ?_
  refine x_gR (pc' := 62) (r := (some 2)) rfl rfl rfl (kR_387_0 hc.1) ?_
  refine x_cv (ls0 := [_]) (rest := [_]) rfl rfl rfl rfl rfl ?_
  refine x_aload_n (pc' := 1) rfl rfl rfl rfl rfl ?_
  refine x_gI (pc' := 4) (x := (io L0.length)) rfl rfl rfl (show sI t 834 2 = io L0.length from LL_s hL) ?_
  refine x_reti rfl rfl ?_
  refine sK_i (pc' := 65) rfl ?_
  refine x_icmp_n (a' := 163) (pc' := 68) (z := decide (0 < L0.length)) rfl rfl rfl (ic_gen (p := 0) (q := L0.length) (by decide) (Nat.lt_of_le_of_lt hL9 (by decide))) (fun h => absurd hk (of_decide_eq_false h)) (fun _ => ?_)
  refine x_aload_n (pc' := 69) rfl rfl rfl rfl rfl ?_
  refine x_gR (pc' := 72) (r := (some 2)) rfl rfl rfl (kR_387_0 hc.1) ?_
  refine x_iload (pc' := 74) rfl rfl rfl ?_
  refine x_cv (ls0 := [_, _]) (rest := []) rfl rfl rfl rfl rfl ?_
  refine LL_gx (k := 0) hL hk hx ?_
  refine sK_i (pc' := 77) rfl ?_
  refine x_cast (pc' := 80) rfl rfl rfl ?_
  refine x_astore (pc' := 82) (ls' := [_, _, _, _, _, _, _, _, _]) rfl rfl rfl rfl rfl ?_
  refine x_iload (pc' := 84) rfl rfl rfl ?_
  refine x_if (a' := 122) (pc' := 87) (z := false) rfl rfl rfl (by decide) (fun h => by cases h) (fun _ => ?_)
  refine x_aload (pc' := 89) rfl rfl rfl rfl rfl ?_
  refine x_aload (pc' := 91) rfl rfl rfl rfl rfl ?_
  refine x_gI (pc' := 94) (x := (mA M 17 x)) rfl rfl rfl (kW hM hxn hx1) ?_
  refine x_iload_n (pc' := 95) rfl rfl rfl ?_
  refine x_min (pc' := 98) (z := (mnc z (mA M 17 x))) rfl rfl rfl (if_mnc _ _) ?_
  refine x_pI (pc' := 101) rfl rfl rfl ?_
  refine x_iload_n (pc' := 102) rfl rfl rfl ?_
  refine x_aload (pc' := 104) rfl rfl rfl rfl rfl ?_
  refine x_gI (pc' := 107) (x := (mnc z (mA M 17 x))) rfl rfl rfl sI_s ?_
  refine x_isub (pc' := 108) (z := (z - (mnc z (mA M 17 x)))) rfl rfl rfl ?_
  refine x_istore (pc' := 110) (ls' := [_, _, _, _, _, _, _, _, _]) rfl rfl rfl rfl ?_
  refine x_iload_n (pc' := 111) rfl rfl rfl ?_
  refine x_aload (pc' := 113) rfl rfl rfl rfl rfl ?_
  refine x_gI (pc' := 116) (x := (mA M 17 x)) rfl rfl rfl (Eq.trans (b := sI t 524 x) rfl (kW hM hxn hx1)) ?_
  refine x_isub (pc' := 117) (z := (s - (mA M 17 x))) rfl rfl rfl ?_
  refine x_istore (pc' := 119) (ls' := [_, _, _, _, _, _, _, _, _]) rfl rfl rfl rfl ?_
  refine x_goto (pc' := 147) rfl rfl ?_
  refine x_iload (pc' := 149) rfl rfl rfl ?_
  refine x_aload (pc' := 151) rfl rfl rfl rfl rfl ?_
  refine x_gI (pc' := 154) (x := (mnc z (mA M 17 x))) rfl rfl rfl sI_s ?_
  refine x_isub (pc' := 155) (z := (r - (mnc z (mA M 17 x)))) rfl rfl rfl ?_
  refine x_istore (pc' := 157) (ls' := [_, _, _, _, _, _, _, _, _]) rfl rfl rfl rfl ?_
  refine x_iinc (pc' := 160) (y := 1) (ls' := [_, _, _, _, _, _, _, _, _]) rfl rfl rfl rfl rfl ?_
  refine x_goto (pc' := 56) rfl rfl ?_
  exact k0
set_option maxHeartbeats 4000000 in
set_option maxRecDepth 10000 in
theorem n65_k {t : sT} {Q : sRs → sT → Prop} {M : sM} {n : Nat} {T : Nat} {L0 : List Nat} {A : Nat} {B : Nat} {k : Nat} {x : Nat} {a : Int32} {s : Int32} {z : Int32} {r : Int32} {h : Int32} {u : Int32} {y0 : sV}
    (hW : Wc t M n T L0 A B)
    (hk : k < L0.length)
    (hx : L0.getD k 0 = x)
    (hxn : x < n)
    (hx1 : mA M 19 x = 1)
    (hk0 : 0 < k)
    (k0 : X 65 56 [.inr (.inr (6, (some 0))), .inl a, .inl s, .inl z, .inl (r - (bif (decide (0 < h)) then ((u * (mA M 17 x)) / h) else 0)), .inl h, .inl u, .inl (io (k + 1)), .inr (.inr (8, (some x)))] [] (sIw t 526 x (bif (decide (0 < h)) then ((u * (mA M 17 x)) / h) else 0)) Q) :
    X 65 56 [.inr (.inr (6, (some 0))), .inl a, .inl s, .inl z, .inl r, .inl h, .inl u, .inl (io k), y0] [] t Q := by
  obtain ⟨hM, hc, hR, hC, hL, hL9⟩ := hW
  refine x_iload (pc' := 58) rfl rfl rfl ?_
  refine x_aload_n (pc' := 59) rfl rfl rfl rfl rfl ?_
  refine x_gR (pc' := 62) (r := (some 2)) rfl rfl rfl (kR_387_0 hc.1) ?_
  refine x_cv (ls0 := [_]) (rest := [_]) rfl rfl rfl rfl rfl ?_
  refine x_aload_n (pc' := 1) rfl rfl rfl rfl rfl ?_
  refine x_gI (pc' := 4) (x := (io L0.length)) rfl rfl rfl (show sI t 834 2 = io L0.length from LL_s hL) ?_
  refine x_reti rfl rfl ?_
  refine sK_i (pc' := 65) rfl ?_
  refine x_icmp_n (a' := 163) (pc' := 68) (z := decide (k < L0.length)) rfl rfl rfl (ic_gen (p := k) (q := L0.length) (Nat.lt_trans hk (Nat.lt_of_le_of_lt hL9 (by decide))) (Nat.lt_of_le_of_lt hL9 (by decide))) (fun h => absurd hk (of_decide_eq_false h)) (fun _ => ?_)
  refine x_aload_n (pc' := 69) rfl rfl rfl rfl rfl ?_
  refine x_gR (pc' := 72) (r := (some 2)) rfl rfl rfl (kR_387_0 hc.1) ?_
  refine x_iload (pc' := 74) rfl rfl rfl ?_
  refine x_cv (ls0 := [_, _]) (rest := []) rfl rfl rfl rfl rfl ?_
  refine LL_gx hL hk hx ?_
  refine sK_i (pc' := 77) rfl ?_
  refine x_cast (pc' := 80) rfl rfl rfl ?_
  refine x_astore (pc' := 82) (ls' := [_, _, _, _, _, _, _, _, _]) rfl rfl rfl rfl rfl ?_
  refine x_iload (pc' := 84) rfl rfl rfl ?_
  refine x_if_n (a' := 122) (pc' := 87) (z := decide (k = 0)) rfl rfl rfl (ic_nen (p := k) (q := 0) (Nat.lt_trans hk (Nat.lt_of_le_of_lt hL9 (by decide))) (by decide)) (fun _ => ?_) (fun h => absurd (of_decide_eq_true h) (Nat.ne_of_gt hk0))
  refine x_aload (pc' := 124) rfl rfl rfl rfl rfl ?_
  refine x_iload (pc' := 126) rfl rfl rfl ?_
  have J3 : X 65 144 [.inr (.inr (6, (some 0))), .inl a, .inl s, .inl z, .inl r, .inl h, .inl u, .inl (io k), .inr (.inr (8, (some x)))] [.inl (bif (decide (0 < h)) then ((u * (mA M 17 x)) / h) else 0), .inr (.inr (8, (some x)))] t Q := by
    refine x_pI (pc' := 147) rfl rfl rfl ?_
    refine x_iload (pc' := 149) rfl rfl rfl ?_
    refine x_aload (pc' := 151) rfl rfl rfl rfl rfl ?_
    refine x_gI (pc' := 154) (x := (bif (decide (0 < h)) then ((u * (mA M 17 x)) / h) else 0)) rfl rfl rfl sI_s ?_
    refine x_isub (pc' := 155) (z := (r - (bif (decide (0 < h)) then ((u * (mA M 17 x)) / h) else 0))) rfl rfl rfl ?_
    refine x_istore (pc' := 157) (ls' := [_, _, _, _, _, _, _, _, _]) rfl rfl rfl rfl ?_
    refine x_iinc (pc' := 160) (y := (io (k + 1))) (ls' := [_, _, _, _, _, _, _, _, _]) rfl rfl rfl (io_add k 1) rfl ?_
    refine x_goto (pc' := 56) rfl rfl ?_
    exact k0
  refine x_if_n (a' := 143) (pc' := 129) (z := decide (0 < h)) rfl rfl rfl (ik_le _ _) (fun q3 => ?_) (fun q3 => ?_)
  · refine x_iconst (pc' := 144) rfl rfl ?_
    ((try rw [q3] at J3); (try rw [q3]); (try simp only [cd_t, cd_f, nt_t, nt_f, an_t, an_f, or_t, or_f] at J3); (try simp only [cd_t, cd_f, nt_t, nt_f, an_t, an_f, or_t, or_f]); exact J3)
  · refine x_iload (pc' := 131) rfl rfl rfl ?_
    refine x_aload (pc' := 133) rfl rfl rfl rfl rfl ?_
    refine x_gI (pc' := 136) (x := (mA M 17 x)) rfl rfl rfl (kW hM hxn hx1) ?_
    refine x_imul (pc' := 137) (z := (u * (mA M 17 x))) rfl rfl rfl ?_
    refine x_iload (pc' := 139) rfl rfl rfl ?_
    refine x_idiv (pc' := 140) (z := ((u * (mA M 17 x)) / h)) rfl rfl (pos_ne0 (of_decide_eq_true q3)) rfl ?_
    refine x_goto (pc' := 144) rfl rfl ?_
    ((try rw [q3] at J3); (try rw [q3]); (try simp only [cd_t, cd_f, nt_t, nt_f, an_t, an_f, or_t, or_f] at J3); (try simp only [cd_t, cd_f, nt_t, nt_f, an_t, an_f, or_t, or_f]); exact J3)
set_option maxHeartbeats 4000000 in
set_option maxRecDepth 10000 in
theorem n65_169 {t : sT} {Q : sRs → sT → Prop} {a : Int32} {s : Int32} {z : Int32} {r : Int32} {h : Int32} {u : Int32} {y0 : sV} {y1 : sV}
    (k0 : Q (.inl none) t) :
    X 65 169 [.inr (.inr (6, (some 0))), .inl a, .inl s, .inl z, .inl r, .inl h, .inl u, y1, y0] [] t Q := by
  refine x_ret rfl ?_
  exact k0
set_option maxHeartbeats 4000000 in
set_option maxRecDepth 10000 in
theorem n66_0 {t : sT} {Q : sRs → sT → Prop} {M : sM} {n : Nat} {T : Nat} {L0 : List Nat} {A : Nat} {B : Nat} {a : Int32}
    (hW : Wc t M n T L0 A B)
    (k0 : X 66 4 [.inr (.inr (6, (some 0))), .inl a, .inl a, .inl 0, sJk] [] t Q) :
    X 66 0 [.inr (.inr (6, (some 0))), .inl a, sJk, sJk, sJk] [] t Q := by
  obtain ⟨hM, hc, hR, hC, hL, hL9⟩ := hW
  refine x_iload_n (pc' := 1) rfl rfl rfl ?_
  refine x_istore_n (pc' := 2) (ls' := [_, _, _, _, _]) rfl rfl rfl rfl ?_
  refine x_iconst (pc' := 3) rfl rfl ?_
  refine x_istore_n (pc' := 4) (ls' := [_, _, _, _, _]) rfl rfl rfl rfl ?_
  exact k0
set_option maxHeartbeats 4000000 in
set_option maxRecDepth 10000 in
theorem n66_e {t : sT} {Q : sRs → sT → Prop} {M : sM} {n : Nat} {T : Nat} {L0 : List Nat} {A : Nat} {B : Nat} {a : Int32} {r : Int32} {y0 : sV}
    (hW : Wc t M n T L0 A B)
    (k0 : Q (.inl none) t) :
    X 66 4 [.inr (.inr (6, (some 0))), .inl a, .inl r, .inl (io L0.length), y0] [] t Q := by
  obtain ⟨hM, hc, hR, hC, hL, hL9⟩ := hW
  refine x_iload_n (pc' := 5) rfl rfl rfl ?_
  refine x_aload_n (pc' := 6) rfl rfl rfl rfl rfl ?_
  refine x_gR (pc' := 9) (r := (some 2)) rfl rfl rfl (kR_387_0 hc.1) ?_
  refine x_cv (ls0 := [_]) (rest := [_]) rfl rfl rfl rfl rfl ?_
  refine x_aload_n (pc' := 1) rfl rfl rfl rfl rfl ?_
  refine x_gI (pc' := 4) (x := (io L0.length)) rfl rfl rfl (show sI t 834 2 = io L0.length from LL_s hL) ?_
  refine x_reti rfl rfl ?_
  refine sK_i (pc' := 12) rfl ?_
  refine x_icmp_n (a' := 65) (pc' := 15) (z := decide (L0.length < L0.length)) rfl rfl rfl (ic_gen (p := L0.length) (q := L0.length) (Nat.lt_of_le_of_lt hL9 (by decide)) (Nat.lt_of_le_of_lt hL9 (by decide))) (fun _ => ?_) (fun h => absurd (of_decide_eq_true h) (by first | decide | omega | simp))
  refine x_ret rfl ?_
  exact k0
set_option maxHeartbeats 4000000 in
set_option maxRecDepth 10000 in
theorem n66_k {t : sT} {Q : sRs → sT → Prop} {M : sM} {n : Nat} {T : Nat} {L0 : List Nat} {A : Nat} {B : Nat} {k : Nat} {x : Nat} {a : Int32} {r : Int32} {y0 : sV} {p : Int32}
    (hW : Wc t M n T L0 A B)
    (hk : k < L0.length)
    (hx : L0.getD k 0 = x)
    (hxn : x < n)
    (hx1 : mA M 19 x = 1)
    (hp : sI t 526 x = p)
    (k0 : ¬ (0 < r) → X 66 4 [.inr (.inr (6, (some 0))), .inl a, .inl r, .inl (io (k + 1)), .inr (.inr (8, (some x)))] [] t Q)
    (k1 : 0 < r → ¬ (p < (mA M 17 x)) → X 66 4 [.inr (.inr (6, (some 0))), .inl a, .inl r, .inl (io (k + 1)), .inr (.inr (8, (some x)))] [] t Q)
    (k2 : 0 < r → p < (mA M 17 x) → X 66 4 [.inr (.inr (6, (some 0))), .inl a, .inl (r + (-1)), .inl (io (k + 1)), .inr (.inr (8, (some x)))] [] (sIw t 526 x (p + 1)) Q) :
    X 66 4 [.inr (.inr (6, (some 0))), .inl a, .inl r, .inl (io k), y0] [] t Q := by
  obtain ⟨hM, hc, hR, hC, hL, hL9⟩ := hW
  refine x_iload_n (pc' := 5) rfl rfl rfl ?_
  refine x_aload_n (pc' := 6) rfl rfl rfl rfl rfl ?_
  refine x_gR (pc' := 9) (r := (some 2)) rfl rfl rfl (kR_387_0 hc.1) ?_
  refine x_cv (ls0 := [_]) (rest := [_]) rfl rfl rfl rfl rfl ?_
  refine x_aload_n (pc' := 1) rfl rfl rfl rfl rfl ?_
  refine x_gI (pc' := 4) (x := (io L0.length)) rfl rfl rfl (show sI t 834 2 = io L0.length from LL_s hL) ?_
  refine x_reti rfl rfl ?_
  refine sK_i (pc' := 12) rfl ?_
  refine x_icmp_n (a' := 65) (pc' := 15) (z := decide (k < L0.length)) rfl rfl rfl (ic_gen (p := k) (q := L0.length) (Nat.lt_trans hk (Nat.lt_of_le_of_lt hL9 (by decide))) (Nat.lt_of_le_of_lt hL9 (by decide))) (fun h => absurd hk (of_decide_eq_false h)) (fun _ => ?_)
  refine x_aload_n (pc' := 16) rfl rfl rfl rfl rfl ?_
  refine x_gR (pc' := 19) (r := (some 2)) rfl rfl rfl (kR_387_0 hc.1) ?_
  refine x_iload_n (pc' := 20) rfl rfl rfl ?_
  refine x_cv (ls0 := [_, _]) (rest := []) rfl rfl rfl rfl rfl ?_
  refine LL_gx hL hk hx ?_
  refine sK_i (pc' := 23) rfl ?_
  refine x_cast (pc' := 26) rfl rfl rfl ?_
  refine x_astore (pc' := 28) (ls' := [_, _, _, _, _]) rfl rfl rfl rfl rfl ?_
  refine x_iload_n (pc' := 29) rfl rfl rfl ?_
  refine x_if_n (a' := 59) (pc' := 32) (z := decide (0 < r)) rfl rfl rfl (ik_le _ _) (fun q2 => ?_) (fun q2 => ?_)
  · refine x_iinc (pc' := 62) (y := (io (k + 1))) (ls' := [_, _, _, _, _]) rfl rfl rfl (io_add k 1) rfl ?_
    refine x_goto (pc' := 4) rfl rfl ?_
    exact k0 (of_decide_eq_false q2)
  · refine x_aload (pc' := 34) rfl rfl rfl rfl rfl ?_
    refine x_gI (pc' := 37) (x := (mA M 17 x)) rfl rfl rfl (kW hM hxn hx1) ?_
    refine x_aload (pc' := 39) rfl rfl rfl rfl rfl ?_
    refine x_gI (pc' := 42) (x := p) rfl rfl rfl hp ?_
    refine x_icmp_n (a' := 59) (pc' := 45) (z := decide (p < (mA M 17 x))) rfl rfl rfl (ik_le _ _) (fun q3 => ?_) (fun q3 => ?_)
    · refine x_iinc (pc' := 62) (y := (io (k + 1))) (ls' := [_, _, _, _, _]) rfl rfl rfl (io_add k 1) rfl ?_
      refine x_goto (pc' := 4) rfl rfl ?_
      exact k1 (of_decide_eq_true q2) (of_decide_eq_false q3)
    · refine x_aload (pc' := 47) rfl rfl rfl rfl rfl ?_
      refine x_dup (pc' := 48) rfl rfl rfl ?_
      refine x_gI (pc' := 51) (x := p) rfl rfl rfl hp ?_
      refine x_iconst (pc' := 52) rfl rfl ?_
      refine x_iadd (pc' := 53) (z := (p + 1)) rfl rfl rfl ?_
      refine x_pI (pc' := 56) rfl rfl rfl ?_
      refine x_iinc (pc' := 59) (y := (r + (-1))) (ls' := [_, _, _, _, _]) rfl rfl rfl rfl rfl ?_
      refine x_iinc (pc' := 62) (y := (io (k + 1))) (ls' := [_, _, _, _, _]) rfl rfl rfl (io_add k 1) rfl ?_
      refine x_goto (pc' := 4) rfl rfl ?_
      exact k2 (of_decide_eq_true q2) (of_decide_eq_true q3)
set_option maxHeartbeats 4000000 in
set_option maxRecDepth 10000 in
theorem n64_0 {t : sT} {Q : sRs → sT → Prop} {M : sM} {n : Nat} {T : Nat} {L0 : List Nat} {A : Nat} {B : Nat} {o : Nat} {p : Int32}
    (hW : Wc t M n T L0 A B)
    (ho : o < n)
    (k0 : X 65 0 [.inr (.inr (6, (some 0))), .inl (mA M 15 o), sJk, sJk, sJk, sJk, sJk, sJk, sJk] [] t (sK 65 64 5 [.inr (.inr (6, (some 0))), .inr (.inr (8, (some o))), .inl p, sJk, sJk, sJk, sJk, sJk] [] Q)) :
    X 64 0 [.inr (.inr (6, (some 0))), .inr (.inr (8, (some o))), .inl p, sJk, sJk, sJk, sJk, sJk] [] t Q := by
  obtain ⟨hM, hc, hR, hC, hL, hL9⟩ := hW
  refine x_aload_n (pc' := 1) rfl rfl rfl rfl rfl ?_
  refine x_aload_n (pc' := 2) rfl rfl rfl rfl rfl ?_
  refine x_gI (pc' := 5) (x := (mA M 15 o)) rfl rfl rfl (kA hM rfl ho) ?_
  refine x_cv (ls0 := [_, _, sJk, sJk, sJk, sJk, sJk, sJk, sJk]) (rest := []) rfl rfl rfl rfl rfl ?_
  exact k0
set_option maxHeartbeats 4000000 in
set_option maxRecDepth 10000 in
theorem n64_8 {t : sT} {Q : sRs → sT → Prop} {M : sM} {n : Nat} {T : Nat} {L0 : List Nat} {A : Nat} {B : Nat} {o : Nat} {p : Int32}
    (hW : Wc t M n T L0 A B)
    (ho : o < n)
    (k0 : X 36 0 [.inr (.inr (4, (some 0))), .inr (.inr (1, (some (oB M o)))), .inl p, sJk, sJk] [] t (sK 36 64 17 [.inr (.inr (6, (some 0))), .inr (.inr (8, (some o))), .inl p, sJk, sJk, sJk, sJk, sJk] [] Q)) :
    X 64 8 [.inr (.inr (6, (some 0))), .inr (.inr (8, (some o))), .inl p, sJk, sJk, sJk, sJk, sJk] [] t Q := by
  obtain ⟨hM, hc, hR, hC, hL, hL9⟩ := hW
  refine x_aload_n (pc' := 9) rfl rfl rfl rfl rfl ?_
  refine x_gR (pc' := 12) (r := (some 0)) rfl rfl rfl (kR_385_0 hc.1) ?_
  refine x_aload_n (pc' := 13) rfl rfl rfl rfl rfl ?_
  refine x_gR (pc' := 16) (r := (some (oB M o))) rfl rfl rfl (Sf_514f hc (Fr.refl _) ho) ?_
  refine x_iload_n (pc' := 17) rfl rfl rfl ?_
  refine x_cv (ls0 := [_, _, _, sJk, sJk]) (rest := []) rfl rfl rfl rfl rfl ?_
  exact k0
set_option maxHeartbeats 4000000 in
set_option maxRecDepth 10000 in
theorem n64_20 {t : sT} {Q : sRs → sT → Prop} {o : Nat} {p : Int32}
    (k0 : X 64 22 [.inr (.inr (6, (some 0))), .inr (.inr (8, (some o))), .inl p, .inl 0, sJk, sJk, sJk, sJk] [] t Q) :
    X 64 20 [.inr (.inr (6, (some 0))), .inr (.inr (8, (some o))), .inl p, sJk, sJk, sJk, sJk, sJk] [] t Q := by
  refine x_iconst (pc' := 21) rfl rfl ?_
  refine x_istore_n (pc' := 22) (ls' := [_, _, _, _, _, _, _, _]) rfl rfl rfl rfl ?_
  exact k0
set_option maxHeartbeats 4000000 in
set_option maxRecDepth 10000 in
theorem n64_e {t : sT} {Q : sRs → sT → Prop} {M : sM} {n : Nat} {T : Nat} {L0 : List Nat} {A : Nat} {B : Nat} {o : Nat} {p : Int32} {y0 : sV} {y1 : sV} {y2 : sV} {y3 : sV}
    (hW : Wc t M n T L0 A B)
    (ho : o < n)
    (k0 : Q (.inl none) t) :
    X 64 22 [.inr (.inr (6, (some 0))), .inr (.inr (8, (some o))), .inl p, .inl (io L0.length), y0, y1, y2, y3] [] t Q := by
  obtain ⟨hM, hc, hR, hC, hL, hL9⟩ := hW
  refine x_iload_n (pc' := 23) rfl rfl rfl ?_
  refine x_aload_n (pc' := 24) rfl rfl rfl rfl rfl ?_
  refine x_gR (pc' := 27) (r := (some 2)) rfl rfl rfl (kR_387_0 hc.1) ?_
  refine x_cv (ls0 := [_]) (rest := [_]) rfl rfl rfl rfl rfl ?_
  refine x_aload_n (pc' := 1) rfl rfl rfl rfl rfl ?_
  refine x_gI (pc' := 4) (x := (io L0.length)) rfl rfl rfl (show sI t 834 2 = io L0.length from LL_s hL) ?_
  refine x_reti rfl rfl ?_
  refine sK_i (pc' := 30) rfl ?_
  refine x_icmp_n (a' := 145) (pc' := 33) (z := decide (L0.length < L0.length)) rfl rfl rfl (ic_gen (p := L0.length) (q := L0.length) (Nat.lt_of_le_of_lt hL9 (by decide)) (Nat.lt_of_le_of_lt hL9 (by decide))) (fun _ => ?_) (fun h => absurd (of_decide_eq_true h) (by first | decide | omega | simp))
  refine x_ret rfl ?_
  exact k0
set_option maxHeartbeats 4000000 in
set_option maxRecDepth 10000 in
theorem n64_k {t : sT} {Q : sRs → sT → Prop} {M : sM} {n : Nat} {T : Nat} {L0 : List Nat} {A : Nat} {B : Nat} {k : Nat} {x : Nat} {o : Nat} {p : Int32} {y0 : sV} {y1 : sV} {y2 : sV} {y3 : sV} {a : Int32}
    (hW : Wc t M n T L0 A B)
    (hk : k < L0.length)
    (hx : L0.getD k 0 = x)
    (hxn : x < n)
    (ho : o < n)
    (hp : sI t 526 x = a)
    (k0 : ¬ (0 < a) → X 64 22 [.inr (.inr (6, (some 0))), .inr (.inr (8, (some o))), .inl p, .inl (io (k + 1)), .inr (.inr (8, (some x))), .inl a, y2, y3] [] t Q)
    (k1 : 0 < a → X 47 0 [.inr (.inr (5, (some 0))), .inr (.inr (1, (some (oB M o)))), .inr (.inr (7, (bif (mB M 3 o) then (some (oM M o)) else (some (oM M x))))), .inr (.inr (7, (bif (mB M 3 o) then (some (oM M x)) else (some (oM M o))))), .inl p, .inl a, sJk] [] t (sK 47 64 115 [.inr (.inr (6, (some 0))), .inr (.inr (8, (some o))), .inl p, .inl (io k), .inr (.inr (8, (some x))), .inl a, .inr (.inr (7, (bif (mB M 3 o) then (some (oM M o)) else (some (oM M x))))), .inr (.inr (7, (bif (mB M 3 o) then (some (oM M x)) else (some (oM M o)))))] [] Q)) :
    X 64 22 [.inr (.inr (6, (some 0))), .inr (.inr (8, (some o))), .inl p, .inl (io k), y0, y1, y2, y3] [] t Q := by
  obtain ⟨hM, hc, hR, hC, hL, hL9⟩ := hW
  refine x_iload_n (pc' := 23) rfl rfl rfl ?_
  refine x_aload_n (pc' := 24) rfl rfl rfl rfl rfl ?_
  refine x_gR (pc' := 27) (r := (some 2)) rfl rfl rfl (kR_387_0 hc.1) ?_
  refine x_cv (ls0 := [_]) (rest := [_]) rfl rfl rfl rfl rfl ?_
  refine x_aload_n (pc' := 1) rfl rfl rfl rfl rfl ?_
  refine x_gI (pc' := 4) (x := (io L0.length)) rfl rfl rfl (show sI t 834 2 = io L0.length from LL_s hL) ?_
  refine x_reti rfl rfl ?_
  refine sK_i (pc' := 30) rfl ?_
  refine x_icmp_n (a' := 145) (pc' := 33) (z := decide (k < L0.length)) rfl rfl rfl (ic_gen (p := k) (q := L0.length) (Nat.lt_trans hk (Nat.lt_of_le_of_lt hL9 (by decide))) (Nat.lt_of_le_of_lt hL9 (by decide))) (fun h => absurd hk (of_decide_eq_false h)) (fun _ => ?_)
  refine x_aload_n (pc' := 34) rfl rfl rfl rfl rfl ?_
  refine x_gR (pc' := 37) (r := (some 2)) rfl rfl rfl (kR_387_0 hc.1) ?_
  refine x_iload_n (pc' := 38) rfl rfl rfl ?_
  refine x_cv (ls0 := [_, _]) (rest := []) rfl rfl rfl rfl rfl ?_
  refine LL_gx hL hk hx ?_
  refine sK_i (pc' := 41) rfl ?_
  refine x_cast (pc' := 44) rfl rfl rfl ?_
  refine x_astore (pc' := 46) (ls' := [_, _, _, _, _, _, _, _]) rfl rfl rfl rfl rfl ?_
  refine x_aload (pc' := 48) rfl rfl rfl rfl rfl ?_
  refine x_gI (pc' := 51) (x := a) rfl rfl rfl hp ?_
  refine x_istore (pc' := 53) (ls' := [_, _, _, _, _, _, _, _]) rfl rfl rfl rfl ?_
  refine x_iload (pc' := 55) rfl rfl rfl ?_
  refine x_if_n (a' := 139) (pc' := 58) (z := decide (0 < a)) rfl rfl rfl (ik_le _ _) (fun q2 => ?_) (fun q2 => ?_)
  · refine x_iinc (pc' := 142) (y := (io (k + 1))) (ls' := [_, _, _, _, _, _, _, _]) rfl rfl rfl (io_add k 1) rfl ?_
    refine x_goto (pc' := 22) rfl rfl ?_
    exact k0 (of_decide_eq_false q2)
  · refine x_aload_n (pc' := 59) rfl rfl rfl rfl rfl ?_
    refine x_gZ (pc' := 62) (z := (mB M 3 o)) rfl rfl rfl ((kZ hM rfl ho).trans (congrFun (Fr.f3 (Fr.refl _)) _)) ?_
    have J3 : X 64 77 [.inr (.inr (6, (some 0))), .inr (.inr (8, (some o))), .inl p, .inl (io k), .inr (.inr (8, (some x))), .inl a, y2, y3] [.inr (.inr (7, (bif (mB M 3 o) then (some (oM M o)) else (some (oM M x)))))] t Q := by
      refine x_astore (pc' := 79) (ls' := [_, _, _, _, _, _, _, _]) rfl rfl rfl rfl rfl ?_
      refine x_aload_n (pc' := 80) rfl rfl rfl rfl rfl ?_
      refine x_gZ (pc' := 83) (z := (mB M 3 o)) rfl rfl rfl ((kZ hM rfl ho).trans (congrFun (Fr.f3 (Fr.refl _)) _)) ?_
      have J5 : X 64 98 [.inr (.inr (6, (some 0))), .inr (.inr (8, (some o))), .inl p, .inl (io k), .inr (.inr (8, (some x))), .inl a, .inr (.inr (7, (bif (mB M 3 o) then (some (oM M o)) else (some (oM M x))))), y3] [.inr (.inr (7, (bif (mB M 3 o) then (some (oM M x)) else (some (oM M o)))))] t Q := by
        refine x_astore (pc' := 100) (ls' := [_, _, _, _, _, _, _, _]) rfl rfl rfl rfl rfl ?_
        refine x_aload_n (pc' := 101) rfl rfl rfl rfl rfl ?_
        refine x_gR (pc' := 104) (r := (some 0)) rfl rfl rfl (kR_384_0 hc.1) ?_
        refine x_aload_n (pc' := 105) rfl rfl rfl rfl rfl ?_
        refine x_gR (pc' := 108) (r := (some (oB M o))) rfl rfl rfl (Sf_514f hc (Fr.refl _) ho) ?_
        refine x_aload (pc' := 110) rfl rfl rfl rfl rfl ?_
        refine x_aload (pc' := 112) rfl rfl rfl rfl rfl ?_
        refine x_iload_n (pc' := 113) rfl rfl rfl ?_
        refine x_iload (pc' := 115) rfl rfl rfl ?_
        refine x_cv (ls0 := [_, _, _, _, _, _, sJk]) (rest := []) rfl rfl rfl rfl rfl ?_
        exact k1 (of_decide_eq_true q2)
      refine x_ifeq_z (a' := 94) (pc' := 86) (z := (mB M 3 o)) rfl rfl rfl (fun q5 => ?_) (fun q5 => ?_)
      · refine x_aload_n (pc' := 95) rfl rfl rfl rfl rfl ?_
        refine x_gR (pc' := 98) (r := (some (oM M o))) rfl rfl rfl (Sf_513f hc (Fr.refl _) ho) ?_
        ((try rw [q5] at J5); (try rw [q5]); (try simp only [cd_t, cd_f, nt_t, nt_f, an_t, an_f, or_t, or_f] at J5); (try simp only [cd_t, cd_f, nt_t, nt_f, an_t, an_f, or_t, or_f]); exact J5)
      · refine x_aload (pc' := 88) rfl rfl rfl rfl rfl ?_
        refine x_gR (pc' := 91) (r := (some (oM M x))) rfl rfl rfl (Sf_513f hc (Fr.refl _) hxn) ?_
        refine x_goto (pc' := 98) rfl rfl ?_
        ((try rw [q5] at J5); (try rw [q5]); (try simp only [cd_t, cd_f, nt_t, nt_f, an_t, an_f, or_t, or_f] at J5); (try simp only [cd_t, cd_f, nt_t, nt_f, an_t, an_f, or_t, or_f]); exact J5)
    refine x_ifeq_z (a' := 72) (pc' := 65) (z := (mB M 3 o)) rfl rfl rfl (fun q3 => ?_) (fun q3 => ?_)
    · refine x_aload (pc' := 74) rfl rfl rfl rfl rfl ?_
      refine x_gR (pc' := 77) (r := (some (oM M x))) rfl rfl rfl (Sf_513f hc (Fr.refl _) hxn) ?_
      ((try rw [q3] at J3); (try rw [q3]); (try simp only [cd_t, cd_f, nt_t, nt_f, an_t, an_f, or_t, or_f] at J3); (try simp only [cd_t, cd_f, nt_t, nt_f, an_t, an_f, or_t, or_f]); exact J3)
    · refine x_aload_n (pc' := 66) rfl rfl rfl rfl rfl ?_
      refine x_gR (pc' := 69) (r := (some (oM M o))) rfl rfl rfl (Sf_513f hc (Fr.refl _) ho) ?_
      refine x_goto (pc' := 77) rfl rfl ?_
      ((try rw [q3] at J3); (try rw [q3]); (try simp only [cd_t, cd_f, nt_t, nt_f, an_t, an_f, or_t, or_f] at J3); (try simp only [cd_t, cd_f, nt_t, nt_f, an_t, an_f, or_t, or_f]); exact J3)
set_option maxHeartbeats 4000000 in
set_option maxRecDepth 10000 in
theorem n64_118 {t : sT} {Q : sRs → sT → Prop} {M : sM} {n : Nat} {T : Nat} {L0 : List Nat} {A : Nat} {B : Nat} {o : Nat} {p : Int32} {k : Nat} {x : Nat} {a : Int32} {y2 : sV} {y3 : sV}
    (hW : Wc t M n T L0 A B)
    (ho : o < n)
    (k0 : X 33 0 [.inr (.inr (4, (some 0))), .inr (.inr (8, (some o))), .inl a] [] t (sK 33 64 125 [.inr (.inr (6, (some 0))), .inr (.inr (8, (some o))), .inl p, .inl (io k), .inr (.inr (8, (some x))), .inl a, y2, y3] [] Q)) :
    X 64 118 [.inr (.inr (6, (some 0))), .inr (.inr (8, (some o))), .inl p, .inl (io k), .inr (.inr (8, (some x))), .inl a, y2, y3] [] t Q := by
  obtain ⟨hM, hc, hR, hC, hL, hL9⟩ := hW
  refine x_aload_n (pc' := 119) rfl rfl rfl rfl rfl ?_
  refine x_gR (pc' := 122) (r := (some 0)) rfl rfl rfl (kR_385_0 hc.1) ?_
  refine x_aload_n (pc' := 123) rfl rfl rfl rfl rfl ?_
  refine x_iload (pc' := 125) rfl rfl rfl ?_
  refine x_cv (ls0 := [_, _, _]) (rest := []) rfl rfl rfl rfl rfl ?_
  exact k0
set_option maxHeartbeats 4000000 in
set_option maxRecDepth 10000 in
theorem n64_128 {t : sT} {Q : sRs → sT → Prop} {M : sM} {n : Nat} {T : Nat} {L0 : List Nat} {A : Nat} {B : Nat} {o : Nat} {p : Int32} {k : Nat} {x : Nat} {a : Int32} {y2 : sV} {y3 : sV}
    (hW : Wc t M n T L0 A B)
    (ho : o < n)
    (k0 : X 35 0 [.inr (.inr (4, (some 0))), .inr (.inr (8, (some x))), .inl a] [] t (sK 35 64 136 [.inr (.inr (6, (some 0))), .inr (.inr (8, (some o))), .inl p, .inl (io k), .inr (.inr (8, (some x))), .inl a, y2, y3] [] Q)) :
    X 64 128 [.inr (.inr (6, (some 0))), .inr (.inr (8, (some o))), .inl p, .inl (io k), .inr (.inr (8, (some x))), .inl a, y2, y3] [] t Q := by
  obtain ⟨hM, hc, hR, hC, hL, hL9⟩ := hW
  refine x_aload_n (pc' := 129) rfl rfl rfl rfl rfl ?_
  refine x_gR (pc' := 132) (r := (some 0)) rfl rfl rfl (kR_385_0 hc.1) ?_
  refine x_aload (pc' := 134) rfl rfl rfl rfl rfl ?_
  refine x_iload (pc' := 136) rfl rfl rfl ?_
  refine x_cv (ls0 := [_, _, _]) (rest := []) rfl rfl rfl rfl rfl ?_
  exact k0
set_option maxHeartbeats 4000000 in
set_option maxRecDepth 10000 in
theorem n64_139 {t : sT} {Q : sRs → sT → Prop} {M : sM} {n : Nat} {T : Nat} {L0 : List Nat} {A : Nat} {B : Nat} {o : Nat} {p : Int32} {k : Nat} {x : Nat} {a : Int32} {y2 : sV} {y3 : sV}
    (hW : Wc t M n T L0 A B)
    (ho : o < n)
    (k0 : X 64 22 [.inr (.inr (6, (some 0))), .inr (.inr (8, (some o))), .inl p, .inl (io (k + 1)), .inr (.inr (8, (some x))), .inl a, y2, y3] [] t Q) :
    X 64 139 [.inr (.inr (6, (some 0))), .inr (.inr (8, (some o))), .inl p, .inl (io k), .inr (.inr (8, (some x))), .inl a, y2, y3] [] t Q := by
  obtain ⟨hM, hc, hR, hC, hL, hL9⟩ := hW
  refine x_iinc (pc' := 142) (y := (io (k + 1))) (ls' := [_, _, _, _, _, _, _, _]) rfl rfl rfl (io_add k 1) rfl ?_
  refine x_goto (pc' := 22) rfl rfl ?_
  exact k0
set_option maxHeartbeats 4000000 in
set_option maxRecDepth 10000 in
theorem n67_0 {t : sT} {Q : sRs → sT → Prop} {M : sM} {n : Nat} {T : Nat} {L0 : List Nat} {A : Nat} {B : Nat} {o : Nat} {p : Int32}
    (hW : Wc t M n T L0 A B)
    (ho : o < n)
    (k0 : X 67 8 [.inr (.inr (6, (some 0))), .inr (.inr (8, (some o))), .inl p, .inl (mA M 15 o), .inl 0, sJk, sJk, sJk, sJk, sJk] [] t Q) :
    X 67 0 [.inr (.inr (6, (some 0))), .inr (.inr (8, (some o))), .inl p, sJk, sJk, sJk, sJk, sJk, sJk, sJk] [] t Q := by
  obtain ⟨hM, hc, hR, hC, hL, hL9⟩ := hW
  refine x_aload_n (pc' := 1) rfl rfl rfl rfl rfl ?_
  refine x_gI (pc' := 4) (x := (mA M 15 o)) rfl rfl rfl (kA hM rfl ho) ?_
  refine x_istore_n (pc' := 5) (ls' := [_, _, _, _, _, _, _, _, _, _]) rfl rfl rfl rfl ?_
  refine x_iconst (pc' := 6) rfl rfl ?_
  refine x_istore (pc' := 8) (ls' := [_, _, _, _, _, _, _, _, _, _]) rfl rfl rfl rfl ?_
  exact k0
set_option maxHeartbeats 4000000 in
set_option maxRecDepth 10000 in
theorem n67_8e {t : sT} {Q : sRs → sT → Prop} {M : sM} {n : Nat} {T : Nat} {L0 : List Nat} {A : Nat} {B : Nat} {o : Nat} {p : Int32} {s : Int32}
    (hW : Wc t M n T L0 A B)
    (ho : o < n)
    (k0 : X 36 0 [.inr (.inr (4, (some 0))), .inr (.inr (1, (some (oB M o)))), .inl p, sJk, sJk] [] t (sK 36 67 70 [.inr (.inr (6, (some 0))), .inr (.inr (8, (some o))), .inl p, .inl s, .inl (bz ((snd (oB M o)).isSome)), .inr (.inr (7, (some (oM M o)))), sJk, sJk, sJk, sJk] [] Q)) :
    X 67 8 [.inr (.inr (6, (some 0))), .inr (.inr (8, (some o))), .inl p, .inl s, .inl (io L0.length), sJk, sJk, sJk, sJk, sJk] [] t Q := by
  obtain ⟨hM, hc, hR, hC, hL, hL9⟩ := hW
  refine x_iload (pc' := 10) rfl rfl rfl ?_
  refine x_aload_n (pc' := 11) rfl rfl rfl rfl rfl ?_
  refine x_gR (pc' := 14) (r := (some 2)) rfl rfl rfl (kR_387_0 hc.1) ?_
  refine x_cv (ls0 := [_]) (rest := [_]) rfl rfl rfl rfl rfl ?_
  refine x_aload_n (pc' := 1) rfl rfl rfl rfl rfl ?_
  refine x_gI (pc' := 4) (x := (io L0.length)) rfl rfl rfl (show sI t 834 2 = io L0.length from LL_s hL) ?_
  refine x_reti rfl rfl ?_
  refine sK_i (pc' := 17) rfl ?_
  refine x_icmp_n (a' := 46) (pc' := 20) (z := decide (L0.length < L0.length)) rfl rfl rfl (ic_gen (p := L0.length) (q := L0.length) (Nat.lt_of_le_of_lt hL9 (by decide)) (Nat.lt_of_le_of_lt hL9 (by decide))) (fun _ => ?_) (fun h => absurd (of_decide_eq_true h) (by first | decide | omega | simp))
  refine x_aload_n (pc' := 47) rfl rfl rfl rfl rfl ?_
  refine x_gR (pc' := 50) (r := (some (oB M o))) rfl rfl rfl (Sf_514f hc (Fr.refl _) ho) ?_
  refine x_cv (ls0 := [_]) (rest := []) rfl rfl rfl rfl rfl ?_
  refine x_aload_n (pc' := 1) rfl rfl rfl rfl rfl ?_
  refine x_gR (pc' := 4) (r := (snd (oB M o))) rfl rfl rfl (kBk hc.1 (gb5 hR ho)).2.1 ?_
  have J2 : X 8 12 [.inr (.inr (1, (some (oB M o))))] [.inl (bz ((snd (oB M o)).isSome))] t (sK 8 67 50 [.inr (.inr (6, (some 0))), .inr (.inr (8, (some o))), .inl p, .inl s, .inl (io L0.length), sJk, sJk, sJk, sJk, sJk] [] Q) := by
    refine x_retz (z := (snd (oB M o)).isSome) rfl rfl ?_
    refine sK_i (pc' := 53) rfl ?_
    refine x_istore (pc' := 55) (ls' := [_, _, _, _, _, _, _, _, _, _]) rfl rfl rfl rfl ?_
    refine x_aload_n (pc' := 56) rfl rfl rfl rfl rfl ?_
    refine x_gR (pc' := 59) (r := (some (oM M o))) rfl rfl rfl (Sf_513f hc (Fr.refl _) ho) ?_
    refine x_astore (pc' := 61) (ls' := [_, _, _, _, _, _, _, _, _, _]) rfl rfl rfl rfl rfl ?_
    refine x_aload_n (pc' := 62) rfl rfl rfl rfl rfl ?_
    refine x_gR (pc' := 65) (r := (some 0)) rfl rfl rfl (kR_385_0 hc.1) ?_
    refine x_aload_n (pc' := 66) rfl rfl rfl rfl rfl ?_
    refine x_gR (pc' := 69) (r := (some (oB M o))) rfl rfl rfl (Sf_514f hc (Fr.refl _) ho) ?_
    refine x_iload_n (pc' := 70) rfl rfl rfl ?_
    refine x_cv (ls0 := [_, _, _, sJk, sJk]) (rest := []) rfl rfl rfl rfl rfl ?_
    exact k0
  refine x_ifnull (a' := 11) (pc' := 7) rfl rfl rfl rfl (fun q2 => ?_) (fun j0 q2 => ?_)
  · refine x_iconst (pc' := 12) rfl rfl ?_
    ((try rw [isSome_n q2] at J2); (try rw [isSome_n q2]); (try simp only [cd_t, cd_f, nt_t, nt_f, an_t, an_f, or_t, or_f] at J2); (try simp only [cd_t, cd_f, nt_t, nt_f, an_t, an_f, or_t, or_f]); exact J2)
  · refine x_iconst (pc' := 8) rfl rfl ?_
    refine x_goto (pc' := 12) rfl rfl ?_
    ((try rw [isSome_s q2] at J2); (try rw [isSome_s q2]); (try simp only [cd_t, cd_f, nt_t, nt_f, an_t, an_f, or_t, or_f] at J2); (try simp only [cd_t, cd_f, nt_t, nt_f, an_t, an_f, or_t, or_f]); exact J2)
set_option maxHeartbeats 4000000 in
set_option maxRecDepth 10000 in
theorem n67_8k {t : sT} {Q : sRs → sT → Prop} {M : sM} {n : Nat} {T : Nat} {L0 : List Nat} {A : Nat} {B : Nat} {k : Nat} {x : Nat} {o : Nat} {p : Int32} {s : Int32}
    (hW : Wc t M n T L0 A B)
    (hk : k < L0.length)
    (hx : L0.getD k 0 = x)
    (hxn : x < n)
    (ho : o < n)
    (hx1 : mA M 19 x = 1)
    (k0 : X 67 8 [.inr (.inr (6, (some 0))), .inr (.inr (8, (some o))), .inl p, .inl (mnc (mA M 17 x) s), .inl (io (k + 1)), sJk, sJk, sJk, sJk, sJk] [] t Q) :
    X 67 8 [.inr (.inr (6, (some 0))), .inr (.inr (8, (some o))), .inl p, .inl s, .inl (io k), sJk, sJk, sJk, sJk, sJk] [] t Q := by
  obtain ⟨hM, hc, hR, hC, hL, hL9⟩ := hW
  refine x_iload (pc' := 10) rfl rfl rfl ?_
  refine x_aload_n (pc' := 11) rfl rfl rfl rfl rfl ?_
  refine x_gR (pc' := 14) (r := (some 2)) rfl rfl rfl (kR_387_0 hc.1) ?_
  refine x_cv (ls0 := [_]) (rest := [_]) rfl rfl rfl rfl rfl ?_
  refine x_aload_n (pc' := 1) rfl rfl rfl rfl rfl ?_
  refine x_gI (pc' := 4) (x := (io L0.length)) rfl rfl rfl (show sI t 834 2 = io L0.length from LL_s hL) ?_
  refine x_reti rfl rfl ?_
  refine sK_i (pc' := 17) rfl ?_
  refine x_icmp_n (a' := 46) (pc' := 20) (z := decide (k < L0.length)) rfl rfl rfl (ic_gen (p := k) (q := L0.length) (Nat.lt_trans hk (Nat.lt_of_le_of_lt hL9 (by decide))) (Nat.lt_of_le_of_lt hL9 (by decide))) (fun h => absurd hk (of_decide_eq_false h)) (fun _ => ?_)
  refine x_iload_n (pc' := 21) rfl rfl rfl ?_
  refine x_aload_n (pc' := 22) rfl rfl rfl rfl rfl ?_
  refine x_gR (pc' := 25) (r := (some 2)) rfl rfl rfl (kR_387_0 hc.1) ?_
  refine x_iload (pc' := 27) rfl rfl rfl ?_
  refine x_cv (ls0 := [_, _]) (rest := [_]) rfl rfl rfl rfl rfl ?_
  refine LL_gx hL hk hx ?_
  refine sK_i (pc' := 30) rfl ?_
  refine x_cast (pc' := 33) rfl rfl rfl ?_
  refine x_gI (pc' := 36) (x := (mA M 17 x)) rfl rfl rfl (kW hM hxn hx1) ?_
  refine x_min (pc' := 39) (z := (mnc (mA M 17 x) s)) rfl rfl rfl (if_mnc _ _) ?_
  refine x_istore_n (pc' := 40) (ls' := [_, _, _, _, _, _, _, _, _, _]) rfl rfl rfl rfl ?_
  refine x_iinc (pc' := 43) (y := (io (k + 1))) (ls' := [_, _, _, _, _, _, _, _, _, _]) rfl rfl rfl (io_add k 1) rfl ?_
  refine x_goto (pc' := 8) rfl rfl ?_
  exact k0
set_option maxHeartbeats 4000000 in
set_option maxRecDepth 10000 in
theorem n67_73 {t : sT} {Q : sRs → sT → Prop} {M : sM} {n : Nat} {T : Nat} {L0 : List Nat} {A : Nat} {B : Nat} {o : Nat} {p : Int32} {s : Int32} {z : Bool} {m : Nat}
    (hW : Wc t M n T L0 A B)
    (ho : o < n)
    (k0 : X 33 0 [.inr (.inr (4, (some 0))), .inr (.inr (8, (some o))), .inl s] [] t (sK 33 67 79 [.inr (.inr (6, (some 0))), .inr (.inr (8, (some o))), .inl p, .inl s, .inl (bz z), .inr (.inr (7, (some m))), sJk, sJk, sJk, sJk] [] Q)) :
    X 67 73 [.inr (.inr (6, (some 0))), .inr (.inr (8, (some o))), .inl p, .inl s, .inl (bz z), .inr (.inr (7, (some m))), sJk, sJk, sJk, sJk] [] t Q := by
  obtain ⟨hM, hc, hR, hC, hL, hL9⟩ := hW
  refine x_aload_n (pc' := 74) rfl rfl rfl rfl rfl ?_
  refine x_gR (pc' := 77) (r := (some 0)) rfl rfl rfl (kR_385_0 hc.1) ?_
  refine x_aload_n (pc' := 78) rfl rfl rfl rfl rfl ?_
  refine x_iload_n (pc' := 79) rfl rfl rfl ?_
  refine x_cv (ls0 := [_, _, _]) (rest := []) rfl rfl rfl rfl rfl ?_
  exact k0
set_option maxHeartbeats 4000000 in
set_option maxRecDepth 10000 in
theorem n67_82 {t : sT} {Q : sRs → sT → Prop} {M : sM} {n : Nat} {T : Nat} {L0 : List Nat} {A : Nat} {B : Nat} {o : Nat} {p : Int32} {s : Int32} {z : Bool} {m : Nat}
    (hW : Wc t M n T L0 A B)
    (ho : o < n)
    (k0 : X 67 85 [.inr (.inr (6, (some 0))), .inr (.inr (8, (some o))), .inl p, .inl s, .inl (bz z), .inr (.inr (7, (some m))), .inl 0, sJk, sJk, sJk] [] t Q) :
    X 67 82 [.inr (.inr (6, (some 0))), .inr (.inr (8, (some o))), .inl p, .inl s, .inl (bz z), .inr (.inr (7, (some m))), sJk, sJk, sJk, sJk] [] t Q := by
  obtain ⟨hM, hc, hR, hC, hL, hL9⟩ := hW
  refine x_iconst (pc' := 83) rfl rfl ?_
  refine x_istore (pc' := 85) (ls' := [_, _, _, _, _, _, _, _, _, _]) rfl rfl rfl rfl ?_
  exact k0
set_option maxHeartbeats 4000000 in
set_option maxRecDepth 10000 in
theorem n67_e {t : sT} {Q : sRs → sT → Prop} {M : sM} {n : Nat} {T : Nat} {L0 : List Nat} {A : Nat} {B : Nat} {o : Nat} {p : Int32} {s : Int32} {z : Bool} {m : Nat} {y0 : sV} {y1 : sV} {y2 : sV}
    (hW : Wc t M n T L0 A B)
    (ho : o < n)
    (k0 : Q (.inl none) t) :
    X 67 85 [.inr (.inr (6, (some 0))), .inr (.inr (8, (some o))), .inl p, .inl s, .inl (bz z), .inr (.inr (7, (some m))), .inl (io L0.length), y0, y1, y2] [] t Q := by
  obtain ⟨hM, hc, hR, hC, hL, hL9⟩ := hW
  refine x_iload (pc' := 87) rfl rfl rfl ?_
  refine x_aload_n (pc' := 88) rfl rfl rfl rfl rfl ?_
  refine x_gR (pc' := 91) (r := (some 2)) rfl rfl rfl (kR_387_0 hc.1) ?_
  refine x_cv (ls0 := [_]) (rest := [_]) rfl rfl rfl rfl rfl ?_
  refine x_aload_n (pc' := 1) rfl rfl rfl rfl rfl ?_
  refine x_gI (pc' := 4) (x := (io L0.length)) rfl rfl rfl (show sI t 834 2 = io L0.length from LL_s hL) ?_
  refine x_reti rfl rfl ?_
  refine sK_i (pc' := 94) rfl ?_
  refine x_icmp_n (a' := 241) (pc' := 97) (z := decide (L0.length < L0.length)) rfl rfl rfl (ic_gen (p := L0.length) (q := L0.length) (Nat.lt_of_le_of_lt hL9 (by decide)) (Nat.lt_of_le_of_lt hL9 (by decide))) (fun _ => ?_) (fun h => absurd (of_decide_eq_true h) (by first | decide | omega | simp))
  refine x_ret rfl ?_
  exact k0
set_option maxHeartbeats 4000000 in
set_option maxRecDepth 10000 in
theorem n67_kn {t : sT} {Q : sRs → sT → Prop} {M : sM} {n : Nat} {T : Nat} {L0 : List Nat} {A : Nat} {B : Nat} {k : Nat} {x : Nat} {o : Nat} {p : Int32} {s : Int32} {z : Bool} {m : Nat} {y0 : sV} {y1 : sV} {y2 : sV} {q0 : Int32}
    (hW : Wc t M n T L0 A B)
    (hk : k < L0.length)
    (hx : L0.getD k 0 = x)
    (hxn : x < n)
    (ho : o < n)
    (hp : sI t 528 x = q0)
    (ht : sR t 527 x = none)
    (k0 : X 36 0 [.inr (.inr (4, (some 0))), .inr (.inr (1, (some (oB M x)))), .inl (mA M 14 x), sJk, sJk] [] t (sK 36 67 222 [.inr (.inr (6, (some 0))), .inr (.inr (8, (some o))), .inl p, .inl s, .inl (bz z), .inr (.inr (7, (bif z then (some m) else (some (oM M x))))), .inl (io k), .inr (.inr (8, (some x))), .inr (.inr (7, (some (oM M x)))), .inl (bz (bif z then (bif (decide (0 < k)) then (!(mB M 3 o)) else (mB M 3 o)) else (mB M 3 o)))] [] Q)) :
    X 67 85 [.inr (.inr (6, (some 0))), .inr (.inr (8, (some o))), .inl p, .inl s, .inl (bz z), .inr (.inr (7, (some m))), .inl (io k), y0, y1, y2] [] t Q := by
  obtain ⟨hM, hc, hR, hC, hL, hL9⟩ := hW
  refine x_iload (pc' := 87) rfl rfl rfl ?_
  refine x_aload_n (pc' := 88) rfl rfl rfl rfl rfl ?_
  refine x_gR (pc' := 91) (r := (some 2)) rfl rfl rfl (kR_387_0 hc.1) ?_
  refine x_cv (ls0 := [_]) (rest := [_]) rfl rfl rfl rfl rfl ?_
  refine x_aload_n (pc' := 1) rfl rfl rfl rfl rfl ?_
  refine x_gI (pc' := 4) (x := (io L0.length)) rfl rfl rfl (show sI t 834 2 = io L0.length from LL_s hL) ?_
  refine x_reti rfl rfl ?_
  refine sK_i (pc' := 94) rfl ?_
  refine x_icmp_n (a' := 241) (pc' := 97) (z := decide (k < L0.length)) rfl rfl rfl (ic_gen (p := k) (q := L0.length) (Nat.lt_trans hk (Nat.lt_of_le_of_lt hL9 (by decide))) (Nat.lt_of_le_of_lt hL9 (by decide))) (fun h => absurd hk (of_decide_eq_false h)) (fun _ => ?_)
  refine x_aload_n (pc' := 98) rfl rfl rfl rfl rfl ?_
  refine x_gR (pc' := 101) (r := (some 2)) rfl rfl rfl (kR_387_0 hc.1) ?_
  refine x_iload (pc' := 103) rfl rfl rfl ?_
  refine x_cv (ls0 := [_, _]) (rest := []) rfl rfl rfl rfl rfl ?_
  refine LL_gx hL hk hx ?_
  refine sK_i (pc' := 106) rfl ?_
  refine x_cast (pc' := 109) rfl rfl rfl ?_
  refine x_astore (pc' := 111) (ls' := [_, _, _, _, _, _, _, _, _, _]) rfl rfl rfl rfl rfl ?_
  refine x_aload (pc' := 113) rfl rfl rfl rfl rfl ?_
  refine x_gR (pc' := 116) (r := (some (oM M x))) rfl rfl rfl (Sf_513f hc (Fr.refl _) hxn) ?_
  refine x_astore (pc' := 118) (ls' := [_, _, _, _, _, _, _, _, _, _]) rfl rfl rfl rfl rfl ?_
  refine x_iload (pc' := 120) rfl rfl rfl ?_
  have J4 : X 67 147 [.inr (.inr (6, (some 0))), .inr (.inr (8, (some o))), .inl p, .inl s, .inl (bz z), .inr (.inr (7, (some m))), .inl (io k), .inr (.inr (8, (some x))), .inr (.inr (7, (some (oM M x)))), y2] [.inl (bz (bif z then (bif (decide (0 < k)) then (!(mB M 3 o)) else (mB M 3 o)) else (mB M 3 o)))] t Q := by
    refine x_istore (pc' := 149) (ls' := [_, _, _, _, _, _, _, _, _, _]) rfl rfl rfl rfl ?_
    refine x_aload (pc' := 151) rfl rfl rfl rfl rfl ?_
    refine x_gR (pc' := 154) (r := none) rfl rfl rfl ht ?_
    refine x_ifnull (a' := 199) (pc' := 157) rfl rfl rfl rfl (fun _ => ?_) (fun i h => by cases h)
    refine x_iload (pc' := 201) rfl rfl rfl ?_
    have J7 : X 67 208 [.inr (.inr (6, (some 0))), .inr (.inr (8, (some o))), .inl p, .inl s, .inl (bz z), .inr (.inr (7, (bif z then (some m) else (some (oM M x))))), .inl (io k), .inr (.inr (8, (some x))), .inr (.inr (7, (some (oM M x)))), .inl (bz (bif z then (bif (decide (0 < k)) then (!(mB M 3 o)) else (mB M 3 o)) else (mB M 3 o)))] [] t Q := by
      refine x_aload_n (pc' := 209) rfl rfl rfl rfl rfl ?_
      refine x_gR (pc' := 212) (r := (some 0)) rfl rfl rfl (kR_385_0 hc.1) ?_
      refine x_aload (pc' := 214) rfl rfl rfl rfl rfl ?_
      refine x_gR (pc' := 217) (r := (some (oB M x))) rfl rfl rfl (Sf_514f hc (Fr.refl _) hxn) ?_
      refine x_aload (pc' := 219) rfl rfl rfl rfl rfl ?_
      refine x_gI (pc' := 222) (x := (mA M 14 x)) rfl rfl rfl ((kA hM rfl hxn).trans (congrFun (Fr.f14 (Fr.refl _)) _)) ?_
      refine x_cv (ls0 := [_, _, _, sJk, sJk]) (rest := []) rfl rfl rfl rfl rfl ?_
      exact k0
    refine x_ifne_z (a' := 208) (pc' := 204) (z := z) rfl rfl rfl (fun q7 => ?_) (fun q7 => ?_)
    · ((try rw [q7] at J7); (try rw [q7]); (try simp only [cd_t, cd_f, nt_t, nt_f, an_t, an_f, or_t, or_f] at J7); (try simp only [cd_t, cd_f, nt_t, nt_f, an_t, an_f, or_t, or_f]); exact J7)
    · refine x_aload (pc' := 206) rfl rfl rfl rfl rfl ?_
      refine x_astore (pc' := 208) (ls' := [_, _, _, _, _, _, _, _, _, _]) rfl rfl rfl rfl rfl ?_
      ((try rw [q7] at J7); (try rw [q7]); (try simp only [cd_t, cd_f, nt_t, nt_f, an_t, an_f, or_t, or_f] at J7); (try simp only [cd_t, cd_f, nt_t, nt_f, an_t, an_f, or_t, or_f]); exact J7)
  refine x_ifeq_z (a' := 143) (pc' := 123) (z := z) rfl rfl rfl (fun q2 => ?_) (fun q2 => ?_)
  · refine x_aload_n (pc' := 144) rfl rfl rfl rfl rfl ?_
    refine x_gZ (pc' := 147) (z := (mB M 3 o)) rfl rfl rfl ((kZ hM rfl ho).trans (congrFun (Fr.f3 (Fr.refl _)) _)) ?_
    ((try rw [q2] at J4); (try rw [q2]); (try simp only [cd_t, cd_f, nt_t, nt_f, an_t, an_f, or_t, or_f] at J4); (try simp only [cd_t, cd_f, nt_t, nt_f, an_t, an_f, or_t, or_f]); exact J4)
  · refine x_iload (pc' := 125) rfl rfl rfl ?_
    refine x_if_n (a' := 143) (pc' := 128) (z := decide (0 < k)) rfl rfl rfl (ic_len (p := k) (q := 0) (Nat.lt_trans hk (Nat.lt_of_le_of_lt hL9 (by decide))) (by decide)) (fun q3 => ?_) (fun q3 => ?_)
    · refine x_aload_n (pc' := 144) rfl rfl rfl rfl rfl ?_
      refine x_gZ (pc' := 147) (z := (mB M 3 o)) rfl rfl rfl ((kZ hM rfl ho).trans (congrFun (Fr.f3 (Fr.refl _)) _)) ?_
      ((try rw [q3] at J4); (try rw [q3]); (try rw [q2] at J4); (try rw [q2]); (try simp only [cd_t, cd_f, nt_t, nt_f, an_t, an_f, or_t, or_f] at J4); (try simp only [cd_t, cd_f, nt_t, nt_f, an_t, an_f, or_t, or_f]); exact J4)
    · refine x_aload_n (pc' := 129) rfl rfl rfl rfl rfl ?_
      refine x_gZ (pc' := 132) (z := (mB M 3 o)) rfl rfl rfl ((kZ hM rfl ho).trans (congrFun (Fr.f3 (Fr.refl _)) _)) ?_
      refine x_ifne_z (a' := 139) (pc' := 135) (z := (mB M 3 o)) rfl rfl rfl (fun q4 => ?_) (fun q4 => ?_)
      · refine x_iconst (pc' := 140) rfl rfl ?_
        refine x_goto (pc' := 147) rfl rfl ?_
        ((try rw [q4] at J4); (try rw [q4]); (try rw [q3] at J4); (try rw [q3]); (try rw [q2] at J4); (try rw [q2]); (try simp only [cd_t, cd_f, nt_t, nt_f, an_t, an_f, or_t, or_f] at J4); (try simp only [cd_t, cd_f, nt_t, nt_f, an_t, an_f, or_t, or_f]); exact J4)
      · refine x_iconst (pc' := 136) rfl rfl ?_
        refine x_goto (pc' := 147) rfl rfl ?_
        ((try rw [q4] at J4); (try rw [q4]); (try rw [q3] at J4); (try rw [q3]); (try rw [q2] at J4); (try rw [q2]); (try simp only [cd_t, cd_f, nt_t, nt_f, an_t, an_f, or_t, or_f] at J4); (try simp only [cd_t, cd_f, nt_t, nt_f, an_t, an_f, or_t, or_f]); exact J4)
set_option maxHeartbeats 4000000 in
set_option maxRecDepth 10000 in
theorem n67_ks {t : sT} {Q : sRs → sT → Prop} {M : sM} {n : Nat} {T : Nat} {L0 : List Nat} {A : Nat} {B : Nat} {k : Nat} {x : Nat} {o : Nat} {p : Int32} {s : Int32} {z : Bool} {m : Nat} {y0 : sV} {y1 : sV} {y2 : sV} {q0 : Int32} {d : Nat}
    (hW : Wc t M n T L0 A B)
    (hk : k < L0.length)
    (hx : L0.getD k 0 = x)
    (hxn : x < n)
    (ho : o < n)
    (hp : sI t 528 x = q0)
    (ht : sR t 527 x = some d)
    (hd3 : d < 3)
    (k0 : X 46 0 [.inr (.inr (5, (some 0))), .inr (.inr (2, (some d))), .inr (.inr (7, (bif (bif z then (bif (decide (0 < k)) then (!(mB M 3 o)) else (mB M 3 o)) else (mB M 3 o)) then (some m) else (some (oM M x))))), .inr (.inr (7, (bif (bif z then (bif (decide (0 < k)) then (!(mB M 3 o)) else (mB M 3 o)) else (mB M 3 o)) then (some (oM M x)) else (some m)))), .inl q0, .inl s] [] t (sK 46 67 196 [.inr (.inr (6, (some 0))), .inr (.inr (8, (some o))), .inl p, .inl s, .inl (bz z), .inr (.inr (7, (some m))), .inl (io k), .inr (.inr (8, (some x))), .inr (.inr (7, (some (oM M x)))), .inl (bz (bif z then (bif (decide (0 < k)) then (!(mB M 3 o)) else (mB M 3 o)) else (mB M 3 o)))] [] Q)) :
    X 67 85 [.inr (.inr (6, (some 0))), .inr (.inr (8, (some o))), .inl p, .inl s, .inl (bz z), .inr (.inr (7, (some m))), .inl (io k), y0, y1, y2] [] t Q := by
  obtain ⟨hM, hc, hR, hC, hL, hL9⟩ := hW
  refine x_iload (pc' := 87) rfl rfl rfl ?_
  refine x_aload_n (pc' := 88) rfl rfl rfl rfl rfl ?_
  refine x_gR (pc' := 91) (r := (some 2)) rfl rfl rfl (kR_387_0 hc.1) ?_
  refine x_cv (ls0 := [_]) (rest := [_]) rfl rfl rfl rfl rfl ?_
  refine x_aload_n (pc' := 1) rfl rfl rfl rfl rfl ?_
  refine x_gI (pc' := 4) (x := (io L0.length)) rfl rfl rfl (show sI t 834 2 = io L0.length from LL_s hL) ?_
  refine x_reti rfl rfl ?_
  refine sK_i (pc' := 94) rfl ?_
  refine x_icmp_n (a' := 241) (pc' := 97) (z := decide (k < L0.length)) rfl rfl rfl (ic_gen (p := k) (q := L0.length) (Nat.lt_trans hk (Nat.lt_of_le_of_lt hL9 (by decide))) (Nat.lt_of_le_of_lt hL9 (by decide))) (fun h => absurd hk (of_decide_eq_false h)) (fun _ => ?_)
  refine x_aload_n (pc' := 98) rfl rfl rfl rfl rfl ?_
  refine x_gR (pc' := 101) (r := (some 2)) rfl rfl rfl (kR_387_0 hc.1) ?_
  refine x_iload (pc' := 103) rfl rfl rfl ?_
  refine x_cv (ls0 := [_, _]) (rest := []) rfl rfl rfl rfl rfl ?_
  refine LL_gx hL hk hx ?_
  refine sK_i (pc' := 106) rfl ?_
  refine x_cast (pc' := 109) rfl rfl rfl ?_
  refine x_astore (pc' := 111) (ls' := [_, _, _, _, _, _, _, _, _, _]) rfl rfl rfl rfl rfl ?_
  refine x_aload (pc' := 113) rfl rfl rfl rfl rfl ?_
  refine x_gR (pc' := 116) (r := (some (oM M x))) rfl rfl rfl (Sf_513f hc (Fr.refl _) hxn) ?_
  refine x_astore (pc' := 118) (ls' := [_, _, _, _, _, _, _, _, _, _]) rfl rfl rfl rfl rfl ?_
  refine x_iload (pc' := 120) rfl rfl rfl ?_
  have J4 : X 67 147 [.inr (.inr (6, (some 0))), .inr (.inr (8, (some o))), .inl p, .inl s, .inl (bz z), .inr (.inr (7, (some m))), .inl (io k), .inr (.inr (8, (some x))), .inr (.inr (7, (some (oM M x)))), y2] [.inl (bz (bif z then (bif (decide (0 < k)) then (!(mB M 3 o)) else (mB M 3 o)) else (mB M 3 o)))] t Q := by
    refine x_istore (pc' := 149) (ls' := [_, _, _, _, _, _, _, _, _, _]) rfl rfl rfl rfl ?_
    refine x_aload (pc' := 151) rfl rfl rfl rfl rfl ?_
    refine x_gR (pc' := 154) (r := (some d)) rfl rfl rfl ht ?_
    refine x_ifnull (a' := 199) (pc' := 157) rfl rfl rfl rfl (fun h => by cases h) (fun _ _ => ?_)
    refine x_aload_n (pc' := 158) rfl rfl rfl rfl rfl ?_
    refine x_gR (pc' := 161) (r := (some 0)) rfl rfl rfl (kR_384_0 hc.1) ?_
    refine x_aload (pc' := 163) rfl rfl rfl rfl rfl ?_
    refine x_gR (pc' := 166) (r := (some d)) rfl rfl rfl ht ?_
    refine x_iload (pc' := 168) rfl rfl rfl ?_
    have J7 : X 67 178 [.inr (.inr (6, (some 0))), .inr (.inr (8, (some o))), .inl p, .inl s, .inl (bz z), .inr (.inr (7, (some m))), .inl (io k), .inr (.inr (8, (some x))), .inr (.inr (7, (some (oM M x)))), .inl (bz (bif z then (bif (decide (0 < k)) then (!(mB M 3 o)) else (mB M 3 o)) else (mB M 3 o)))] [.inr (.inr (7, (bif (bif z then (bif (decide (0 < k)) then (!(mB M 3 o)) else (mB M 3 o)) else (mB M 3 o)) then (some m) else (some (oM M x))))), .inr (.inr (2, (some d))), .inr (.inr (5, (some 0)))] t Q := by
      refine x_iload (pc' := 180) rfl rfl rfl ?_
      have J9 : X 67 190 [.inr (.inr (6, (some 0))), .inr (.inr (8, (some o))), .inl p, .inl s, .inl (bz z), .inr (.inr (7, (some m))), .inl (io k), .inr (.inr (8, (some x))), .inr (.inr (7, (some (oM M x)))), .inl (bz (bif z then (bif (decide (0 < k)) then (!(mB M 3 o)) else (mB M 3 o)) else (mB M 3 o)))] [.inr (.inr (7, (bif (bif z then (bif (decide (0 < k)) then (!(mB M 3 o)) else (mB M 3 o)) else (mB M 3 o)) then (some (oM M x)) else (some m)))), .inr (.inr (7, (bif (bif z then (bif (decide (0 < k)) then (!(mB M 3 o)) else (mB M 3 o)) else (mB M 3 o)) then (some m) else (some (oM M x))))), .inr (.inr (2, (some d))), .inr (.inr (5, (some 0)))] t Q := by
        refine x_aload (pc' := 192) rfl rfl rfl rfl rfl ?_
        refine x_gI (pc' := 195) (x := q0) rfl rfl rfl hp ?_
        refine x_iload_n (pc' := 196) rfl rfl rfl ?_
        refine x_cv (ls0 := [_, _, _, _, _, _]) (rest := []) rfl rfl rfl rfl rfl ?_
        exact k0
      refine x_ifeq_z (a' := 188) (pc' := 183) (z := (bif z then (bif (decide (0 < k)) then (!(mB M 3 o)) else (mB M 3 o)) else (mB M 3 o))) rfl rfl rfl (fun q9 => ?_) (fun q9 => ?_)
      · refine x_aload (pc' := 190) rfl rfl rfl rfl rfl ?_
        ((try rw [q9] at J9); (try rw [q9]); (try simp only [cd_t, cd_f, nt_t, nt_f, an_t, an_f, or_t, or_f] at J9); (try simp only [cd_t, cd_f, nt_t, nt_f, an_t, an_f, or_t, or_f]); exact J9)
      · refine x_aload (pc' := 185) rfl rfl rfl rfl rfl ?_
        refine x_goto (pc' := 190) rfl rfl ?_
        ((try rw [q9] at J9); (try rw [q9]); (try simp only [cd_t, cd_f, nt_t, nt_f, an_t, an_f, or_t, or_f] at J9); (try simp only [cd_t, cd_f, nt_t, nt_f, an_t, an_f, or_t, or_f]); exact J9)
    refine x_ifeq_z (a' := 176) (pc' := 171) (z := (bif z then (bif (decide (0 < k)) then (!(mB M 3 o)) else (mB M 3 o)) else (mB M 3 o))) rfl rfl rfl (fun q7 => ?_) (fun q7 => ?_)
    · refine x_aload (pc' := 178) rfl rfl rfl rfl rfl ?_
      ((try rw [q7] at J7); (try rw [q7]); (try simp only [cd_t, cd_f, nt_t, nt_f, an_t, an_f, or_t, or_f] at J7); (try simp only [cd_t, cd_f, nt_t, nt_f, an_t, an_f, or_t, or_f]); exact J7)
    · refine x_aload (pc' := 173) rfl rfl rfl rfl rfl ?_
      refine x_goto (pc' := 178) rfl rfl ?_
      ((try rw [q7] at J7); (try rw [q7]); (try simp only [cd_t, cd_f, nt_t, nt_f, an_t, an_f, or_t, or_f] at J7); (try simp only [cd_t, cd_f, nt_t, nt_f, an_t, an_f, or_t, or_f]); exact J7)
  refine x_ifeq_z (a' := 143) (pc' := 123) (z := z) rfl rfl rfl (fun q2 => ?_) (fun q2 => ?_)
  · refine x_aload_n (pc' := 144) rfl rfl rfl rfl rfl ?_
    refine x_gZ (pc' := 147) (z := (mB M 3 o)) rfl rfl rfl ((kZ hM rfl ho).trans (congrFun (Fr.f3 (Fr.refl _)) _)) ?_
    ((try rw [q2] at J4); (try rw [q2]); (try simp only [cd_t, cd_f, nt_t, nt_f, an_t, an_f, or_t, or_f] at J4); (try simp only [cd_t, cd_f, nt_t, nt_f, an_t, an_f, or_t, or_f]); exact J4)
  · refine x_iload (pc' := 125) rfl rfl rfl ?_
    refine x_if_n (a' := 143) (pc' := 128) (z := decide (0 < k)) rfl rfl rfl (ic_len (p := k) (q := 0) (Nat.lt_trans hk (Nat.lt_of_le_of_lt hL9 (by decide))) (by decide)) (fun q3 => ?_) (fun q3 => ?_)
    · refine x_aload_n (pc' := 144) rfl rfl rfl rfl rfl ?_
      refine x_gZ (pc' := 147) (z := (mB M 3 o)) rfl rfl rfl ((kZ hM rfl ho).trans (congrFun (Fr.f3 (Fr.refl _)) _)) ?_
      ((try rw [q3] at J4); (try rw [q3]); (try rw [q2] at J4); (try rw [q2]); (try simp only [cd_t, cd_f, nt_t, nt_f, an_t, an_f, or_t, or_f] at J4); (try simp only [cd_t, cd_f, nt_t, nt_f, an_t, an_f, or_t, or_f]); exact J4)
    · refine x_aload_n (pc' := 129) rfl rfl rfl rfl rfl ?_
      refine x_gZ (pc' := 132) (z := (mB M 3 o)) rfl rfl rfl ((kZ hM rfl ho).trans (congrFun (Fr.f3 (Fr.refl _)) _)) ?_
      refine x_ifne_z (a' := 139) (pc' := 135) (z := (mB M 3 o)) rfl rfl rfl (fun q4 => ?_) (fun q4 => ?_)
      · refine x_iconst (pc' := 140) rfl rfl ?_
        refine x_goto (pc' := 147) rfl rfl ?_
        ((try rw [q4] at J4); (try rw [q4]); (try rw [q3] at J4); (try rw [q3]); (try rw [q2] at J4); (try rw [q2]); (try simp only [cd_t, cd_f, nt_t, nt_f, an_t, an_f, or_t, or_f] at J4); (try simp only [cd_t, cd_f, nt_t, nt_f, an_t, an_f, or_t, or_f]); exact J4)
      · refine x_iconst (pc' := 136) rfl rfl ?_
        refine x_goto (pc' := 147) rfl rfl ?_
        ((try rw [q4] at J4); (try rw [q4]); (try rw [q3] at J4); (try rw [q3]); (try rw [q2] at J4); (try rw [q2]); (try simp only [cd_t, cd_f, nt_t, nt_f, an_t, an_f, or_t, or_f] at J4); (try simp only [cd_t, cd_f, nt_t, nt_f, an_t, an_f, or_t, or_f]); exact J4)
set_option maxHeartbeats 4000000 in
set_option maxRecDepth 10000 in
theorem n67_199 {t : sT} {Q : sRs → sT → Prop} {M : sM} {n : Nat} {T : Nat} {L0 : List Nat} {A : Nat} {B : Nat} {o : Nat} {p : Int32} {s : Int32} {z : Bool} {m : Nat} {k : Nat} {x : Nat} {h : Nat} {c : Bool}
    (hW : Wc t M n T L0 A B)
    (ho : o < n)
    (hxn : x < n)
    (k0 : X 36 0 [.inr (.inr (4, (some 0))), .inr (.inr (1, (some (oB M x)))), .inl (mA M 14 x), sJk, sJk] [] t (sK 36 67 222 [.inr (.inr (6, (some 0))), .inr (.inr (8, (some o))), .inl p, .inl s, .inl (bz z), .inr (.inr (7, (bif z then (some m) else (some h)))), .inl (io k), .inr (.inr (8, (some x))), .inr (.inr (7, (some h))), .inl (bz c)] [] Q)) :
    X 67 199 [.inr (.inr (6, (some 0))), .inr (.inr (8, (some o))), .inl p, .inl s, .inl (bz z), .inr (.inr (7, (some m))), .inl (io k), .inr (.inr (8, (some x))), .inr (.inr (7, (some h))), .inl (bz c)] [] t Q := by
  obtain ⟨hM, hc, hR, hC, hL, hL9⟩ := hW
  refine x_iload (pc' := 201) rfl rfl rfl ?_
  have J1 : X 67 208 [.inr (.inr (6, (some 0))), .inr (.inr (8, (some o))), .inl p, .inl s, .inl (bz z), .inr (.inr (7, (bif z then (some m) else (some h)))), .inl (io k), .inr (.inr (8, (some x))), .inr (.inr (7, (some h))), .inl (bz c)] [] t Q := by
    refine x_aload_n (pc' := 209) rfl rfl rfl rfl rfl ?_
    refine x_gR (pc' := 212) (r := (some 0)) rfl rfl rfl (kR_385_0 hc.1) ?_
    refine x_aload (pc' := 214) rfl rfl rfl rfl rfl ?_
    refine x_gR (pc' := 217) (r := (some (oB M x))) rfl rfl rfl (Sf_514f hc (Fr.refl _) hxn) ?_
    refine x_aload (pc' := 219) rfl rfl rfl rfl rfl ?_
    refine x_gI (pc' := 222) (x := (mA M 14 x)) rfl rfl rfl ((kA hM rfl hxn).trans (congrFun (Fr.f14 (Fr.refl _)) _)) ?_
    refine x_cv (ls0 := [_, _, _, sJk, sJk]) (rest := []) rfl rfl rfl rfl rfl ?_
    exact k0
  refine x_ifne_z (a' := 208) (pc' := 204) (z := z) rfl rfl rfl (fun q1 => ?_) (fun q1 => ?_)
  · ((try rw [q1] at J1); (try rw [q1]); (try simp only [cd_t, cd_f, nt_t, nt_f, an_t, an_f, or_t, or_f] at J1); (try simp only [cd_t, cd_f, nt_t, nt_f, an_t, an_f, or_t, or_f]); exact J1)
  · refine x_aload (pc' := 206) rfl rfl rfl rfl rfl ?_
    refine x_astore (pc' := 208) (ls' := [_, _, _, _, _, _, _, _, _, _]) rfl rfl rfl rfl rfl ?_
    ((try rw [q1] at J1); (try rw [q1]); (try simp only [cd_t, cd_f, nt_t, nt_f, an_t, an_f, or_t, or_f] at J1); (try simp only [cd_t, cd_f, nt_t, nt_f, an_t, an_f, or_t, or_f]); exact J1)
set_option maxHeartbeats 4000000 in
set_option maxRecDepth 10000 in
theorem n67_225 {t : sT} {Q : sRs → sT → Prop} {M : sM} {n : Nat} {T : Nat} {L0 : List Nat} {A : Nat} {B : Nat} {o : Nat} {p : Int32} {s : Int32} {z : Bool} {m : Nat} {k : Nat} {x : Nat} {h : Nat} {c : Bool}
    (hW : Wc t M n T L0 A B)
    (ho : o < n)
    (hxn : x < n)
    (k0 : X 35 0 [.inr (.inr (4, (some 0))), .inr (.inr (8, (some x))), .inl s] [] t (sK 35 67 232 [.inr (.inr (6, (some 0))), .inr (.inr (8, (some o))), .inl p, .inl s, .inl (bz z), .inr (.inr (7, (some m))), .inl (io k), .inr (.inr (8, (some x))), .inr (.inr (7, (some h))), .inl (bz c)] [] Q)) :
    X 67 225 [.inr (.inr (6, (some 0))), .inr (.inr (8, (some o))), .inl p, .inl s, .inl (bz z), .inr (.inr (7, (some m))), .inl (io k), .inr (.inr (8, (some x))), .inr (.inr (7, (some h))), .inl (bz c)] [] t Q := by
  obtain ⟨hM, hc, hR, hC, hL, hL9⟩ := hW
  refine x_aload_n (pc' := 226) rfl rfl rfl rfl rfl ?_
  refine x_gR (pc' := 229) (r := (some 0)) rfl rfl rfl (kR_385_0 hc.1) ?_
  refine x_aload (pc' := 231) rfl rfl rfl rfl rfl ?_
  refine x_iload_n (pc' := 232) rfl rfl rfl ?_
  refine x_cv (ls0 := [_, _, _]) (rest := []) rfl rfl rfl rfl rfl ?_
  exact k0
set_option maxHeartbeats 4000000 in
set_option maxRecDepth 10000 in
theorem n67_235 {t : sT} {Q : sRs → sT → Prop} {M : sM} {n : Nat} {T : Nat} {L0 : List Nat} {A : Nat} {B : Nat} {o : Nat} {p : Int32} {s : Int32} {z : Bool} {m : Nat} {k : Nat} {x : Nat} {h : Nat} {c : Bool}
    (hW : Wc t M n T L0 A B)
    (ho : o < n)
    (hxn : x < n)
    (k0 : X 67 85 [.inr (.inr (6, (some 0))), .inr (.inr (8, (some o))), .inl p, .inl s, .inl (bz z), .inr (.inr (7, (some m))), .inl (io (k + 1)), .inr (.inr (8, (some x))), .inr (.inr (7, (some h))), .inl (bz c)] [] t Q) :
    X 67 235 [.inr (.inr (6, (some 0))), .inr (.inr (8, (some o))), .inl p, .inl s, .inl (bz z), .inr (.inr (7, (some m))), .inl (io k), .inr (.inr (8, (some x))), .inr (.inr (7, (some h))), .inl (bz c)] [] t Q := by
  obtain ⟨hM, hc, hR, hC, hL, hL9⟩ := hW
  refine x_iinc (pc' := 238) (y := (io (k + 1))) (ls' := [_, _, _, _, _, _, _, _, _, _]) rfl rfl rfl (io_add k 1) rfl ?_
  refine x_goto (pc' := 85) rfl rfl ?_
  exact k0
set_option maxHeartbeats 4000000 in
set_option maxRecDepth 10000 in
theorem n47_0 {t : sT} {Q : sRs → sT → Prop} {M : sM} {n : Nat} {T : Nat} {L0 : List Nat} {A : Nat} {B : Nat} {b : Nat} {m : Nat} {o : Nat} {p : Int32} {a : Int32}
    (hW : Wc t M n T L0 A B)
    (hb : b < 5)
    (k0 : ∀ j0, (snd b) = some j0 → X 45 0 [.inr (.inr (5, (some 0))), .inr (.inr (2, (some j0))), .inr (.inr (7, (some o))), .inr (.inr (7, (some m))), .inl (mA M 1 j0), .inl a, sJk] [] t (sK 45 47 53 [.inr (.inr (5, (some 0))), .inr (.inr (1, (some b))), .inr (.inr (7, (some m))), .inr (.inr (7, (some o))), .inl p, .inl a, .inl (mA M 1 j0)] [] Q))
    (k1 : (snd b) = none → X 45 0 [.inr (.inr (5, (some 0))), .inr (.inr (2, (some (fst b)))), .inr (.inr (7, (some m))), .inr (.inr (7, (some o))), .inl p, .inl a, sJk] [] t (sK 45 47 18 [.inr (.inr (5, (some 0))), .inr (.inr (1, (some b))), .inr (.inr (7, (some m))), .inr (.inr (7, (some o))), .inl p, .inl a, sJk] [] Q)) :
    X 47 0 [.inr (.inr (5, (some 0))), .inr (.inr (1, (some b))), .inr (.inr (7, (some m))), .inr (.inr (7, (some o))), .inl p, .inl a, sJk] [] t Q := by
  obtain ⟨hM, hc, hR, hC, hL, hL9⟩ := hW
  refine x_aload_n (pc' := 1) rfl rfl rfl rfl rfl ?_
  refine x_gR (pc' := 4) (r := (snd b)) rfl rfl rfl (kBk hc.1 hb).2.1 ?_
  refine x_ifnonnull (a' := 33) (pc' := 7) rfl rfl rfl rfl (fun j0 q1 => ?_) (fun q1 => ?_)
  · refine x_aload_n (pc' := 34) rfl rfl rfl rfl rfl ?_
    refine x_gR (pc' := 37) (r := (some j0)) rfl rfl rfl (Eq.trans (kBk hc.1 hb).2.1 q1) ?_
    refine x_gI (pc' := 40) (x := (mA M 1 j0)) rfl rfl rfl (kA hM rfl (snd3 hb q1)) ?_
    refine x_istore (pc' := 42) (ls' := [_, _, _, _, _, _, _]) rfl rfl rfl rfl ?_
    refine x_aload_n (pc' := 43) rfl rfl rfl rfl rfl ?_
    refine x_aload_n (pc' := 44) rfl rfl rfl rfl rfl ?_
    refine x_gR (pc' := 47) (r := (some j0)) rfl rfl rfl (Eq.trans (kBk hc.1 hb).2.1 q1) ?_
    refine x_aload_n (pc' := 48) rfl rfl rfl rfl rfl ?_
    refine x_aload_n (pc' := 49) rfl rfl rfl rfl rfl ?_
    refine x_iload (pc' := 51) rfl rfl rfl ?_
    refine x_iload (pc' := 53) rfl rfl rfl ?_
    refine x_cv (ls0 := [_, _, _, _, _, _, sJk]) (rest := []) rfl rfl rfl rfl rfl ?_
    exact k0 j0 q1
  · refine x_aload_n (pc' := 8) rfl rfl rfl rfl rfl ?_
    refine x_aload_n (pc' := 9) rfl rfl rfl rfl rfl ?_
    refine x_gR (pc' := 12) (r := (some (fst b))) rfl rfl rfl (kBk hc.1 hb).1 ?_
    refine x_aload_n (pc' := 13) rfl rfl rfl rfl rfl ?_
    refine x_aload_n (pc' := 14) rfl rfl rfl rfl rfl ?_
    refine x_iload (pc' := 16) rfl rfl rfl ?_
    refine x_iload (pc' := 18) rfl rfl rfl ?_
    refine x_cv (ls0 := [_, _, _, _, _, _, sJk]) (rest := []) rfl rfl rfl rfl rfl ?_
    exact k1 q1
set_option maxHeartbeats 4000000 in
set_option maxRecDepth 10000 in
theorem n47_21 {t : sT} {Q : sRs → sT → Prop} {M : sM} {n : Nat} {T : Nat} {L0 : List Nat} {A : Nat} {B : Nat} {b : Nat} {m : Nat} {o : Nat} {p : Int32} {a : Int32}
    (hW : Wc t M n T L0 A B)
    (hb : b < 5)
    (k0 : Q (.inl none) (sIw t 129 (fst b) p)) :
    X 47 21 [.inr (.inr (5, (some 0))), .inr (.inr (1, (some b))), .inr (.inr (7, (some m))), .inr (.inr (7, (some o))), .inl p, .inl a, sJk] [] t Q := by
  obtain ⟨hM, hc, hR, hC, hL, hL9⟩ := hW
  refine x_aload_n (pc' := 22) rfl rfl rfl rfl rfl ?_
  refine x_gR (pc' := 25) (r := (some (fst b))) rfl rfl rfl (kBk hc.1 hb).1 ?_
  refine x_iload (pc' := 27) rfl rfl rfl ?_
  refine x_pI (pc' := 30) rfl rfl rfl ?_
  refine x_goto (pc' := 73) rfl rfl ?_
  refine x_ret rfl ?_
  exact k0
set_option maxHeartbeats 4000000 in
set_option maxRecDepth 10000 in
theorem n47_56 {t : sT} {Q : sRs → sT → Prop} {M : sM} {n : Nat} {T : Nat} {L0 : List Nat} {A : Nat} {B : Nat} {b : Nat} {m : Nat} {o : Nat} {p : Int32} {a : Int32} {z : Int32}
    (hW : Wc t M n T L0 A B)
    (hb : b < 5)
    (k0 : X 45 0 [.inr (.inr (5, (some 0))), .inr (.inr (2, (some (fst b)))), .inr (.inr (7, (some m))), .inr (.inr (7, (some o))), .inl (z + p), .inl a, sJk] [] t (sK 45 47 70 [.inr (.inr (5, (some 0))), .inr (.inr (1, (some b))), .inr (.inr (7, (some m))), .inr (.inr (7, (some o))), .inl p, .inl a, .inl z] [] Q)) :
    X 47 56 [.inr (.inr (5, (some 0))), .inr (.inr (1, (some b))), .inr (.inr (7, (some m))), .inr (.inr (7, (some o))), .inl p, .inl a, .inl z] [] t Q := by
  obtain ⟨hM, hc, hR, hC, hL, hL9⟩ := hW
  refine x_aload_n (pc' := 57) rfl rfl rfl rfl rfl ?_
  refine x_aload_n (pc' := 58) rfl rfl rfl rfl rfl ?_
  refine x_gR (pc' := 61) (r := (some (fst b))) rfl rfl rfl (kBk hc.1 hb).1 ?_
  refine x_aload_n (pc' := 62) rfl rfl rfl rfl rfl ?_
  refine x_aload_n (pc' := 63) rfl rfl rfl rfl rfl ?_
  refine x_iload (pc' := 65) rfl rfl rfl ?_
  refine x_iload (pc' := 67) rfl rfl rfl ?_
  refine x_iadd (pc' := 68) (z := (z + p)) rfl rfl rfl ?_
  refine x_iload (pc' := 70) rfl rfl rfl ?_
  refine x_cv (ls0 := [_, _, _, _, _, _, sJk]) (rest := []) rfl rfl rfl rfl rfl ?_
  exact k0
set_option maxHeartbeats 4000000 in
set_option maxRecDepth 10000 in
theorem n47_73 {t : sT} {Q : sRs → sT → Prop} {b : Nat} {m : Nat} {o : Nat} {p : Int32} {a : Int32} {z : sV}
    (k0 : Q (.inl none) t) :
    X 47 73 [.inr (.inr (5, (some 0))), .inr (.inr (1, (some b))), .inr (.inr (7, (some m))), .inr (.inr (7, (some o))), .inl p, .inl a, z] [] t Q := by
  refine x_ret rfl ?_
  exact k0
set_option maxHeartbeats 4000000 in
set_option maxRecDepth 10000 in
theorem n29_0 {t : sT} {Q : sRs → sT → Prop} {M : sM} {n : Nat} {T : Nat} {L0 : List Nat} {A : Nat} {B : Nat} {o : Nat}
    (hW : Wc t M n T L0 A B)
    (ho : o < n)
    (k0 : ¬ ((mA M 15 o) = 0) → (mB M 5 o) = false → X 28 0 [.inr (.inr (4, (some 0))), .inr (.inr (8, (some o)))] [] t (sK 28 29 32 [.inr (.inr (4, (some 0))), .inr (.inr (8, (some o)))] [] Q))
    (k1 : ¬ ((mA M 15 o) = 0) → (mB M 5 o) = true → Q (.inl none) (sIw t 522 o 3))
    (k2 : (mA M 15 o) = 0 → Q (.inl none) (sIw t 522 o 2)) :
    X 29 0 [.inr (.inr (4, (some 0))), .inr (.inr (8, (some o)))] [] t Q := by
  obtain ⟨hM, hc, hR, hC, hL, hL9⟩ := hW
  refine x_aload_n (pc' := 1) rfl rfl rfl rfl rfl ?_
  refine x_gI (pc' := 4) (x := (mA M 15 o)) rfl rfl rfl (kA hM rfl ho) ?_
  refine x_if_n (a' := 15) (pc' := 7) (z := decide ((mA M 15 o) = 0)) rfl rfl rfl (ik_ne _ _) (fun q1 => ?_) (fun q1 => ?_)
  · refine x_aload_n (pc' := 16) rfl rfl rfl rfl rfl ?_
    refine x_gZ (pc' := 19) (z := (mB M 5 o)) rfl rfl rfl (kZ hM rfl ho) ?_
    refine x_ifeq_z (a' := 30) (pc' := 22) (z := (mB M 5 o)) rfl rfl rfl (fun q2 => ?_) (fun q2 => ?_)
    · refine x_aload_n (pc' := 31) rfl rfl rfl rfl rfl ?_
      refine x_aload_n (pc' := 32) rfl rfl rfl rfl rfl ?_
      refine x_cv (ls0 := [_, _]) (rest := []) rfl rfl rfl rfl rfl ?_
      exact k0 (of_decide_eq_false q1) q2
    · refine x_aload_n (pc' := 23) rfl rfl rfl rfl rfl ?_
      refine x_iconst (pc' := 24) rfl rfl ?_
      refine x_pI (pc' := 27) rfl rfl rfl ?_
      refine x_goto (pc' := 35) rfl rfl ?_
      refine x_ret rfl ?_
      exact k1 (of_decide_eq_false q1) q2
  · refine x_aload_n (pc' := 8) rfl rfl rfl rfl rfl ?_
    refine x_iconst (pc' := 9) rfl rfl ?_
    refine x_pI (pc' := 12) rfl rfl rfl ?_
    refine x_goto (pc' := 35) rfl rfl ?_
    refine x_ret rfl ?_
    exact k2 (of_decide_eq_true q1)
set_option maxHeartbeats 4000000 in
set_option maxRecDepth 10000 in
theorem n29_35 {t : sT} {Q : sRs → sT → Prop} {o : Nat}
    (k0 : Q (.inl none) t) :
    X 29 35 [.inr (.inr (4, (some 0))), .inr (.inr (8, (some o)))] [] t Q := by
  refine x_ret rfl ?_
  exact k0
set_option maxHeartbeats 4000000 in
set_option maxRecDepth 10000 in
theorem n80 {t : sT} {Q : sRs → sT → Prop} {M : sM} {n : Nat} {T : Nat} {L0 : List Nat} {A : Nat} {B : Nat} {b : Nat} {w : Nat} {k : Nat}
    (hW : Wc t M n T L0 A B)
    (hb : b < 5)
    (hw : w < 3)
    (hk : k < 3)
    (k0 : Q (.inl (some (.inl (sA t 28 0 ((((b * 3) + w) * 3) + k))))) t) :
    X 80 0 [.inr (.inr (10, (some 0))), .inr (.inr (1, (some b))), .inl (io w), .inl (io k), sJk, sJk] [] t Q := by
  obtain ⟨hM, hc, hR, hC, hL, hL9⟩ := hW
  refine x_aload_n (pc' := 1) rfl rfl rfl rfl rfl ?_
  refine x_gI (pc' := 4) (x := (io b)) rfl rfl rfl (kBk hc.1 hb).2.2 ?_
  refine x_iconst (pc' := 5) rfl rfl ?_
  refine x_imul (pc' := 6) (z := (io (b * 3))) rfl rfl (io_mul b 3) ?_
  refine x_iload_n (pc' := 7) rfl rfl rfl ?_
  refine x_iadd (pc' := 8) (z := (io ((b * 3) + w))) rfl rfl (io_add (b * 3) w) ?_
  refine x_iconst (pc' := 9) rfl rfl ?_
  refine x_imul (pc' := 10) (z := (io (((b * 3) + w) * 3))) rfl rfl (io_mul ((b * 3) + w) 3) ?_
  refine x_iload_n (pc' := 11) rfl rfl rfl ?_
  refine x_iadd (pc' := 12) (z := (io ((((b * 3) + w) * 3) + k))) rfl rfl (io_add (((b * 3) + w) * 3) k) ?_
  refine x_istore (pc' := 14) (ls' := [_, _, _, _, _, _]) rfl rfl rfl rfl ?_
  refine x_iload_n (pc' := 15) rfl rfl rfl ?_
  refine x_if (a' := 36) (pc' := 18) (z := decide (w < 0)) rfl rfl rfl (ic_lt (p := w) (q := 0) (gc31 hw) (by decide)) (fun h => absurd (of_decide_eq_true h) (by first | decide | omega | simp)) (fun _ => ?_)
  refine x_iload_n (pc' := 19) rfl rfl rfl ?_
  refine x_iconst (pc' := 20) rfl rfl ?_
  refine x_icmp_n (a' := 36) (pc' := 23) (z := decide (w < 3)) rfl rfl rfl (ic_gen (p := w) (q := 3) (gc31 hw) (by decide)) (fun h => absurd hw (of_decide_eq_false h)) (fun _ => ?_)
  refine x_iload_n (pc' := 24) rfl rfl rfl ?_
  refine x_if (a' := 36) (pc' := 27) (z := decide (k < 0)) rfl rfl rfl (ic_lt (p := k) (q := 0) (gc31 hk) (by decide)) (fun h => absurd (of_decide_eq_true h) (by first | decide | omega | simp)) (fun _ => ?_)
  refine x_iload_n (pc' := 28) rfl rfl rfl ?_
  refine x_iconst (pc' := 29) rfl rfl ?_
  refine x_icmp_n (a' := 36) (pc' := 32) (z := decide (k < 3)) rfl rfl rfl (ic_gen (p := k) (q := 3) (gc31 hk) (by decide)) (fun h => absurd hk (of_decide_eq_false h)) (fun _ => ?_)
  refine x_iconst (pc' := 33) rfl rfl ?_
  refine x_goto (pc' := 37) rfl rfl ?_
  refine x_istore (pc' := 39) (ls' := [_, _, _, _, _, _]) rfl rfl rfl rfl ?_
  refine x_iload (pc' := 41) rfl rfl rfl ?_
  refine x_if (a' := 67) (pc' := 44) (z := false) rfl rfl rfl (by decide) (fun h => by cases h) (fun _ => ?_)
  refine x_iload (pc' := 46) rfl rfl rfl ?_
  refine x_if (a' := 67) (pc' := 49) (z := decide (((((b * 3) + w) * 3) + k) < 0)) rfl rfl rfl (ic_lt (p := ((((b * 3) + w) * 3) + k)) (q := 0) (show ((((b * 3) + w) * 3) + k) < 2 ^ 31 by omega) (by decide)) (fun h => absurd (of_decide_eq_true h) (by first | decide | omega | simp)) (fun _ => ?_)
  refine x_iload (pc' := 51) rfl rfl rfl ?_
  refine x_getstatic (pc' := 54) rfl rfl (show 0 < sC t 28 from gst0 hc.1) ?_
  refine x_alen (pc' := 55) (N := 45) rfl rfl rfl (kN_28_0 hc.1) (?_ : X _ _ _ (.inl 45 :: _) _ _)
  refine x_icmp_n (a' := 67) (pc' := 58) (z := decide (((((b * 3) + w) * 3) + k) < 45)) rfl rfl rfl (ic_gen (p := ((((b * 3) + w) * 3) + k)) (q := 45) (show ((((b * 3) + w) * 3) + k) < 2 ^ 31 by omega) (by decide)) (fun h => absurd (show ((b * 3 + w) * 3 + k) < 45 by omega) (of_decide_eq_false h)) (fun _ => ?_)
  refine x_getstatic (pc' := 61) rfl rfl (show 0 < sC t 28 from gst0 hc.1) ?_
  refine x_iload (pc' := 63) rfl rfl rfl ?_
  refine x_iald (pc' := 64) (N := 45) (x := (sA t 28 0 ((((b * 3) + w) * 3) + k))) rfl rfl rfl (kN_28_0 hc.1) (io_in (p := ((((b * 3) + w) * 3) + k)) (N := 45) (show ((((b * 3) + w) * 3) + k) < 45 by omega) (by decide)) (Eq.trans (congrArg (sA t 28 0) (nn_io (p := ((((b * 3) + w) * 3) + k)) (Nat.lt_trans (show ((((b * 3) + w) * 3) + k) < 45 by omega) (by decide)))) rfl) ?_
  refine x_goto (pc' := 68) rfl rfl ?_
  refine x_reti rfl rfl ?_
  exact k0
set_option maxHeartbeats 4000000 in
set_option maxRecDepth 10000 in
theorem n79_0 {t : sT} {Q : sRs → sT → Prop} {M : sM} {n : Nat} {T : Nat} {L0 : List Nat} {A : Nat} {B : Nat} {s : Bool}
    (hW : Wc t M n T L0 A B)
    (k0 : Q (.inl (some (.inr (.inr (8, none))))) t) :
    X 79 0 [.inr (.inr (10, (some 0))), .inl 0, .inl (bz s), sJk] [] t Q := by
  obtain ⟨hM, hc, hR, hC, hL, hL9⟩ := hW
  refine x_iload_n (pc' := 1) rfl rfl rfl ?_
  refine x_abs (pc' := 4) (z := 0) rfl rfl rfl (by decide) ?_
  refine x_iconst (pc' := 5) rfl rfl ?_
  refine x_isub (pc' := 6) (z := (-1)) rfl rfl (by decide) ?_
  refine x_istore_n (pc' := 7) (ls' := [_, _, _, _]) rfl rfl rfl rfl ?_
  refine x_iload_n (pc' := 8) rfl rfl rfl ?_
  refine x_if (a' := 33) (pc' := 11) (z := true) rfl rfl rfl (by decide) (fun _ => ?_) (fun h => by cases h)
  refine x_null (pc' := 34) rfl rfl rfl ?_
  refine x_reta rfl rfl ?_
  exact k0
set_option maxHeartbeats 4000000 in
set_option maxRecDepth 10000 in
theorem n79_1 {t : sT} {Q : sRs → sT → Prop} {M : sM} {n : Nat} {T : Nat} {L0 : List Nat} {A : Nat} {B : Nat} {s : Bool}
    (hW : Wc t M n T L0 A B)
    (k0 : Q (.inl (some (.inr (.inr (8, (bif (decide ((mA M 0 0) = 2)) then (bif (!s) then (bsF M n 0 true) else (bsF M n 0 false)) else none)))))) t) :
    X 79 0 [.inr (.inr (10, (some 0))), .inl 1, .inl (bz s), sJk] [] t Q := by
  obtain ⟨hM, hc, hR, hC, hL, hL9⟩ := hW
  refine x_iload_n (pc' := 1) rfl rfl rfl ?_
  refine x_abs (pc' := 4) (z := 1) rfl rfl rfl (by decide) ?_
  refine x_iconst (pc' := 5) rfl rfl ?_
  refine x_isub (pc' := 6) (z := 0) rfl rfl (by decide) ?_
  refine x_istore_n (pc' := 7) (ls' := [_, _, _, _]) rfl rfl rfl rfl ?_
  refine x_iload_n (pc' := 8) rfl rfl rfl ?_
  refine x_if (a' := 33) (pc' := 11) (z := false) rfl rfl rfl (by decide) (fun h => by cases h) (fun _ => ?_)
  refine x_iload_n (pc' := 12) rfl rfl rfl ?_
  refine x_aload_n (pc' := 13) rfl rfl rfl rfl rfl ?_
  refine x_gR (pc' := 16) (r := (some 0)) rfl rfl rfl (kR_640_0 hc.1) ?_
  refine x_alen (pc' := 17) (N := 5) rfl rfl rfl (kN_24_0 hc.1) (?_ : X _ _ _ (.inl 5 :: _) _ _)
  refine x_icmp (a' := 33) (pc' := 20) (z := false) rfl rfl rfl (by decide) (fun h => by cases h) (fun _ => ?_)
  refine x_aload_n (pc' := 21) rfl rfl rfl rfl rfl ?_
  refine x_gR (pc' := 24) (r := (some 0)) rfl rfl rfl (kR_640_0 hc.1) ?_
  refine x_iload_n (pc' := 25) rfl rfl rfl ?_
  refine x_aald (pc' := 26) (N := 5) (k' := 1) (r := (some 0)) rfl rfl rfl (kN_24_0 hc.1) (io_in (p := 0) (N := 5) (by decide) (by decide)) (Eq.trans (congrArg (sE t 24 0) (nn_io (p := 0) (by decide))) (kB hc.1 (by decide))) ?_
  refine x_gI (pc' := 29) (x := (mA M 0 0)) rfl rfl rfl (kA hM rfl (show 0 < 5 by decide)) ?_
  refine x_iconst (pc' := 30) rfl rfl ?_
  have J8 : Q (.inl (some (.inr (.inr (8, (bif (decide ((mA M 0 0) = 2)) then (bif (!s) then (bsF M n 0 true) else (bsF M n 0 false)) else none)))))) t := by
    exact k0
  refine x_icmp (a' := 35) (pc' := 33) (z := decide ((mA M 0 0) = 2)) rfl rfl rfl rfl (fun q3 => ?_) (fun q3 => ?_)
  · refine x_aload_n (pc' := 36) rfl rfl rfl rfl rfl ?_
    refine x_gR (pc' := 39) (r := (some 0)) rfl rfl rfl (kR_640_0 hc.1) ?_
    refine x_iload_n (pc' := 40) rfl rfl rfl ?_
    refine x_aald (pc' := 41) (N := 5) (k' := 1) (r := (some 0)) rfl rfl rfl (kN_24_0 hc.1) (io_in (p := 0) (N := 5) (by decide) (by decide)) (Eq.trans (congrArg (sE t 24 0) (nn_io (p := 0) (by decide))) (kB hc.1 (by decide))) ?_
    refine x_iload_n (pc' := 42) rfl rfl rfl ?_
    refine x_if (a' := 57) (pc' := 45) (z := false) rfl rfl rfl (by decide) (fun h => by cases h) (fun _ => ?_)
    refine x_iload_n (pc' := 46) rfl rfl rfl ?_
    have J5 : X 79 58 [.inr (.inr (10, (some 0))), .inl 1, .inl (bz s), .inl 0] [.inl (bz (!s)), .inr (.inr (1, (some 0)))] t Q := by
      refine x_cv (ls0 := [_, _]) (rest := []) rfl rfl rfl rfl rfl ?_
      refine x_iload_n (pc' := 1) rfl rfl rfl ?_
      have J7 : X 9 15 [.inr (.inr (1, (some 0))), .inl (bz (!s))] [.inr (.inr (8, (bif (!s) then (bsF M n 0 true) else (bsF M n 0 false))))] t (sK 9 79 58 [.inr (.inr (10, (some 0))), .inl 1, .inl (bz s), .inl 0] [] Q) := by
        refine x_reta rfl rfl ?_
        refine sK_i (pc' := 61) rfl ?_
        refine x_reta rfl rfl ?_
        ((try rw [q3] at J8); (try rw [q3]); (try simp only [cd_t, cd_f, nt_t, nt_f, an_t, an_f, or_t, or_f] at J8); (try simp only [cd_t, cd_f, nt_t, nt_f, an_t, an_f, or_t, or_f]); exact J8)
      refine x_ifeq_z (a' := 11) (pc' := 4) (z := (!s)) rfl rfl rfl (fun q7 => ?_) (fun q7 => ?_)
      · refine x_aload_n (pc' := 12) rfl rfl rfl rfl rfl ?_
        refine x_gR (pc' := 15) (r := (bsF M n 0 false)) rfl rfl rfl (bs_70 hC (Fr.ri (Fr.refl _) hR) hM (by decide)) ?_
        ((try rw [q7] at J7); (try rw [q7]); (try simp only [cd_t, cd_f, nt_t, nt_f, an_t, an_f, or_t, or_f] at J7); (try simp only [cd_t, cd_f, nt_t, nt_f, an_t, an_f, or_t, or_f]); exact J7)
      · refine x_aload_n (pc' := 5) rfl rfl rfl rfl rfl ?_
        refine x_gR (pc' := 8) (r := (bsF M n 0 true)) rfl rfl rfl (bs_69 hC (Fr.ri (Fr.refl _) hR) hM (by decide)) ?_
        refine x_goto (pc' := 15) rfl rfl ?_
        ((try rw [q7] at J7); (try rw [q7]); (try simp only [cd_t, cd_f, nt_t, nt_f, an_t, an_f, or_t, or_f] at J7); (try simp only [cd_t, cd_f, nt_t, nt_f, an_t, an_f, or_t, or_f]); exact J7)
    refine x_ifne_z (a' := 53) (pc' := 49) (z := s) rfl rfl rfl (fun q5 => ?_) (fun q5 => ?_)
    · refine x_iconst (pc' := 54) rfl rfl ?_
      refine x_goto (pc' := 58) rfl rfl ?_
      ((try rw [q5] at J5); (try rw [q5]); (try simp only [cd_t, cd_f, nt_t, nt_f, an_t, an_f, or_t, or_f] at J5); (try simp only [cd_t, cd_f, nt_t, nt_f, an_t, an_f, or_t, or_f]); exact J5)
    · refine x_iconst (pc' := 50) rfl rfl ?_
      refine x_goto (pc' := 58) rfl rfl ?_
      ((try rw [q5] at J5); (try rw [q5]); (try simp only [cd_t, cd_f, nt_t, nt_f, an_t, an_f, or_t, or_f] at J5); (try simp only [cd_t, cd_f, nt_t, nt_f, an_t, an_f, or_t, or_f]); exact J5)
  · refine x_null (pc' := 34) rfl rfl rfl ?_
    refine x_reta rfl rfl ?_
    ((try rw [q3] at J8); (try rw [q3]); (try simp only [cd_t, cd_f, nt_t, nt_f, an_t, an_f, or_t, or_f] at J8); (try simp only [cd_t, cd_f, nt_t, nt_f, an_t, an_f, or_t, or_f]); exact J8)
set_option maxHeartbeats 4000000 in
set_option maxRecDepth 10000 in
theorem n79_2 {t : sT} {Q : sRs → sT → Prop} {M : sM} {n : Nat} {T : Nat} {L0 : List Nat} {A : Nat} {B : Nat} {s : Bool}
    (hW : Wc t M n T L0 A B)
    (k0 : Q (.inl (some (.inr (.inr (8, (bif (decide ((mA M 0 1) = 2)) then (bif (!s) then (bsF M n 1 true) else (bsF M n 1 false)) else none)))))) t) :
    X 79 0 [.inr (.inr (10, (some 0))), .inl 2, .inl (bz s), sJk] [] t Q := by
  obtain ⟨hM, hc, hR, hC, hL, hL9⟩ := hW
  refine x_iload_n (pc' := 1) rfl rfl rfl ?_
  refine x_abs (pc' := 4) (z := 2) rfl rfl rfl (by decide) ?_
  refine x_iconst (pc' := 5) rfl rfl ?_
  refine x_isub (pc' := 6) (z := 1) rfl rfl (by decide) ?_
  refine x_istore_n (pc' := 7) (ls' := [_, _, _, _]) rfl rfl rfl rfl ?_
  refine x_iload_n (pc' := 8) rfl rfl rfl ?_
  refine x_if (a' := 33) (pc' := 11) (z := false) rfl rfl rfl (by decide) (fun h => by cases h) (fun _ => ?_)
  refine x_iload_n (pc' := 12) rfl rfl rfl ?_
  refine x_aload_n (pc' := 13) rfl rfl rfl rfl rfl ?_
  refine x_gR (pc' := 16) (r := (some 0)) rfl rfl rfl (kR_640_0 hc.1) ?_
  refine x_alen (pc' := 17) (N := 5) rfl rfl rfl (kN_24_0 hc.1) (?_ : X _ _ _ (.inl 5 :: _) _ _)
  refine x_icmp (a' := 33) (pc' := 20) (z := false) rfl rfl rfl (by decide) (fun h => by cases h) (fun _ => ?_)
  refine x_aload_n (pc' := 21) rfl rfl rfl rfl rfl ?_
  refine x_gR (pc' := 24) (r := (some 0)) rfl rfl rfl (kR_640_0 hc.1) ?_
  refine x_iload_n (pc' := 25) rfl rfl rfl ?_
  refine x_aald (pc' := 26) (N := 5) (k' := 1) (r := (some 1)) rfl rfl rfl (kN_24_0 hc.1) (io_in (p := 1) (N := 5) (by decide) (by decide)) (Eq.trans (congrArg (sE t 24 0) (nn_io (p := 1) (by decide))) (kB hc.1 (by decide))) ?_
  refine x_gI (pc' := 29) (x := (mA M 0 1)) rfl rfl rfl (kA hM rfl (show 1 < 5 by decide)) ?_
  refine x_iconst (pc' := 30) rfl rfl ?_
  have J8 : Q (.inl (some (.inr (.inr (8, (bif (decide ((mA M 0 1) = 2)) then (bif (!s) then (bsF M n 1 true) else (bsF M n 1 false)) else none)))))) t := by
    exact k0
  refine x_icmp (a' := 35) (pc' := 33) (z := decide ((mA M 0 1) = 2)) rfl rfl rfl rfl (fun q3 => ?_) (fun q3 => ?_)
  · refine x_aload_n (pc' := 36) rfl rfl rfl rfl rfl ?_
    refine x_gR (pc' := 39) (r := (some 0)) rfl rfl rfl (kR_640_0 hc.1) ?_
    refine x_iload_n (pc' := 40) rfl rfl rfl ?_
    refine x_aald (pc' := 41) (N := 5) (k' := 1) (r := (some 1)) rfl rfl rfl (kN_24_0 hc.1) (io_in (p := 1) (N := 5) (by decide) (by decide)) (Eq.trans (congrArg (sE t 24 0) (nn_io (p := 1) (by decide))) (kB hc.1 (by decide))) ?_
    refine x_iload_n (pc' := 42) rfl rfl rfl ?_
    refine x_if (a' := 57) (pc' := 45) (z := false) rfl rfl rfl (by decide) (fun h => by cases h) (fun _ => ?_)
    refine x_iload_n (pc' := 46) rfl rfl rfl ?_
    have J5 : X 79 58 [.inr (.inr (10, (some 0))), .inl 2, .inl (bz s), .inl 1] [.inl (bz (!s)), .inr (.inr (1, (some 1)))] t Q := by
      refine x_cv (ls0 := [_, _]) (rest := []) rfl rfl rfl rfl rfl ?_
      refine x_iload_n (pc' := 1) rfl rfl rfl ?_
      have J7 : X 9 15 [.inr (.inr (1, (some 1))), .inl (bz (!s))] [.inr (.inr (8, (bif (!s) then (bsF M n 1 true) else (bsF M n 1 false))))] t (sK 9 79 58 [.inr (.inr (10, (some 0))), .inl 2, .inl (bz s), .inl 1] [] Q) := by
        refine x_reta rfl rfl ?_
        refine sK_i (pc' := 61) rfl ?_
        refine x_reta rfl rfl ?_
        ((try rw [q3] at J8); (try rw [q3]); (try simp only [cd_t, cd_f, nt_t, nt_f, an_t, an_f, or_t, or_f] at J8); (try simp only [cd_t, cd_f, nt_t, nt_f, an_t, an_f, or_t, or_f]); exact J8)
      refine x_ifeq_z (a' := 11) (pc' := 4) (z := (!s)) rfl rfl rfl (fun q7 => ?_) (fun q7 => ?_)
      · refine x_aload_n (pc' := 12) rfl rfl rfl rfl rfl ?_
        refine x_gR (pc' := 15) (r := (bsF M n 1 false)) rfl rfl rfl (bs_70 hC (Fr.ri (Fr.refl _) hR) hM (by decide)) ?_
        ((try rw [q7] at J7); (try rw [q7]); (try simp only [cd_t, cd_f, nt_t, nt_f, an_t, an_f, or_t, or_f] at J7); (try simp only [cd_t, cd_f, nt_t, nt_f, an_t, an_f, or_t, or_f]); exact J7)
      · refine x_aload_n (pc' := 5) rfl rfl rfl rfl rfl ?_
        refine x_gR (pc' := 8) (r := (bsF M n 1 true)) rfl rfl rfl (bs_69 hC (Fr.ri (Fr.refl _) hR) hM (by decide)) ?_
        refine x_goto (pc' := 15) rfl rfl ?_
        ((try rw [q7] at J7); (try rw [q7]); (try simp only [cd_t, cd_f, nt_t, nt_f, an_t, an_f, or_t, or_f] at J7); (try simp only [cd_t, cd_f, nt_t, nt_f, an_t, an_f, or_t, or_f]); exact J7)
    refine x_ifne_z (a' := 53) (pc' := 49) (z := s) rfl rfl rfl (fun q5 => ?_) (fun q5 => ?_)
    · refine x_iconst (pc' := 54) rfl rfl ?_
      refine x_goto (pc' := 58) rfl rfl ?_
      ((try rw [q5] at J5); (try rw [q5]); (try simp only [cd_t, cd_f, nt_t, nt_f, an_t, an_f, or_t, or_f] at J5); (try simp only [cd_t, cd_f, nt_t, nt_f, an_t, an_f, or_t, or_f]); exact J5)
    · refine x_iconst (pc' := 50) rfl rfl ?_
      refine x_goto (pc' := 58) rfl rfl ?_
      ((try rw [q5] at J5); (try rw [q5]); (try simp only [cd_t, cd_f, nt_t, nt_f, an_t, an_f, or_t, or_f] at J5); (try simp only [cd_t, cd_f, nt_t, nt_f, an_t, an_f, or_t, or_f]); exact J5)
  · refine x_null (pc' := 34) rfl rfl rfl ?_
    refine x_reta rfl rfl ?_
    ((try rw [q3] at J8); (try rw [q3]); (try simp only [cd_t, cd_f, nt_t, nt_f, an_t, an_f, or_t, or_f] at J8); (try simp only [cd_t, cd_f, nt_t, nt_f, an_t, an_f, or_t, or_f]); exact J8)
set_option maxHeartbeats 4000000 in
set_option maxRecDepth 10000 in
theorem n79_3 {t : sT} {Q : sRs → sT → Prop} {M : sM} {n : Nat} {T : Nat} {L0 : List Nat} {A : Nat} {B : Nat} {s : Bool}
    (hW : Wc t M n T L0 A B)
    (k0 : Q (.inl (some (.inr (.inr (8, (bif (decide ((mA M 0 2) = 2)) then (bif (!s) then (bsF M n 2 true) else (bsF M n 2 false)) else none)))))) t) :
    X 79 0 [.inr (.inr (10, (some 0))), .inl 3, .inl (bz s), sJk] [] t Q := by
  obtain ⟨hM, hc, hR, hC, hL, hL9⟩ := hW
  refine x_iload_n (pc' := 1) rfl rfl rfl ?_
  refine x_abs (pc' := 4) (z := 3) rfl rfl rfl (by decide) ?_
  refine x_iconst (pc' := 5) rfl rfl ?_
  refine x_isub (pc' := 6) (z := 2) rfl rfl (by decide) ?_
  refine x_istore_n (pc' := 7) (ls' := [_, _, _, _]) rfl rfl rfl rfl ?_
  refine x_iload_n (pc' := 8) rfl rfl rfl ?_
  refine x_if (a' := 33) (pc' := 11) (z := false) rfl rfl rfl (by decide) (fun h => by cases h) (fun _ => ?_)
  refine x_iload_n (pc' := 12) rfl rfl rfl ?_
  refine x_aload_n (pc' := 13) rfl rfl rfl rfl rfl ?_
  refine x_gR (pc' := 16) (r := (some 0)) rfl rfl rfl (kR_640_0 hc.1) ?_
  refine x_alen (pc' := 17) (N := 5) rfl rfl rfl (kN_24_0 hc.1) (?_ : X _ _ _ (.inl 5 :: _) _ _)
  refine x_icmp (a' := 33) (pc' := 20) (z := false) rfl rfl rfl (by decide) (fun h => by cases h) (fun _ => ?_)
  refine x_aload_n (pc' := 21) rfl rfl rfl rfl rfl ?_
  refine x_gR (pc' := 24) (r := (some 0)) rfl rfl rfl (kR_640_0 hc.1) ?_
  refine x_iload_n (pc' := 25) rfl rfl rfl ?_
  refine x_aald (pc' := 26) (N := 5) (k' := 1) (r := (some 2)) rfl rfl rfl (kN_24_0 hc.1) (io_in (p := 2) (N := 5) (by decide) (by decide)) (Eq.trans (congrArg (sE t 24 0) (nn_io (p := 2) (by decide))) (kB hc.1 (by decide))) ?_
  refine x_gI (pc' := 29) (x := (mA M 0 2)) rfl rfl rfl (kA hM rfl (show 2 < 5 by decide)) ?_
  refine x_iconst (pc' := 30) rfl rfl ?_
  have J8 : Q (.inl (some (.inr (.inr (8, (bif (decide ((mA M 0 2) = 2)) then (bif (!s) then (bsF M n 2 true) else (bsF M n 2 false)) else none)))))) t := by
    exact k0
  refine x_icmp (a' := 35) (pc' := 33) (z := decide ((mA M 0 2) = 2)) rfl rfl rfl rfl (fun q3 => ?_) (fun q3 => ?_)
  · refine x_aload_n (pc' := 36) rfl rfl rfl rfl rfl ?_
    refine x_gR (pc' := 39) (r := (some 0)) rfl rfl rfl (kR_640_0 hc.1) ?_
    refine x_iload_n (pc' := 40) rfl rfl rfl ?_
    refine x_aald (pc' := 41) (N := 5) (k' := 1) (r := (some 2)) rfl rfl rfl (kN_24_0 hc.1) (io_in (p := 2) (N := 5) (by decide) (by decide)) (Eq.trans (congrArg (sE t 24 0) (nn_io (p := 2) (by decide))) (kB hc.1 (by decide))) ?_
    refine x_iload_n (pc' := 42) rfl rfl rfl ?_
    refine x_if (a' := 57) (pc' := 45) (z := false) rfl rfl rfl (by decide) (fun h => by cases h) (fun _ => ?_)
    refine x_iload_n (pc' := 46) rfl rfl rfl ?_
    have J5 : X 79 58 [.inr (.inr (10, (some 0))), .inl 3, .inl (bz s), .inl 2] [.inl (bz (!s)), .inr (.inr (1, (some 2)))] t Q := by
      refine x_cv (ls0 := [_, _]) (rest := []) rfl rfl rfl rfl rfl ?_
      refine x_iload_n (pc' := 1) rfl rfl rfl ?_
      have J7 : X 9 15 [.inr (.inr (1, (some 2))), .inl (bz (!s))] [.inr (.inr (8, (bif (!s) then (bsF M n 2 true) else (bsF M n 2 false))))] t (sK 9 79 58 [.inr (.inr (10, (some 0))), .inl 3, .inl (bz s), .inl 2] [] Q) := by
        refine x_reta rfl rfl ?_
        refine sK_i (pc' := 61) rfl ?_
        refine x_reta rfl rfl ?_
        ((try rw [q3] at J8); (try rw [q3]); (try simp only [cd_t, cd_f, nt_t, nt_f, an_t, an_f, or_t, or_f] at J8); (try simp only [cd_t, cd_f, nt_t, nt_f, an_t, an_f, or_t, or_f]); exact J8)
      refine x_ifeq_z (a' := 11) (pc' := 4) (z := (!s)) rfl rfl rfl (fun q7 => ?_) (fun q7 => ?_)
      · refine x_aload_n (pc' := 12) rfl rfl rfl rfl rfl ?_
        refine x_gR (pc' := 15) (r := (bsF M n 2 false)) rfl rfl rfl (bs_70 hC (Fr.ri (Fr.refl _) hR) hM (by decide)) ?_
        ((try rw [q7] at J7); (try rw [q7]); (try simp only [cd_t, cd_f, nt_t, nt_f, an_t, an_f, or_t, or_f] at J7); (try simp only [cd_t, cd_f, nt_t, nt_f, an_t, an_f, or_t, or_f]); exact J7)
      · refine x_aload_n (pc' := 5) rfl rfl rfl rfl rfl ?_
        refine x_gR (pc' := 8) (r := (bsF M n 2 true)) rfl rfl rfl (bs_69 hC (Fr.ri (Fr.refl _) hR) hM (by decide)) ?_
        refine x_goto (pc' := 15) rfl rfl ?_
        ((try rw [q7] at J7); (try rw [q7]); (try simp only [cd_t, cd_f, nt_t, nt_f, an_t, an_f, or_t, or_f] at J7); (try simp only [cd_t, cd_f, nt_t, nt_f, an_t, an_f, or_t, or_f]); exact J7)
    refine x_ifne_z (a' := 53) (pc' := 49) (z := s) rfl rfl rfl (fun q5 => ?_) (fun q5 => ?_)
    · refine x_iconst (pc' := 54) rfl rfl ?_
      refine x_goto (pc' := 58) rfl rfl ?_
      ((try rw [q5] at J5); (try rw [q5]); (try simp only [cd_t, cd_f, nt_t, nt_f, an_t, an_f, or_t, or_f] at J5); (try simp only [cd_t, cd_f, nt_t, nt_f, an_t, an_f, or_t, or_f]); exact J5)
    · refine x_iconst (pc' := 50) rfl rfl ?_
      refine x_goto (pc' := 58) rfl rfl ?_
      ((try rw [q5] at J5); (try rw [q5]); (try simp only [cd_t, cd_f, nt_t, nt_f, an_t, an_f, or_t, or_f] at J5); (try simp only [cd_t, cd_f, nt_t, nt_f, an_t, an_f, or_t, or_f]); exact J5)
  · refine x_null (pc' := 34) rfl rfl rfl ?_
    refine x_reta rfl rfl ?_
    ((try rw [q3] at J8); (try rw [q3]); (try simp only [cd_t, cd_f, nt_t, nt_f, an_t, an_f, or_t, or_f] at J8); (try simp only [cd_t, cd_f, nt_t, nt_f, an_t, an_f, or_t, or_f]); exact J8)
set_option maxHeartbeats 4000000 in
set_option maxRecDepth 10000 in
theorem n79_4 {t : sT} {Q : sRs → sT → Prop} {M : sM} {n : Nat} {T : Nat} {L0 : List Nat} {A : Nat} {B : Nat} {s : Bool}
    (hW : Wc t M n T L0 A B)
    (k0 : Q (.inl (some (.inr (.inr (8, (bif (decide ((mA M 0 3) = 2)) then (bif (!s) then (bsF M n 3 true) else (bsF M n 3 false)) else none)))))) t) :
    X 79 0 [.inr (.inr (10, (some 0))), .inl 4, .inl (bz s), sJk] [] t Q := by
  obtain ⟨hM, hc, hR, hC, hL, hL9⟩ := hW
  refine x_iload_n (pc' := 1) rfl rfl rfl ?_
  refine x_abs (pc' := 4) (z := 4) rfl rfl rfl (by decide) ?_
  refine x_iconst (pc' := 5) rfl rfl ?_
  refine x_isub (pc' := 6) (z := 3) rfl rfl (by decide) ?_
  refine x_istore_n (pc' := 7) (ls' := [_, _, _, _]) rfl rfl rfl rfl ?_
  refine x_iload_n (pc' := 8) rfl rfl rfl ?_
  refine x_if (a' := 33) (pc' := 11) (z := false) rfl rfl rfl (by decide) (fun h => by cases h) (fun _ => ?_)
  refine x_iload_n (pc' := 12) rfl rfl rfl ?_
  refine x_aload_n (pc' := 13) rfl rfl rfl rfl rfl ?_
  refine x_gR (pc' := 16) (r := (some 0)) rfl rfl rfl (kR_640_0 hc.1) ?_
  refine x_alen (pc' := 17) (N := 5) rfl rfl rfl (kN_24_0 hc.1) (?_ : X _ _ _ (.inl 5 :: _) _ _)
  refine x_icmp (a' := 33) (pc' := 20) (z := false) rfl rfl rfl (by decide) (fun h => by cases h) (fun _ => ?_)
  refine x_aload_n (pc' := 21) rfl rfl rfl rfl rfl ?_
  refine x_gR (pc' := 24) (r := (some 0)) rfl rfl rfl (kR_640_0 hc.1) ?_
  refine x_iload_n (pc' := 25) rfl rfl rfl ?_
  refine x_aald (pc' := 26) (N := 5) (k' := 1) (r := (some 3)) rfl rfl rfl (kN_24_0 hc.1) (io_in (p := 3) (N := 5) (by decide) (by decide)) (Eq.trans (congrArg (sE t 24 0) (nn_io (p := 3) (by decide))) (kB hc.1 (by decide))) ?_
  refine x_gI (pc' := 29) (x := (mA M 0 3)) rfl rfl rfl (kA hM rfl (show 3 < 5 by decide)) ?_
  refine x_iconst (pc' := 30) rfl rfl ?_
  have J8 : Q (.inl (some (.inr (.inr (8, (bif (decide ((mA M 0 3) = 2)) then (bif (!s) then (bsF M n 3 true) else (bsF M n 3 false)) else none)))))) t := by
    exact k0
  refine x_icmp (a' := 35) (pc' := 33) (z := decide ((mA M 0 3) = 2)) rfl rfl rfl rfl (fun q3 => ?_) (fun q3 => ?_)
  · refine x_aload_n (pc' := 36) rfl rfl rfl rfl rfl ?_
    refine x_gR (pc' := 39) (r := (some 0)) rfl rfl rfl (kR_640_0 hc.1) ?_
    refine x_iload_n (pc' := 40) rfl rfl rfl ?_
    refine x_aald (pc' := 41) (N := 5) (k' := 1) (r := (some 3)) rfl rfl rfl (kN_24_0 hc.1) (io_in (p := 3) (N := 5) (by decide) (by decide)) (Eq.trans (congrArg (sE t 24 0) (nn_io (p := 3) (by decide))) (kB hc.1 (by decide))) ?_
    refine x_iload_n (pc' := 42) rfl rfl rfl ?_
    refine x_if (a' := 57) (pc' := 45) (z := false) rfl rfl rfl (by decide) (fun h => by cases h) (fun _ => ?_)
    refine x_iload_n (pc' := 46) rfl rfl rfl ?_
    have J5 : X 79 58 [.inr (.inr (10, (some 0))), .inl 4, .inl (bz s), .inl 3] [.inl (bz (!s)), .inr (.inr (1, (some 3)))] t Q := by
      refine x_cv (ls0 := [_, _]) (rest := []) rfl rfl rfl rfl rfl ?_
      refine x_iload_n (pc' := 1) rfl rfl rfl ?_
      have J7 : X 9 15 [.inr (.inr (1, (some 3))), .inl (bz (!s))] [.inr (.inr (8, (bif (!s) then (bsF M n 3 true) else (bsF M n 3 false))))] t (sK 9 79 58 [.inr (.inr (10, (some 0))), .inl 4, .inl (bz s), .inl 3] [] Q) := by
        refine x_reta rfl rfl ?_
        refine sK_i (pc' := 61) rfl ?_
        refine x_reta rfl rfl ?_
        ((try rw [q3] at J8); (try rw [q3]); (try simp only [cd_t, cd_f, nt_t, nt_f, an_t, an_f, or_t, or_f] at J8); (try simp only [cd_t, cd_f, nt_t, nt_f, an_t, an_f, or_t, or_f]); exact J8)
      refine x_ifeq_z (a' := 11) (pc' := 4) (z := (!s)) rfl rfl rfl (fun q7 => ?_) (fun q7 => ?_)
      · refine x_aload_n (pc' := 12) rfl rfl rfl rfl rfl ?_
        refine x_gR (pc' := 15) (r := (bsF M n 3 false)) rfl rfl rfl (bs_70 hC (Fr.ri (Fr.refl _) hR) hM (by decide)) ?_
        ((try rw [q7] at J7); (try rw [q7]); (try simp only [cd_t, cd_f, nt_t, nt_f, an_t, an_f, or_t, or_f] at J7); (try simp only [cd_t, cd_f, nt_t, nt_f, an_t, an_f, or_t, or_f]); exact J7)
      · refine x_aload_n (pc' := 5) rfl rfl rfl rfl rfl ?_
        refine x_gR (pc' := 8) (r := (bsF M n 3 true)) rfl rfl rfl (bs_69 hC (Fr.ri (Fr.refl _) hR) hM (by decide)) ?_
        refine x_goto (pc' := 15) rfl rfl ?_
        ((try rw [q7] at J7); (try rw [q7]); (try simp only [cd_t, cd_f, nt_t, nt_f, an_t, an_f, or_t, or_f] at J7); (try simp only [cd_t, cd_f, nt_t, nt_f, an_t, an_f, or_t, or_f]); exact J7)
    refine x_ifne_z (a' := 53) (pc' := 49) (z := s) rfl rfl rfl (fun q5 => ?_) (fun q5 => ?_)
    · refine x_iconst (pc' := 54) rfl rfl ?_
      refine x_goto (pc' := 58) rfl rfl ?_
      ((try rw [q5] at J5); (try rw [q5]); (try simp only [cd_t, cd_f, nt_t, nt_f, an_t, an_f, or_t, or_f] at J5); (try simp only [cd_t, cd_f, nt_t, nt_f, an_t, an_f, or_t, or_f]); exact J5)
    · refine x_iconst (pc' := 50) rfl rfl ?_
      refine x_goto (pc' := 58) rfl rfl ?_
      ((try rw [q5] at J5); (try rw [q5]); (try simp only [cd_t, cd_f, nt_t, nt_f, an_t, an_f, or_t, or_f] at J5); (try simp only [cd_t, cd_f, nt_t, nt_f, an_t, an_f, or_t, or_f]); exact J5)
  · refine x_null (pc' := 34) rfl rfl rfl ?_
    refine x_reta rfl rfl ?_
    ((try rw [q3] at J8); (try rw [q3]); (try simp only [cd_t, cd_f, nt_t, nt_f, an_t, an_f, or_t, or_f] at J8); (try simp only [cd_t, cd_f, nt_t, nt_f, an_t, an_f, or_t, or_f]); exact J8)
set_option maxHeartbeats 4000000 in
set_option maxRecDepth 10000 in
theorem n79_5 {t : sT} {Q : sRs → sT → Prop} {M : sM} {n : Nat} {T : Nat} {L0 : List Nat} {A : Nat} {B : Nat} {s : Bool}
    (hW : Wc t M n T L0 A B)
    (k0 : Q (.inl (some (.inr (.inr (8, (bif (decide ((mA M 0 4) = 2)) then (bif (!s) then (bsF M n 4 true) else (bsF M n 4 false)) else none)))))) t) :
    X 79 0 [.inr (.inr (10, (some 0))), .inl 5, .inl (bz s), sJk] [] t Q := by
  obtain ⟨hM, hc, hR, hC, hL, hL9⟩ := hW
  refine x_iload_n (pc' := 1) rfl rfl rfl ?_
  refine x_abs (pc' := 4) (z := 5) rfl rfl rfl (by decide) ?_
  refine x_iconst (pc' := 5) rfl rfl ?_
  refine x_isub (pc' := 6) (z := 4) rfl rfl (by decide) ?_
  refine x_istore_n (pc' := 7) (ls' := [_, _, _, _]) rfl rfl rfl rfl ?_
  refine x_iload_n (pc' := 8) rfl rfl rfl ?_
  refine x_if (a' := 33) (pc' := 11) (z := false) rfl rfl rfl (by decide) (fun h => by cases h) (fun _ => ?_)
  refine x_iload_n (pc' := 12) rfl rfl rfl ?_
  refine x_aload_n (pc' := 13) rfl rfl rfl rfl rfl ?_
  refine x_gR (pc' := 16) (r := (some 0)) rfl rfl rfl (kR_640_0 hc.1) ?_
  refine x_alen (pc' := 17) (N := 5) rfl rfl rfl (kN_24_0 hc.1) (?_ : X _ _ _ (.inl 5 :: _) _ _)
  refine x_icmp (a' := 33) (pc' := 20) (z := false) rfl rfl rfl (by decide) (fun h => by cases h) (fun _ => ?_)
  refine x_aload_n (pc' := 21) rfl rfl rfl rfl rfl ?_
  refine x_gR (pc' := 24) (r := (some 0)) rfl rfl rfl (kR_640_0 hc.1) ?_
  refine x_iload_n (pc' := 25) rfl rfl rfl ?_
  refine x_aald (pc' := 26) (N := 5) (k' := 1) (r := (some 4)) rfl rfl rfl (kN_24_0 hc.1) (io_in (p := 4) (N := 5) (by decide) (by decide)) (Eq.trans (congrArg (sE t 24 0) (nn_io (p := 4) (by decide))) (kB hc.1 (by decide))) ?_
  refine x_gI (pc' := 29) (x := (mA M 0 4)) rfl rfl rfl (kA hM rfl (show 4 < 5 by decide)) ?_
  refine x_iconst (pc' := 30) rfl rfl ?_
  have J8 : Q (.inl (some (.inr (.inr (8, (bif (decide ((mA M 0 4) = 2)) then (bif (!s) then (bsF M n 4 true) else (bsF M n 4 false)) else none)))))) t := by
    exact k0
  refine x_icmp (a' := 35) (pc' := 33) (z := decide ((mA M 0 4) = 2)) rfl rfl rfl rfl (fun q3 => ?_) (fun q3 => ?_)
  · refine x_aload_n (pc' := 36) rfl rfl rfl rfl rfl ?_
    refine x_gR (pc' := 39) (r := (some 0)) rfl rfl rfl (kR_640_0 hc.1) ?_
    refine x_iload_n (pc' := 40) rfl rfl rfl ?_
    refine x_aald (pc' := 41) (N := 5) (k' := 1) (r := (some 4)) rfl rfl rfl (kN_24_0 hc.1) (io_in (p := 4) (N := 5) (by decide) (by decide)) (Eq.trans (congrArg (sE t 24 0) (nn_io (p := 4) (by decide))) (kB hc.1 (by decide))) ?_
    refine x_iload_n (pc' := 42) rfl rfl rfl ?_
    refine x_if (a' := 57) (pc' := 45) (z := false) rfl rfl rfl (by decide) (fun h => by cases h) (fun _ => ?_)
    refine x_iload_n (pc' := 46) rfl rfl rfl ?_
    have J5 : X 79 58 [.inr (.inr (10, (some 0))), .inl 5, .inl (bz s), .inl 4] [.inl (bz (!s)), .inr (.inr (1, (some 4)))] t Q := by
      refine x_cv (ls0 := [_, _]) (rest := []) rfl rfl rfl rfl rfl ?_
      refine x_iload_n (pc' := 1) rfl rfl rfl ?_
      have J7 : X 9 15 [.inr (.inr (1, (some 4))), .inl (bz (!s))] [.inr (.inr (8, (bif (!s) then (bsF M n 4 true) else (bsF M n 4 false))))] t (sK 9 79 58 [.inr (.inr (10, (some 0))), .inl 5, .inl (bz s), .inl 4] [] Q) := by
        refine x_reta rfl rfl ?_
        refine sK_i (pc' := 61) rfl ?_
        refine x_reta rfl rfl ?_
        ((try rw [q3] at J8); (try rw [q3]); (try simp only [cd_t, cd_f, nt_t, nt_f, an_t, an_f, or_t, or_f] at J8); (try simp only [cd_t, cd_f, nt_t, nt_f, an_t, an_f, or_t, or_f]); exact J8)
      refine x_ifeq_z (a' := 11) (pc' := 4) (z := (!s)) rfl rfl rfl (fun q7 => ?_) (fun q7 => ?_)
      · refine x_aload_n (pc' := 12) rfl rfl rfl rfl rfl ?_
        refine x_gR (pc' := 15) (r := (bsF M n 4 false)) rfl rfl rfl (bs_70 hC (Fr.ri (Fr.refl _) hR) hM (by decide)) ?_
        ((try rw [q7] at J7); (try rw [q7]); (try simp only [cd_t, cd_f, nt_t, nt_f, an_t, an_f, or_t, or_f] at J7); (try simp only [cd_t, cd_f, nt_t, nt_f, an_t, an_f, or_t, or_f]); exact J7)
      · refine x_aload_n (pc' := 5) rfl rfl rfl rfl rfl ?_
        refine x_gR (pc' := 8) (r := (bsF M n 4 true)) rfl rfl rfl (bs_69 hC (Fr.ri (Fr.refl _) hR) hM (by decide)) ?_
        refine x_goto (pc' := 15) rfl rfl ?_
        ((try rw [q7] at J7); (try rw [q7]); (try simp only [cd_t, cd_f, nt_t, nt_f, an_t, an_f, or_t, or_f] at J7); (try simp only [cd_t, cd_f, nt_t, nt_f, an_t, an_f, or_t, or_f]); exact J7)
    refine x_ifne_z (a' := 53) (pc' := 49) (z := s) rfl rfl rfl (fun q5 => ?_) (fun q5 => ?_)
    · refine x_iconst (pc' := 54) rfl rfl ?_
      refine x_goto (pc' := 58) rfl rfl ?_
      ((try rw [q5] at J5); (try rw [q5]); (try simp only [cd_t, cd_f, nt_t, nt_f, an_t, an_f, or_t, or_f] at J5); (try simp only [cd_t, cd_f, nt_t, nt_f, an_t, an_f, or_t, or_f]); exact J5)
    · refine x_iconst (pc' := 50) rfl rfl ?_
      refine x_goto (pc' := 58) rfl rfl ?_
      ((try rw [q5] at J5); (try rw [q5]); (try simp only [cd_t, cd_f, nt_t, nt_f, an_t, an_f, or_t, or_f] at J5); (try simp only [cd_t, cd_f, nt_t, nt_f, an_t, an_f, or_t, or_f]); exact J5)
  · refine x_null (pc' := 34) rfl rfl rfl ?_
    refine x_reta rfl rfl ?_
    ((try rw [q3] at J8); (try rw [q3]); (try simp only [cd_t, cd_f, nt_t, nt_f, an_t, an_f, or_t, or_f] at J8); (try simp only [cd_t, cd_f, nt_t, nt_f, an_t, an_f, or_t, or_f]); exact J8)
set_option maxHeartbeats 4000000 in
set_option maxRecDepth 10000 in
theorem n79_m4 {t : sT} {Q : sRs → sT → Prop} {M : sM} {n : Nat} {T : Nat} {L0 : List Nat} {A : Nat} {B : Nat} {s : Bool}
    (hW : Wc t M n T L0 A B)
    (k0 : Q (.inl (some (.inr (.inr (8, (bif (decide ((mA M 0 3) = 2)) then (bif s then (bsF M n 3 true) else (bsF M n 3 false)) else none)))))) t) :
    X 79 0 [.inr (.inr (10, (some 0))), .inl (-4), .inl (bz s), sJk] [] t Q := by
  obtain ⟨hM, hc, hR, hC, hL, hL9⟩ := hW
  refine x_iload_n (pc' := 1) rfl rfl rfl ?_
  refine x_abs (pc' := 4) (z := 4) rfl rfl rfl (by decide) ?_
  refine x_iconst (pc' := 5) rfl rfl ?_
  refine x_isub (pc' := 6) (z := 3) rfl rfl (by decide) ?_
  refine x_istore_n (pc' := 7) (ls' := [_, _, _, _]) rfl rfl rfl rfl ?_
  refine x_iload_n (pc' := 8) rfl rfl rfl ?_
  refine x_if (a' := 33) (pc' := 11) (z := false) rfl rfl rfl (by decide) (fun h => by cases h) (fun _ => ?_)
  refine x_iload_n (pc' := 12) rfl rfl rfl ?_
  refine x_aload_n (pc' := 13) rfl rfl rfl rfl rfl ?_
  refine x_gR (pc' := 16) (r := (some 0)) rfl rfl rfl (kR_640_0 hc.1) ?_
  refine x_alen (pc' := 17) (N := 5) rfl rfl rfl (kN_24_0 hc.1) (?_ : X _ _ _ (.inl 5 :: _) _ _)
  refine x_icmp (a' := 33) (pc' := 20) (z := false) rfl rfl rfl (by decide) (fun h => by cases h) (fun _ => ?_)
  refine x_aload_n (pc' := 21) rfl rfl rfl rfl rfl ?_
  refine x_gR (pc' := 24) (r := (some 0)) rfl rfl rfl (kR_640_0 hc.1) ?_
  refine x_iload_n (pc' := 25) rfl rfl rfl ?_
  refine x_aald (pc' := 26) (N := 5) (k' := 1) (r := (some 3)) rfl rfl rfl (kN_24_0 hc.1) (io_in (p := 3) (N := 5) (by decide) (by decide)) (Eq.trans (congrArg (sE t 24 0) (nn_io (p := 3) (by decide))) (kB hc.1 (by decide))) ?_
  refine x_gI (pc' := 29) (x := (mA M 0 3)) rfl rfl rfl (kA hM rfl (show 3 < 5 by decide)) ?_
  refine x_iconst (pc' := 30) rfl rfl ?_
  have J6 : Q (.inl (some (.inr (.inr (8, (bif (decide ((mA M 0 3) = 2)) then (bif s then (bsF M n 3 true) else (bsF M n 3 false)) else none)))))) t := by
    exact k0
  refine x_icmp (a' := 35) (pc' := 33) (z := decide ((mA M 0 3) = 2)) rfl rfl rfl rfl (fun q3 => ?_) (fun q3 => ?_)
  · refine x_aload_n (pc' := 36) rfl rfl rfl rfl rfl ?_
    refine x_gR (pc' := 39) (r := (some 0)) rfl rfl rfl (kR_640_0 hc.1) ?_
    refine x_iload_n (pc' := 40) rfl rfl rfl ?_
    refine x_aald (pc' := 41) (N := 5) (k' := 1) (r := (some 3)) rfl rfl rfl (kN_24_0 hc.1) (io_in (p := 3) (N := 5) (by decide) (by decide)) (Eq.trans (congrArg (sE t 24 0) (nn_io (p := 3) (by decide))) (kB hc.1 (by decide))) ?_
    refine x_iload_n (pc' := 42) rfl rfl rfl ?_
    refine x_if (a' := 57) (pc' := 45) (z := true) rfl rfl rfl (by decide) (fun _ => ?_) (fun h => by cases h)
    refine x_iload_n (pc' := 58) rfl rfl rfl ?_
    refine x_cv (ls0 := [_, _]) (rest := []) rfl rfl rfl rfl rfl ?_
    refine x_iload_n (pc' := 1) rfl rfl rfl ?_
    have J5 : X 9 15 [.inr (.inr (1, (some 3))), .inl (bz s)] [.inr (.inr (8, (bif s then (bsF M n 3 true) else (bsF M n 3 false))))] t (sK 9 79 58 [.inr (.inr (10, (some 0))), .inl (-4), .inl (bz s), .inl 3] [] Q) := by
      refine x_reta rfl rfl ?_
      refine sK_i (pc' := 61) rfl ?_
      refine x_reta rfl rfl ?_
      ((try rw [q3] at J6); (try rw [q3]); (try simp only [cd_t, cd_f, nt_t, nt_f, an_t, an_f, or_t, or_f] at J6); (try simp only [cd_t, cd_f, nt_t, nt_f, an_t, an_f, or_t, or_f]); exact J6)
    refine x_ifeq_z (a' := 11) (pc' := 4) (z := s) rfl rfl rfl (fun q5 => ?_) (fun q5 => ?_)
    · refine x_aload_n (pc' := 12) rfl rfl rfl rfl rfl ?_
      refine x_gR (pc' := 15) (r := (bsF M n 3 false)) rfl rfl rfl (bs_70 hC (Fr.ri (Fr.refl _) hR) hM (by decide)) ?_
      ((try rw [q5] at J5); (try rw [q5]); (try simp only [cd_t, cd_f, nt_t, nt_f, an_t, an_f, or_t, or_f] at J5); (try simp only [cd_t, cd_f, nt_t, nt_f, an_t, an_f, or_t, or_f]); exact J5)
    · refine x_aload_n (pc' := 5) rfl rfl rfl rfl rfl ?_
      refine x_gR (pc' := 8) (r := (bsF M n 3 true)) rfl rfl rfl (bs_69 hC (Fr.ri (Fr.refl _) hR) hM (by decide)) ?_
      refine x_goto (pc' := 15) rfl rfl ?_
      ((try rw [q5] at J5); (try rw [q5]); (try simp only [cd_t, cd_f, nt_t, nt_f, an_t, an_f, or_t, or_f] at J5); (try simp only [cd_t, cd_f, nt_t, nt_f, an_t, an_f, or_t, or_f]); exact J5)
  · refine x_null (pc' := 34) rfl rfl rfl ?_
    refine x_reta rfl rfl ?_
    ((try rw [q3] at J6); (try rw [q3]); (try simp only [cd_t, cd_f, nt_t, nt_f, an_t, an_f, or_t, or_f] at J6); (try simp only [cd_t, cd_f, nt_t, nt_f, an_t, an_f, or_t, or_f]); exact J6)
set_option maxHeartbeats 4000000 in
set_option maxRecDepth 10000 in
theorem n79_m5 {t : sT} {Q : sRs → sT → Prop} {M : sM} {n : Nat} {T : Nat} {L0 : List Nat} {A : Nat} {B : Nat} {s : Bool}
    (hW : Wc t M n T L0 A B)
    (k0 : Q (.inl (some (.inr (.inr (8, (bif (decide ((mA M 0 4) = 2)) then (bif s then (bsF M n 4 true) else (bsF M n 4 false)) else none)))))) t) :
    X 79 0 [.inr (.inr (10, (some 0))), .inl (-5), .inl (bz s), sJk] [] t Q := by
  obtain ⟨hM, hc, hR, hC, hL, hL9⟩ := hW
  refine x_iload_n (pc' := 1) rfl rfl rfl ?_
  refine x_abs (pc' := 4) (z := 5) rfl rfl rfl (by decide) ?_
  refine x_iconst (pc' := 5) rfl rfl ?_
  refine x_isub (pc' := 6) (z := 4) rfl rfl (by decide) ?_
  refine x_istore_n (pc' := 7) (ls' := [_, _, _, _]) rfl rfl rfl rfl ?_
  refine x_iload_n (pc' := 8) rfl rfl rfl ?_
  refine x_if (a' := 33) (pc' := 11) (z := false) rfl rfl rfl (by decide) (fun h => by cases h) (fun _ => ?_)
  refine x_iload_n (pc' := 12) rfl rfl rfl ?_
  refine x_aload_n (pc' := 13) rfl rfl rfl rfl rfl ?_
  refine x_gR (pc' := 16) (r := (some 0)) rfl rfl rfl (kR_640_0 hc.1) ?_
  refine x_alen (pc' := 17) (N := 5) rfl rfl rfl (kN_24_0 hc.1) (?_ : X _ _ _ (.inl 5 :: _) _ _)
  refine x_icmp (a' := 33) (pc' := 20) (z := false) rfl rfl rfl (by decide) (fun h => by cases h) (fun _ => ?_)
  refine x_aload_n (pc' := 21) rfl rfl rfl rfl rfl ?_
  refine x_gR (pc' := 24) (r := (some 0)) rfl rfl rfl (kR_640_0 hc.1) ?_
  refine x_iload_n (pc' := 25) rfl rfl rfl ?_
  refine x_aald (pc' := 26) (N := 5) (k' := 1) (r := (some 4)) rfl rfl rfl (kN_24_0 hc.1) (io_in (p := 4) (N := 5) (by decide) (by decide)) (Eq.trans (congrArg (sE t 24 0) (nn_io (p := 4) (by decide))) (kB hc.1 (by decide))) ?_
  refine x_gI (pc' := 29) (x := (mA M 0 4)) rfl rfl rfl (kA hM rfl (show 4 < 5 by decide)) ?_
  refine x_iconst (pc' := 30) rfl rfl ?_
  have J6 : Q (.inl (some (.inr (.inr (8, (bif (decide ((mA M 0 4) = 2)) then (bif s then (bsF M n 4 true) else (bsF M n 4 false)) else none)))))) t := by
    exact k0
  refine x_icmp (a' := 35) (pc' := 33) (z := decide ((mA M 0 4) = 2)) rfl rfl rfl rfl (fun q3 => ?_) (fun q3 => ?_)
  · refine x_aload_n (pc' := 36) rfl rfl rfl rfl rfl ?_
    refine x_gR (pc' := 39) (r := (some 0)) rfl rfl rfl (kR_640_0 hc.1) ?_
    refine x_iload_n (pc' := 40) rfl rfl rfl ?_
    refine x_aald (pc' := 41) (N := 5) (k' := 1) (r := (some 4)) rfl rfl rfl (kN_24_0 hc.1) (io_in (p := 4) (N := 5) (by decide) (by decide)) (Eq.trans (congrArg (sE t 24 0) (nn_io (p := 4) (by decide))) (kB hc.1 (by decide))) ?_
    refine x_iload_n (pc' := 42) rfl rfl rfl ?_
    refine x_if (a' := 57) (pc' := 45) (z := true) rfl rfl rfl (by decide) (fun _ => ?_) (fun h => by cases h)
    refine x_iload_n (pc' := 58) rfl rfl rfl ?_
    refine x_cv (ls0 := [_, _]) (rest := []) rfl rfl rfl rfl rfl ?_
    refine x_iload_n (pc' := 1) rfl rfl rfl ?_
    have J5 : X 9 15 [.inr (.inr (1, (some 4))), .inl (bz s)] [.inr (.inr (8, (bif s then (bsF M n 4 true) else (bsF M n 4 false))))] t (sK 9 79 58 [.inr (.inr (10, (some 0))), .inl (-5), .inl (bz s), .inl 4] [] Q) := by
      refine x_reta rfl rfl ?_
      refine sK_i (pc' := 61) rfl ?_
      refine x_reta rfl rfl ?_
      ((try rw [q3] at J6); (try rw [q3]); (try simp only [cd_t, cd_f, nt_t, nt_f, an_t, an_f, or_t, or_f] at J6); (try simp only [cd_t, cd_f, nt_t, nt_f, an_t, an_f, or_t, or_f]); exact J6)
    refine x_ifeq_z (a' := 11) (pc' := 4) (z := s) rfl rfl rfl (fun q5 => ?_) (fun q5 => ?_)
    · refine x_aload_n (pc' := 12) rfl rfl rfl rfl rfl ?_
      refine x_gR (pc' := 15) (r := (bsF M n 4 false)) rfl rfl rfl (bs_70 hC (Fr.ri (Fr.refl _) hR) hM (by decide)) ?_
      ((try rw [q5] at J5); (try rw [q5]); (try simp only [cd_t, cd_f, nt_t, nt_f, an_t, an_f, or_t, or_f] at J5); (try simp only [cd_t, cd_f, nt_t, nt_f, an_t, an_f, or_t, or_f]); exact J5)
    · refine x_aload_n (pc' := 5) rfl rfl rfl rfl rfl ?_
      refine x_gR (pc' := 8) (r := (bsF M n 4 true)) rfl rfl rfl (bs_69 hC (Fr.ri (Fr.refl _) hR) hM (by decide)) ?_
      refine x_goto (pc' := 15) rfl rfl ?_
      ((try rw [q5] at J5); (try rw [q5]); (try simp only [cd_t, cd_f, nt_t, nt_f, an_t, an_f, or_t, or_f] at J5); (try simp only [cd_t, cd_f, nt_t, nt_f, an_t, an_f, or_t, or_f]); exact J5)
  · refine x_null (pc' := 34) rfl rfl rfl ?_
    refine x_reta rfl rfl ?_
    ((try rw [q3] at J6); (try rw [q3]); (try simp only [cd_t, cd_f, nt_t, nt_f, an_t, an_f, or_t, or_f] at J6); (try simp only [cd_t, cd_f, nt_t, nt_f, an_t, an_f, or_t, or_f]); exact J6)
set_option maxHeartbeats 4000000 in
set_option maxRecDepth 10000 in
theorem n79_m2 {t : sT} {Q : sRs → sT → Prop} {M : sM} {n : Nat} {T : Nat} {L0 : List Nat} {A : Nat} {B : Nat} {s : Bool}
    (hW : Wc t M n T L0 A B)
    (k0 : Q (.inl (some (.inr (.inr (8, (bif (decide ((mA M 0 1) = 2)) then (bif s then (bsF M n 1 true) else (bsF M n 1 false)) else none)))))) t) :
    X 79 0 [.inr (.inr (10, (some 0))), .inl (-2), .inl (bz s), sJk] [] t Q := by
  obtain ⟨hM, hc, hR, hC, hL, hL9⟩ := hW
  refine x_iload_n (pc' := 1) rfl rfl rfl ?_
  refine x_abs (pc' := 4) (z := 2) rfl rfl rfl (by decide) ?_
  refine x_iconst (pc' := 5) rfl rfl ?_
  refine x_isub (pc' := 6) (z := 1) rfl rfl (by decide) ?_
  refine x_istore_n (pc' := 7) (ls' := [_, _, _, _]) rfl rfl rfl rfl ?_
  refine x_iload_n (pc' := 8) rfl rfl rfl ?_
  refine x_if (a' := 33) (pc' := 11) (z := false) rfl rfl rfl (by decide) (fun h => by cases h) (fun _ => ?_)
  refine x_iload_n (pc' := 12) rfl rfl rfl ?_
  refine x_aload_n (pc' := 13) rfl rfl rfl rfl rfl ?_
  refine x_gR (pc' := 16) (r := (some 0)) rfl rfl rfl (kR_640_0 hc.1) ?_
  refine x_alen (pc' := 17) (N := 5) rfl rfl rfl (kN_24_0 hc.1) (?_ : X _ _ _ (.inl 5 :: _) _ _)
  refine x_icmp (a' := 33) (pc' := 20) (z := false) rfl rfl rfl (by decide) (fun h => by cases h) (fun _ => ?_)
  refine x_aload_n (pc' := 21) rfl rfl rfl rfl rfl ?_
  refine x_gR (pc' := 24) (r := (some 0)) rfl rfl rfl (kR_640_0 hc.1) ?_
  refine x_iload_n (pc' := 25) rfl rfl rfl ?_
  refine x_aald (pc' := 26) (N := 5) (k' := 1) (r := (some 1)) rfl rfl rfl (kN_24_0 hc.1) (io_in (p := 1) (N := 5) (by decide) (by decide)) (Eq.trans (congrArg (sE t 24 0) (nn_io (p := 1) (by decide))) (kB hc.1 (by decide))) ?_
  refine x_gI (pc' := 29) (x := (mA M 0 1)) rfl rfl rfl (kA hM rfl (show 1 < 5 by decide)) ?_
  refine x_iconst (pc' := 30) rfl rfl ?_
  have J6 : Q (.inl (some (.inr (.inr (8, (bif (decide ((mA M 0 1) = 2)) then (bif s then (bsF M n 1 true) else (bsF M n 1 false)) else none)))))) t := by
    exact k0
  refine x_icmp (a' := 35) (pc' := 33) (z := decide ((mA M 0 1) = 2)) rfl rfl rfl rfl (fun q3 => ?_) (fun q3 => ?_)
  · refine x_aload_n (pc' := 36) rfl rfl rfl rfl rfl ?_
    refine x_gR (pc' := 39) (r := (some 0)) rfl rfl rfl (kR_640_0 hc.1) ?_
    refine x_iload_n (pc' := 40) rfl rfl rfl ?_
    refine x_aald (pc' := 41) (N := 5) (k' := 1) (r := (some 1)) rfl rfl rfl (kN_24_0 hc.1) (io_in (p := 1) (N := 5) (by decide) (by decide)) (Eq.trans (congrArg (sE t 24 0) (nn_io (p := 1) (by decide))) (kB hc.1 (by decide))) ?_
    refine x_iload_n (pc' := 42) rfl rfl rfl ?_
    refine x_if (a' := 57) (pc' := 45) (z := true) rfl rfl rfl (by decide) (fun _ => ?_) (fun h => by cases h)
    refine x_iload_n (pc' := 58) rfl rfl rfl ?_
    refine x_cv (ls0 := [_, _]) (rest := []) rfl rfl rfl rfl rfl ?_
    refine x_iload_n (pc' := 1) rfl rfl rfl ?_
    have J5 : X 9 15 [.inr (.inr (1, (some 1))), .inl (bz s)] [.inr (.inr (8, (bif s then (bsF M n 1 true) else (bsF M n 1 false))))] t (sK 9 79 58 [.inr (.inr (10, (some 0))), .inl (-2), .inl (bz s), .inl 1] [] Q) := by
      refine x_reta rfl rfl ?_
      refine sK_i (pc' := 61) rfl ?_
      refine x_reta rfl rfl ?_
      ((try rw [q3] at J6); (try rw [q3]); (try simp only [cd_t, cd_f, nt_t, nt_f, an_t, an_f, or_t, or_f] at J6); (try simp only [cd_t, cd_f, nt_t, nt_f, an_t, an_f, or_t, or_f]); exact J6)
    refine x_ifeq_z (a' := 11) (pc' := 4) (z := s) rfl rfl rfl (fun q5 => ?_) (fun q5 => ?_)
    · refine x_aload_n (pc' := 12) rfl rfl rfl rfl rfl ?_
      refine x_gR (pc' := 15) (r := (bsF M n 1 false)) rfl rfl rfl (bs_70 hC (Fr.ri (Fr.refl _) hR) hM (by decide)) ?_
      ((try rw [q5] at J5); (try rw [q5]); (try simp only [cd_t, cd_f, nt_t, nt_f, an_t, an_f, or_t, or_f] at J5); (try simp only [cd_t, cd_f, nt_t, nt_f, an_t, an_f, or_t, or_f]); exact J5)
    · refine x_aload_n (pc' := 5) rfl rfl rfl rfl rfl ?_
      refine x_gR (pc' := 8) (r := (bsF M n 1 true)) rfl rfl rfl (bs_69 hC (Fr.ri (Fr.refl _) hR) hM (by decide)) ?_
      refine x_goto (pc' := 15) rfl rfl ?_
      ((try rw [q5] at J5); (try rw [q5]); (try simp only [cd_t, cd_f, nt_t, nt_f, an_t, an_f, or_t, or_f] at J5); (try simp only [cd_t, cd_f, nt_t, nt_f, an_t, an_f, or_t, or_f]); exact J5)
  · refine x_null (pc' := 34) rfl rfl rfl ?_
    refine x_reta rfl rfl ?_
    ((try rw [q3] at J6); (try rw [q3]); (try simp only [cd_t, cd_f, nt_t, nt_f, an_t, an_f, or_t, or_f] at J6); (try simp only [cd_t, cd_f, nt_t, nt_f, an_t, an_f, or_t, or_f]); exact J6)
set_option maxHeartbeats 4000000 in
set_option maxRecDepth 10000 in
theorem n79_m3 {t : sT} {Q : sRs → sT → Prop} {M : sM} {n : Nat} {T : Nat} {L0 : List Nat} {A : Nat} {B : Nat} {s : Bool}
    (hW : Wc t M n T L0 A B)
    (k0 : Q (.inl (some (.inr (.inr (8, (bif (decide ((mA M 0 2) = 2)) then (bif s then (bsF M n 2 true) else (bsF M n 2 false)) else none)))))) t) :
    X 79 0 [.inr (.inr (10, (some 0))), .inl (-3), .inl (bz s), sJk] [] t Q := by
  obtain ⟨hM, hc, hR, hC, hL, hL9⟩ := hW
  refine x_iload_n (pc' := 1) rfl rfl rfl ?_
  refine x_abs (pc' := 4) (z := 3) rfl rfl rfl (by decide) ?_
  refine x_iconst (pc' := 5) rfl rfl ?_
  refine x_isub (pc' := 6) (z := 2) rfl rfl (by decide) ?_
  refine x_istore_n (pc' := 7) (ls' := [_, _, _, _]) rfl rfl rfl rfl ?_
  refine x_iload_n (pc' := 8) rfl rfl rfl ?_
  refine x_if (a' := 33) (pc' := 11) (z := false) rfl rfl rfl (by decide) (fun h => by cases h) (fun _ => ?_)
  refine x_iload_n (pc' := 12) rfl rfl rfl ?_
  refine x_aload_n (pc' := 13) rfl rfl rfl rfl rfl ?_
  refine x_gR (pc' := 16) (r := (some 0)) rfl rfl rfl (kR_640_0 hc.1) ?_
  refine x_alen (pc' := 17) (N := 5) rfl rfl rfl (kN_24_0 hc.1) (?_ : X _ _ _ (.inl 5 :: _) _ _)
  refine x_icmp (a' := 33) (pc' := 20) (z := false) rfl rfl rfl (by decide) (fun h => by cases h) (fun _ => ?_)
  refine x_aload_n (pc' := 21) rfl rfl rfl rfl rfl ?_
  refine x_gR (pc' := 24) (r := (some 0)) rfl rfl rfl (kR_640_0 hc.1) ?_
  refine x_iload_n (pc' := 25) rfl rfl rfl ?_
  refine x_aald (pc' := 26) (N := 5) (k' := 1) (r := (some 2)) rfl rfl rfl (kN_24_0 hc.1) (io_in (p := 2) (N := 5) (by decide) (by decide)) (Eq.trans (congrArg (sE t 24 0) (nn_io (p := 2) (by decide))) (kB hc.1 (by decide))) ?_
  refine x_gI (pc' := 29) (x := (mA M 0 2)) rfl rfl rfl (kA hM rfl (show 2 < 5 by decide)) ?_
  refine x_iconst (pc' := 30) rfl rfl ?_
  have J6 : Q (.inl (some (.inr (.inr (8, (bif (decide ((mA M 0 2) = 2)) then (bif s then (bsF M n 2 true) else (bsF M n 2 false)) else none)))))) t := by
    exact k0
  refine x_icmp (a' := 35) (pc' := 33) (z := decide ((mA M 0 2) = 2)) rfl rfl rfl rfl (fun q3 => ?_) (fun q3 => ?_)
  · refine x_aload_n (pc' := 36) rfl rfl rfl rfl rfl ?_
    refine x_gR (pc' := 39) (r := (some 0)) rfl rfl rfl (kR_640_0 hc.1) ?_
    refine x_iload_n (pc' := 40) rfl rfl rfl ?_
    refine x_aald (pc' := 41) (N := 5) (k' := 1) (r := (some 2)) rfl rfl rfl (kN_24_0 hc.1) (io_in (p := 2) (N := 5) (by decide) (by decide)) (Eq.trans (congrArg (sE t 24 0) (nn_io (p := 2) (by decide))) (kB hc.1 (by decide))) ?_
    refine x_iload_n (pc' := 42) rfl rfl rfl ?_
    refine x_if (a' := 57) (pc' := 45) (z := true) rfl rfl rfl (by decide) (fun _ => ?_) (fun h => by cases h)
    refine x_iload_n (pc' := 58) rfl rfl rfl ?_
    refine x_cv (ls0 := [_, _]) (rest := []) rfl rfl rfl rfl rfl ?_
    refine x_iload_n (pc' := 1) rfl rfl rfl ?_
    have J5 : X 9 15 [.inr (.inr (1, (some 2))), .inl (bz s)] [.inr (.inr (8, (bif s then (bsF M n 2 true) else (bsF M n 2 false))))] t (sK 9 79 58 [.inr (.inr (10, (some 0))), .inl (-3), .inl (bz s), .inl 2] [] Q) := by
      refine x_reta rfl rfl ?_
      refine sK_i (pc' := 61) rfl ?_
      refine x_reta rfl rfl ?_
      ((try rw [q3] at J6); (try rw [q3]); (try simp only [cd_t, cd_f, nt_t, nt_f, an_t, an_f, or_t, or_f] at J6); (try simp only [cd_t, cd_f, nt_t, nt_f, an_t, an_f, or_t, or_f]); exact J6)
    refine x_ifeq_z (a' := 11) (pc' := 4) (z := s) rfl rfl rfl (fun q5 => ?_) (fun q5 => ?_)
    · refine x_aload_n (pc' := 12) rfl rfl rfl rfl rfl ?_
      refine x_gR (pc' := 15) (r := (bsF M n 2 false)) rfl rfl rfl (bs_70 hC (Fr.ri (Fr.refl _) hR) hM (by decide)) ?_
      ((try rw [q5] at J5); (try rw [q5]); (try simp only [cd_t, cd_f, nt_t, nt_f, an_t, an_f, or_t, or_f] at J5); (try simp only [cd_t, cd_f, nt_t, nt_f, an_t, an_f, or_t, or_f]); exact J5)
    · refine x_aload_n (pc' := 5) rfl rfl rfl rfl rfl ?_
      refine x_gR (pc' := 8) (r := (bsF M n 2 true)) rfl rfl rfl (bs_69 hC (Fr.ri (Fr.refl _) hR) hM (by decide)) ?_
      refine x_goto (pc' := 15) rfl rfl ?_
      ((try rw [q5] at J5); (try rw [q5]); (try simp only [cd_t, cd_f, nt_t, nt_f, an_t, an_f, or_t, or_f] at J5); (try simp only [cd_t, cd_f, nt_t, nt_f, an_t, an_f, or_t, or_f]); exact J5)
  · refine x_null (pc' := 34) rfl rfl rfl ?_
    refine x_reta rfl rfl ?_
    ((try rw [q3] at J6); (try rw [q3]); (try simp only [cd_t, cd_f, nt_t, nt_f, an_t, an_f, or_t, or_f] at J6); (try simp only [cd_t, cd_f, nt_t, nt_f, an_t, an_f, or_t, or_f]); exact J6)
set_option maxHeartbeats 4000000 in
set_option maxRecDepth 10000 in
theorem n57_0 {t : sT} {Q : sRs → sT → Prop} {M : sM} {n : Nat} {T : Nat} {L0 : List Nat} {A : Nat} {B : Nat} {o : Nat} {w : Nat}
    (hW : Wc t M n T L0 A B)
    (k0 : X 255 0 [.inr (.inr (13, (some 2))), sJk, sJk, sJk] [] t (sK 255 57 4 [.inr (.inr (6, (some 0))), .inr (.inr (8, (some o))), .inl (io w), sJk, sJk] [] Q)) :
    X 57 0 [.inr (.inr (6, (some 0))), .inr (.inr (8, (some o))), .inl (io w), sJk, sJk] [] t Q := by
  obtain ⟨hM, hc, hR, hC, hL, hL9⟩ := hW
  refine x_aload_n (pc' := 1) rfl rfl rfl rfl rfl ?_
  refine x_gR (pc' := 4) (r := (some 2)) rfl rfl rfl (kR_387_0 hc.1) ?_
  refine x_cv (ls0 := [_, sJk, sJk, sJk]) (rest := []) rfl rfl rfl rfl rfl ?_
  exact k0
set_option maxHeartbeats 4000000 in
set_option maxRecDepth 10000 in
theorem n57_7z {t : sT} {Q : sRs → sT → Prop} {M : sM} {n : Nat} {T : Nat} {L0 : List Nat} {A : Nat} {B : Nat} {o : Nat}
    (hW : Wc t M n T L0 A B)
    (ho : o < n)
    (k0 : (mB M 0 (oB M o)) = false → X 57 47 [.inr (.inr (6, (some 0))), .inr (.inr (8, (some o))), .inl 0, .inl 0, sJk] [] t Q)
    (k1 : (mB M 0 (oB M o)) = true → (mB M 3 o) = true → X 58 0 [.inr (.inr (6, (some 0))), .inr (.inr (8, (bsF M n (oB M o) false))), sJk] [] t (sK 58 57 41 [.inr (.inr (6, (some 0))), .inr (.inr (8, (some o))), .inl 0, sJk, sJk] [] Q))
    (k2 : (mB M 0 (oB M o)) = true → (mB M 3 o) = false → X 58 0 [.inr (.inr (6, (some 0))), .inr (.inr (8, (bsF M n (oB M o) true))), sJk] [] t (sK 58 57 41 [.inr (.inr (6, (some 0))), .inr (.inr (8, (some o))), .inl 0, sJk, sJk] [] Q)) :
    X 57 7 [.inr (.inr (6, (some 0))), .inr (.inr (8, (some o))), .inl 0, sJk, sJk] [] t Q := by
  obtain ⟨hM, hc, hR, hC, hL, hL9⟩ := hW
  refine x_iload_n (pc' := 8) rfl rfl rfl ?_
  refine x_if (a' := 45) (pc' := 11) (z := false) rfl rfl rfl (by decide) (fun h => by cases h) (fun _ => ?_)
  refine x_aload_n (pc' := 12) rfl rfl rfl rfl rfl ?_
  refine x_gR (pc' := 15) (r := (some (oB M o))) rfl rfl rfl (Sf_514f hc (Fr.refl _) ho) ?_
  refine x_gZ (pc' := 18) (z := (mB M 0 (oB M o))) rfl rfl rfl (kZ hM rfl (gb5 hR ho)) ?_
  refine x_ifeq_z (a' := 45) (pc' := 21) (z := (mB M 0 (oB M o))) rfl rfl rfl (fun q2 => ?_) (fun q2 => ?_)
  · refine x_iconst (pc' := 46) rfl rfl ?_
    refine x_istore_n (pc' := 47) (ls' := [_, _, _, _, _]) rfl rfl rfl rfl ?_
    exact k0 q2
  · refine x_aload_n (pc' := 22) rfl rfl rfl rfl rfl ?_
    refine x_aload_n (pc' := 23) rfl rfl rfl rfl rfl ?_
    refine x_gR (pc' := 26) (r := (some (oB M o))) rfl rfl rfl (Sf_514f hc (Fr.refl _) ho) ?_
    refine x_aload_n (pc' := 27) rfl rfl rfl rfl rfl ?_
    refine x_gZ (pc' := 30) (z := (mB M 3 o)) rfl rfl rfl ((kZ hM rfl ho).trans (congrFun (Fr.f3 (Fr.refl _)) _)) ?_
    refine x_ifne_z (a' := 37) (pc' := 33) (z := (mB M 3 o)) rfl rfl rfl (fun q3 => ?_) (fun q3 => ?_)
    · refine x_iconst (pc' := 38) rfl rfl ?_
      refine x_cv (ls0 := [_, _]) (rest := [_]) rfl rfl rfl rfl rfl ?_
      refine x_iload_n (pc' := 1) rfl rfl rfl ?_
      refine x_if (a' := 11) (pc' := 4) (z := true) rfl rfl rfl (by decide) (fun _ => ?_) (fun h => by cases h)
      refine x_aload_n (pc' := 12) rfl rfl rfl rfl rfl ?_
      refine x_gR (pc' := 15) (r := (bsF M n (oB M o) false)) rfl rfl rfl (bs_70 hC (Fr.ri (Fr.refl _) hR) hM (gb5 hR ho)) ?_
      refine x_reta rfl rfl ?_
      refine sK_i (pc' := 41) rfl ?_
      refine x_cv (ls0 := [_, _, sJk]) (rest := []) rfl rfl rfl rfl rfl ?_
      exact k1 q2 q3
    · refine x_iconst (pc' := 34) rfl rfl ?_
      refine x_goto (pc' := 38) rfl rfl ?_
      refine x_cv (ls0 := [_, _]) (rest := [_]) rfl rfl rfl rfl rfl ?_
      refine x_iload_n (pc' := 1) rfl rfl rfl ?_
      refine x_if (a' := 11) (pc' := 4) (z := false) rfl rfl rfl (by decide) (fun h => by cases h) (fun _ => ?_)
      refine x_aload_n (pc' := 5) rfl rfl rfl rfl rfl ?_
      refine x_gR (pc' := 8) (r := (bsF M n (oB M o) true)) rfl rfl rfl (bs_69 hC (Fr.ri (Fr.refl _) hR) hM (gb5 hR ho)) ?_
      refine x_goto (pc' := 15) rfl rfl ?_
      refine x_reta rfl rfl ?_
      refine sK_i (pc' := 41) rfl ?_
      refine x_cv (ls0 := [_, _, sJk]) (rest := []) rfl rfl rfl rfl rfl ?_
      exact k2 q2 q3
set_option maxHeartbeats 4000000 in
set_option maxRecDepth 10000 in
theorem n57_7 {t : sT} {Q : sRs → sT → Prop} {M : sM} {n : Nat} {T : Nat} {L0 : List Nat} {A : Nat} {B : Nat} {o : Nat} {w : Nat}
    (hW : Wc t M n T L0 A B)
    (ho : o < n)
    (hw0 : 0 < w)
    (hw : w < 3)
    (k0 : X 57 47 [.inr (.inr (6, (some 0))), .inr (.inr (8, (some o))), .inl (io w), .inl 0, sJk] [] t Q) :
    X 57 7 [.inr (.inr (6, (some 0))), .inr (.inr (8, (some o))), .inl (io w), sJk, sJk] [] t Q := by
  obtain ⟨hM, hc, hR, hC, hL, hL9⟩ := hW
  refine x_iload_n (pc' := 8) rfl rfl rfl ?_
  refine x_if_n (a' := 45) (pc' := 11) (z := decide (w = 0)) rfl rfl rfl (ic_nen (p := w) (q := 0) (gc31 hw) (by decide)) (fun _ => ?_) (fun h => absurd (of_decide_eq_true h) (Nat.ne_of_gt hw0))
  refine x_iconst (pc' := 46) rfl rfl ?_
  refine x_istore_n (pc' := 47) (ls' := [_, _, _, _, _]) rfl rfl rfl rfl ?_
  exact k0
set_option maxHeartbeats 4000000 in
set_option maxRecDepth 10000 in
theorem n57_44 {t : sT} {Q : sRs → sT → Prop} {o : Nat} {w : Nat}
    (k0 : Q (.inl none) t) :
    X 57 44 [.inr (.inr (6, (some 0))), .inr (.inr (8, (some o))), .inl (io w), sJk, sJk] [] t Q := by
  refine x_ret rfl ?_
  exact k0
set_option maxHeartbeats 4000000 in
set_option maxRecDepth 10000 in
theorem n57_47 {t : sT} {Q : sRs → sT → Prop} {M : sM} {n : Nat} {T : Nat} {L0 : List Nat} {A : Nat} {B : Nat} {o : Nat} {w : Nat} {k : Nat} {y0 : sV}
    (hW : Wc t M n T L0 A B)
    (ho : o < n)
    (hk : k < 3)
    (k0 : X 80 0 [.inr (.inr (10, (some 0))), .inr (.inr (1, (some (oB M o)))), .inl (io w), .inl (io k), sJk, sJk] [] t (sK 80 57 66 [.inr (.inr (6, (some 0))), .inr (.inr (8, (some o))), .inl (io w), .inl (io k), y0] [.inr (.inr (10, (some 0)))] Q)) :
    X 57 47 [.inr (.inr (6, (some 0))), .inr (.inr (8, (some o))), .inl (io w), .inl (io k), y0] [] t Q := by
  obtain ⟨hM, hc, hR, hC, hL, hL9⟩ := hW
  refine x_iload_n (pc' := 48) rfl rfl rfl ?_
  refine x_iconst (pc' := 49) rfl rfl ?_
  refine x_icmp_n (a' := 99) (pc' := 52) (z := decide (k < 3)) rfl rfl rfl (ic_gen (p := k) (q := 3) (gc31 hk) (by decide)) (fun h => absurd hk (of_decide_eq_false h)) (fun _ => ?_)
  refine x_aload_n (pc' := 53) rfl rfl rfl rfl rfl ?_
  refine x_gR (pc' := 56) (r := (some 0)) rfl rfl rfl (kR_386_0 hc.1) ?_
  refine x_aload_n (pc' := 57) rfl rfl rfl rfl rfl ?_
  refine x_gR (pc' := 60) (r := (some 0)) rfl rfl rfl (kR_386_0 hc.1) ?_
  refine x_aload_n (pc' := 61) rfl rfl rfl rfl rfl ?_
  refine x_gR (pc' := 64) (r := (some (oB M o))) rfl rfl rfl (Sf_514f hc (Fr.refl _) ho) ?_
  refine x_iload_n (pc' := 65) rfl rfl rfl ?_
  refine x_iload_n (pc' := 66) rfl rfl rfl ?_
  refine x_cv (ls0 := [_, _, _, _, sJk, sJk]) (rest := [_]) rfl rfl rfl rfl rfl ?_
  exact k0
set_option maxHeartbeats 4000000 in
set_option maxRecDepth 10000 in
theorem n57_69 {t : sT} {Q : sRs → sT → Prop} {M : sM} {n : Nat} {T : Nat} {L0 : List Nat} {A : Nat} {B : Nat} {o : Nat} {w : Nat} {k : Nat} {y0 : sV} {c : Int32}
    (hW : Wc t M n T L0 A B)
    (ho : o < n)
    (hk : k < 3)
    (k0 : X 79 0 [.inr (.inr (10, (some 0))), .inl c, .inl (bz (mB M 3 o)), sJk] [] t (sK 79 57 73 [.inr (.inr (6, (some 0))), .inr (.inr (8, (some o))), .inl (io w), .inl (io k), y0] [] Q)) :
    X 57 69 [.inr (.inr (6, (some 0))), .inr (.inr (8, (some o))), .inl (io w), .inl (io k), y0] [.inl c, .inr (.inr (10, (some 0)))] t Q := by
  obtain ⟨hM, hc, hR, hC, hL, hL9⟩ := hW
  refine x_aload_n (pc' := 70) rfl rfl rfl rfl rfl ?_
  refine x_gZ (pc' := 73) (z := (mB M 3 o)) rfl rfl rfl ((kZ hM rfl ho).trans (congrFun (Fr.f3 (Fr.refl _)) _)) ?_
  refine x_cv (ls0 := [_, _, _, sJk]) (rest := []) rfl rfl rfl rfl rfl ?_
  exact k0
set_option maxHeartbeats 4000000 in
set_option maxRecDepth 10000 in
theorem n57_76n {t : sT} {Q : sRs → sT → Prop} {M : sM} {n : Nat} {T : Nat} {L0 : List Nat} {A : Nat} {B : Nat} {o : Nat} {w : Nat} {k : Nat} {y0 : sV}
    (hW : Wc t M n T L0 A B)
    (ho : o < n)
    (hk : k < 3)
    (k0 : X 57 47 [.inr (.inr (6, (some 0))), .inr (.inr (8, (some o))), .inl (io w), .inl (io (k + 1)), .inr (.inr (8, none))] [] t Q) :
    X 57 76 [.inr (.inr (6, (some 0))), .inr (.inr (8, (some o))), .inl (io w), .inl (io k), y0] [.inr (.inr (8, none))] t Q := by
  obtain ⟨hM, hc, hR, hC, hL, hL9⟩ := hW
  refine x_astore (pc' := 78) (ls' := [_, _, _, _, _]) rfl rfl rfl rfl rfl ?_
  refine x_aload (pc' := 80) rfl rfl rfl rfl rfl ?_
  refine x_ifnull (a' := 93) (pc' := 83) rfl rfl rfl rfl (fun _ => ?_) (fun i h => by cases h)
  refine x_iinc (pc' := 96) (y := (io (k + 1))) (ls' := [_, _, _, _, _]) rfl rfl rfl (io_add k 1) rfl ?_
  refine x_goto (pc' := 47) rfl rfl ?_
  exact k0
set_option maxHeartbeats 4000000 in
set_option maxRecDepth 10000 in
theorem n57_76s {t : sT} {Q : sRs → sT → Prop} {M : sM} {n : Nat} {T : Nat} {L0 : List Nat} {A : Nat} {B : Nat} {o : Nat} {w : Nat} {k : Nat} {y0 : sV} {x : Nat}
    (hW : Wc t M n T L0 A B)
    (ho : o < n)
    (hk : k < 3)
    (k0 : X 254 0 [.inr (.inr (13, (some 2))), .inr (.inr (8, (some x)))] [] t (sK 254 57 89 [.inr (.inr (6, (some 0))), .inr (.inr (8, (some o))), .inl (io w), .inl (io k), .inr (.inr (8, (some x)))] [] Q)) :
    X 57 76 [.inr (.inr (6, (some 0))), .inr (.inr (8, (some o))), .inl (io w), .inl (io k), y0] [.inr (.inr (8, (some x)))] t Q := by
  obtain ⟨hM, hc, hR, hC, hL, hL9⟩ := hW
  refine x_astore (pc' := 78) (ls' := [_, _, _, _, _]) rfl rfl rfl rfl rfl ?_
  refine x_aload (pc' := 80) rfl rfl rfl rfl rfl ?_
  refine x_ifnull (a' := 93) (pc' := 83) rfl rfl rfl rfl (fun h => by cases h) (fun _ _ => ?_)
  refine x_aload_n (pc' := 84) rfl rfl rfl rfl rfl ?_
  refine x_gR (pc' := 87) (r := (some 2)) rfl rfl rfl (kR_387_0 hc.1) ?_
  refine x_aload (pc' := 89) rfl rfl rfl rfl rfl ?_
  refine x_cv (ls0 := [_, _]) (rest := []) rfl rfl rfl rfl rfl ?_
  exact k0
set_option maxHeartbeats 4000000 in
set_option maxRecDepth 10000 in
theorem n57_92 {t : sT} {Q : sRs → sT → Prop} {M : sM} {n : Nat} {T : Nat} {L0 : List Nat} {A : Nat} {B : Nat} {o : Nat} {w : Nat} {k : Nat} {y0 : sV} {x : Nat} {z : Bool}
    (hW : Wc t M n T L0 A B)
    (ho : o < n)
    (hk : k < 3)
    (k0 : X 57 47 [.inr (.inr (6, (some 0))), .inr (.inr (8, (some o))), .inl (io w), .inl (io (k + 1)), .inr (.inr (8, (some x)))] [] t Q) :
    X 57 92 [.inr (.inr (6, (some 0))), .inr (.inr (8, (some o))), .inl (io w), .inl (io k), .inr (.inr (8, (some x)))] [.inl (bz z)] t Q := by
  obtain ⟨hM, hc, hR, hC, hL, hL9⟩ := hW
  refine x_pop (pc' := 93) rfl rfl rfl ?_
  refine x_iinc (pc' := 96) (y := (io (k + 1))) (ls' := [_, _, _, _, _]) rfl rfl rfl (io_add k 1) rfl ?_
  refine x_goto (pc' := 47) rfl rfl ?_
  exact k0
set_option maxHeartbeats 4000000 in
set_option maxRecDepth 10000 in
theorem n57_e {t : sT} {Q : sRs → sT → Prop} {M : sM} {n : Nat} {T : Nat} {L0 : List Nat} {A : Nat} {B : Nat} {o : Nat} {w : Nat} {y0 : sV}
    (hW : Wc t M n T L0 A B)
    (k0 : Q (.inl none) t) :
    X 57 47 [.inr (.inr (6, (some 0))), .inr (.inr (8, (some o))), .inl (io w), .inl (io 3), y0] [] t Q := by
  obtain ⟨hM, hc, hR, hC, hL, hL9⟩ := hW
  refine x_iload_n (pc' := 48) rfl rfl rfl ?_
  refine x_iconst (pc' := 49) rfl rfl ?_
  refine x_icmp_n (a' := 99) (pc' := 52) (z := decide (3 < 3)) rfl rfl rfl (ic_gen (p := 3) (q := 3) (by decide) (by decide)) (fun _ => ?_) (fun h => absurd (of_decide_eq_true h) (by first | decide | omega | simp))
  refine x_ret rfl ?_
  exact k0
set_option maxHeartbeats 4000000 in
set_option maxRecDepth 10000 in
theorem n56_0 {t : sT} {Q : sRs → sT → Prop} {M : sM} {n : Nat} {T : Nat} {L0 : List Nat} {A : Nat} {B : Nat} {o : Nat}
    (hW : Wc t M n T L0 A B)
    (k0 : X 56 2 [.inr (.inr (6, (some 0))), .inr (.inr (8, (some o))), .inl 0, sJk, sJk, sJk] [] t Q) :
    X 56 0 [.inr (.inr (6, (some 0))), .inr (.inr (8, (some o))), sJk, sJk, sJk, sJk] [] t Q := by
  obtain ⟨hM, hc, hR, hC, hL, hL9⟩ := hW
  refine x_iconst (pc' := 1) rfl rfl ?_
  refine x_istore_n (pc' := 2) (ls' := [_, _, _, _, _, _]) rfl rfl rfl rfl ?_
  exact k0
set_option maxHeartbeats 4000000 in
set_option maxRecDepth 10000 in
theorem n56_2 {t : sT} {Q : sRs → sT → Prop} {M : sM} {n : Nat} {T : Nat} {L0 : List Nat} {A : Nat} {B : Nat} {o : Nat} {k : Nat} {y0 : sV} {y1 : sV} {y2 : sV}
    (hW : Wc t M n T L0 A B)
    (ho : o < n)
    (hk : k < 1000)
    (k0 : ¬ (0 < (mA M 15 o)) → Q (.inl none) t)
    (k1 : 0 < (mA M 15 o) → T < 1500 → X 82 0 [.inr (.inr (10, (some 0))), .inr (.inr (1, (some (oB M o)))), .inl (bz (mB M 3 o)), sJk, sJk, sJk, sJk, sJk] [] t (sK 82 56 44 [.inr (.inr (6, (some 0))), .inr (.inr (8, (some o))), .inl (io k), y0, y1, y2] [] Q))
    (k2 : 0 < (mA M 15 o) → ¬ (T < 1500) → Q (.inl none) t) :
    X 56 2 [.inr (.inr (6, (some 0))), .inr (.inr (8, (some o))), .inl (io k), y0, y1, y2] [] t Q := by
  obtain ⟨hM, hc, hR, hC, hL, hL9⟩ := hW
  refine x_iload_n (pc' := 3) rfl rfl rfl ?_
  refine x_ldc (pc' := 5) rfl rfl ?_
  refine x_icmp_n (a' := 161) (pc' := 8) (z := decide (k < 1000000)) rfl rfl rfl (ic_gen (p := k) (q := 1000000) (Nat.lt_trans hk (by decide)) (by decide)) (fun h => absurd (Nat.lt_trans hk (by decide)) (of_decide_eq_false h)) (fun _ => ?_)
  refine x_aload_n (pc' := 9) rfl rfl rfl rfl rfl ?_
  refine x_gI (pc' := 12) (x := (mA M 15 o)) rfl rfl rfl (kA hM rfl ho) ?_
  refine x_if_n (a' := 31) (pc' := 15) (z := decide (0 < (mA M 15 o))) rfl rfl rfl (ik_le _ _) (fun q2 => ?_) (fun q2 => ?_)
  · refine x_ret rfl ?_
    exact k0 (of_decide_eq_false q2)
  · refine x_aload_n (pc' := 16) rfl rfl rfl rfl rfl ?_
    refine x_gR (pc' := 19) (r := (some 0)) rfl rfl rfl (kR_384_0 hc.1) ?_
    refine x_gR (pc' := 22) (r := (some 0)) rfl rfl rfl (kR_322_0 hc.1) ?_
    refine x_cv (ls0 := [_]) (rest := []) rfl rfl rfl rfl rfl ?_
    refine x_aload_n (pc' := 1) rfl rfl rfl rfl rfl ?_
    refine x_gI (pc' := 4) (x := (io T)) rfl rfl rfl (Sf_T hc) ?_
    refine x_reti rfl rfl ?_
    refine sK_i (pc' := 25) rfl ?_
    refine x_sipush (pc' := 28) rfl rfl ?_
    refine x_icmp (a' := 32) (pc' := 31) (z := decide (T < 1500)) rfl rfl rfl (ic_lt (p := T) (q := 1500) (gT31 hc) (by decide)) (fun q3 => ?_) (fun q3 => ?_)
    · refine x_aload_n (pc' := 33) rfl rfl rfl rfl rfl ?_
      refine x_gR (pc' := 36) (r := (some 0)) rfl rfl rfl (kR_386_0 hc.1) ?_
      refine x_aload_n (pc' := 37) rfl rfl rfl rfl rfl ?_
      refine x_gR (pc' := 40) (r := (some (oB M o))) rfl rfl rfl (Sf_514f hc (Fr.refl _) ho) ?_
      refine x_aload_n (pc' := 41) rfl rfl rfl rfl rfl ?_
      refine x_gZ (pc' := 44) (z := (mB M 3 o)) rfl rfl rfl ((kZ hM rfl ho).trans (congrFun (Fr.f3 (Fr.refl _)) _)) ?_
      refine x_cv (ls0 := [_, _, _, sJk, sJk, sJk, sJk, sJk]) (rest := []) rfl rfl rfl rfl rfl ?_
      exact k1 (of_decide_eq_true q2) (of_decide_eq_true q3)
    · refine x_ret rfl ?_
      exact k2 (of_decide_eq_true q2) (of_decide_eq_false q3)
set_option maxHeartbeats 4000000 in
set_option maxRecDepth 10000 in
theorem n56_47 {t : sT} {Q : sRs → sT → Prop} {M : sM} {n : Nat} {T : Nat} {L0 : List Nat} {A : Nat} {B : Nat} {o : Nat} {k : Nat} {y0 : sV} {y1 : sV} {y2 : sV} {w : Int32} {p : Int32}
    (hW : Wc t M n T L0 A B)
    (ho : o < n)
    (hk : k < 1000)
    (k0 : X 81 0 [.inr (.inr (10, (some 0))), .inr (.inr (1, (some (oB M o)))), .inl w, .inl (bz (mB M 3 o)), sJk, sJk, sJk, sJk] [] t (sK 81 56 61 [.inr (.inr (6, (some 0))), .inr (.inr (8, (some o))), .inl (io k), .inl w, y1, y2] [] Q)) :
    X 56 47 [.inr (.inr (6, (some 0))), .inr (.inr (8, (some o))), .inl (io k), y0, y1, y2] [.inl w] t Q := by
  obtain ⟨hM, hc, hR, hC, hL, hL9⟩ := hW
  refine x_istore_n (pc' := 48) (ls' := [_, _, _, _, _, _]) rfl rfl rfl rfl ?_
  refine x_aload_n (pc' := 49) rfl rfl rfl rfl rfl ?_
  refine x_gR (pc' := 52) (r := (some 0)) rfl rfl rfl (kR_386_0 hc.1) ?_
  refine x_aload_n (pc' := 53) rfl rfl rfl rfl rfl ?_
  refine x_gR (pc' := 56) (r := (some (oB M o))) rfl rfl rfl (Sf_514f hc (Fr.refl _) ho) ?_
  refine x_iload_n (pc' := 57) rfl rfl rfl ?_
  refine x_aload_n (pc' := 58) rfl rfl rfl rfl rfl ?_
  refine x_gZ (pc' := 61) (z := (mB M 3 o)) rfl rfl rfl ((kZ hM rfl ho).trans (congrFun (Fr.f3 (Fr.refl _)) _)) ?_
  refine x_cv (ls0 := [_, _, _, _, sJk, sJk, sJk, sJk]) (rest := []) rfl rfl rfl rfl rfl ?_
  exact k0
set_option maxHeartbeats 4000000 in
set_option maxRecDepth 10000 in
theorem n56_64 {t : sT} {Q : sRs → sT → Prop} {M : sM} {n : Nat} {T : Nat} {L0 : List Nat} {A : Nat} {B : Nat} {o : Nat} {k : Nat} {y0 : sV} {y1 : sV} {y2 : sV} {w : Int32} {p : Int32}
    (hW : Wc t M n T L0 A B)
    (ho : o < n)
    (hk : k < 1000)
    (k0 : p = (-10000) → Q (.inl none) t)
    (k1 : ¬ (p = (-10000)) → (mB M 3 o) = false → p < (mA M 14 o) → Q (.inl none) t)
    (k2 : ¬ (p = (-10000)) → (mB M 3 o) = false → ¬ (p < (mA M 14 o)) → X 57 0 [.inr (.inr (6, (some 0))), .inr (.inr (8, (some o))), .inl w, sJk, sJk] [] t (sK 57 56 87 [.inr (.inr (6, (some 0))), .inr (.inr (8, (some o))), .inl (io k), .inl w, .inl p, y2] [] Q))
    (k3 : ¬ (p = (-10000)) → (mB M 3 o) = true → (mA M 14 o) < p → Q (.inl none) t)
    (k4 : ¬ (p = (-10000)) → (mB M 3 o) = true → ¬ ((mA M 14 o) < p) → X 57 0 [.inr (.inr (6, (some 0))), .inr (.inr (8, (some o))), .inl w, sJk, sJk] [] t (sK 57 56 87 [.inr (.inr (6, (some 0))), .inr (.inr (8, (some o))), .inl (io k), .inl w, .inl p, y2] [] Q)) :
    X 56 64 [.inr (.inr (6, (some 0))), .inr (.inr (8, (some o))), .inl (io k), .inl w, y1, y2] [.inl p] t Q := by
  obtain ⟨hM, hc, hR, hC, hL, hL9⟩ := hW
  refine x_istore (pc' := 66) (ls' := [_, _, _, _, _, _]) rfl rfl rfl rfl ?_
  refine x_iload (pc' := 68) rfl rfl rfl ?_
  refine x_sipush (pc' := 71) rfl rfl ?_
  refine x_icmp (a' := 83) (pc' := 74) (z := decide (p = (-10000))) rfl rfl rfl rfl (fun q1 => ?_) (fun q1 => ?_)
  · refine x_ret rfl ?_
    exact k0 (of_decide_eq_true q1)
  · refine x_aload_n (pc' := 75) rfl rfl rfl rfl rfl ?_
    refine x_iload (pc' := 77) rfl rfl rfl ?_
    refine x_cv (ls0 := [_, _]) (rest := []) rfl rfl rfl rfl rfl ?_
    refine x_aload_n (pc' := 1) rfl rfl rfl rfl rfl ?_
    refine x_gZ (pc' := 4) (z := (mB M 3 o)) rfl rfl rfl ((kZ hM rfl ho).trans (congrFun (Fr.f3 (Fr.refl _)) _)) ?_
    refine x_ifeq_z (a' := 23) (pc' := 7) (z := (mB M 3 o)) rfl rfl rfl (fun q2 => ?_) (fun q2 => ?_)
    · refine x_iload_n (pc' := 24) rfl rfl rfl ?_
      refine x_aload_n (pc' := 25) rfl rfl rfl rfl rfl ?_
      refine x_gI (pc' := 28) (x := (mA M 14 o)) rfl rfl rfl ((kA hM rfl ho).trans (congrFun (Fr.f14 (Fr.refl _)) _)) ?_
      refine x_icmp (a' := 35) (pc' := 31) (z := decide (p < (mA M 14 o))) rfl rfl rfl rfl (fun q3 => ?_) (fun q3 => ?_)
      · refine x_iconst (pc' := 36) rfl rfl ?_
        refine x_retz (z := false) rfl rfl ?_
        refine sK_i (pc' := 80) rfl ?_
        refine x_if (a' := 84) (pc' := 83) (z := false) rfl rfl rfl (by decide) (fun h => by cases h) (fun _ => ?_)
        refine x_ret rfl ?_
        exact k1 (of_decide_eq_false q1) q2 (of_decide_eq_true q3)
      · refine x_iconst (pc' := 32) rfl rfl ?_
        refine x_goto (pc' := 36) rfl rfl ?_
        refine x_retz (z := true) rfl rfl ?_
        refine sK_i (pc' := 80) rfl ?_
        refine x_if (a' := 84) (pc' := 83) (z := true) rfl rfl rfl (by decide) (fun _ => ?_) (fun h => by cases h)
        refine x_aload_n (pc' := 85) rfl rfl rfl rfl rfl ?_
        refine x_aload_n (pc' := 86) rfl rfl rfl rfl rfl ?_
        refine x_iload_n (pc' := 87) rfl rfl rfl ?_
        refine x_cv (ls0 := [_, _, _, sJk, sJk]) (rest := []) rfl rfl rfl rfl rfl ?_
        exact k2 (of_decide_eq_false q1) q2 (of_decide_eq_false q3)
    · refine x_iload_n (pc' := 8) rfl rfl rfl ?_
      refine x_aload_n (pc' := 9) rfl rfl rfl rfl rfl ?_
      refine x_gI (pc' := 12) (x := (mA M 14 o)) rfl rfl rfl ((kA hM rfl ho).trans (congrFun (Fr.f14 (Fr.refl _)) _)) ?_
      refine x_icmp (a' := 19) (pc' := 15) (z := decide ((mA M 14 o) < p)) rfl rfl rfl rfl (fun q6 => ?_) (fun q6 => ?_)
      · refine x_iconst (pc' := 20) rfl rfl ?_
        refine x_goto (pc' := 36) rfl rfl ?_
        refine x_retz (z := false) rfl rfl ?_
        refine sK_i (pc' := 80) rfl ?_
        refine x_if (a' := 84) (pc' := 83) (z := false) rfl rfl rfl (by decide) (fun h => by cases h) (fun _ => ?_)
        refine x_ret rfl ?_
        exact k3 (of_decide_eq_false q1) q2 (of_decide_eq_true q6)
      · refine x_iconst (pc' := 16) rfl rfl ?_
        refine x_goto (pc' := 36) rfl rfl ?_
        refine x_retz (z := true) rfl rfl ?_
        refine sK_i (pc' := 80) rfl ?_
        refine x_if (a' := 84) (pc' := 83) (z := true) rfl rfl rfl (by decide) (fun _ => ?_) (fun h => by cases h)
        refine x_aload_n (pc' := 85) rfl rfl rfl rfl rfl ?_
        refine x_aload_n (pc' := 86) rfl rfl rfl rfl rfl ?_
        refine x_iload_n (pc' := 87) rfl rfl rfl ?_
        refine x_cv (ls0 := [_, _, _, sJk, sJk]) (rest := []) rfl rfl rfl rfl rfl ?_
        exact k4 (of_decide_eq_false q1) q2 (of_decide_eq_false q6)
set_option maxHeartbeats 4000000 in
set_option maxRecDepth 10000 in
theorem n56_90 {t : sT} {Q : sRs → sT → Prop} {M : sM} {n : Nat} {T : Nat} {L0 : List Nat} {A : Nat} {B : Nat} {o : Nat} {k : Nat} {y0 : sV} {y1 : sV} {y2 : sV} {w : Int32} {p : Int32}
    (hW : Wc t M n T L0 A B)
    (ho : o < n)
    (hk : k < 1000)
    (k0 : X 59 0 [.inr (.inr (6, (some 0))), .inr (.inr (7, (some (oM M o)))), sJk, sJk] [] t (sK 59 56 95 [.inr (.inr (6, (some 0))), .inr (.inr (8, (some o))), .inl (io k), .inl w, .inl p, y2] [] Q)) :
    X 56 90 [.inr (.inr (6, (some 0))), .inr (.inr (8, (some o))), .inl (io k), .inl w, .inl p, y2] [] t Q := by
  obtain ⟨hM, hc, hR, hC, hL, hL9⟩ := hW
  refine x_aload_n (pc' := 91) rfl rfl rfl rfl rfl ?_
  refine x_aload_n (pc' := 92) rfl rfl rfl rfl rfl ?_
  refine x_gR (pc' := 95) (r := (some (oM M o))) rfl rfl rfl (Sf_513f hc (Fr.refl _) ho) ?_
  refine x_cv (ls0 := [_, _, sJk, sJk]) (rest := []) rfl rfl rfl rfl rfl ?_
  exact k0
set_option maxHeartbeats 4000000 in
set_option maxRecDepth 10000 in
theorem n56_98 {t : sT} {Q : sRs → sT → Prop} {M : sM} {n : Nat} {T : Nat} {L0 : List Nat} {A : Nat} {B : Nat} {o : Nat} {k : Nat} {y0 : sV} {y1 : sV} {y2 : sV} {w : Int32} {p : Int32} {z : Bool}
    (hW : Wc t M n T L0 A B)
    (ho : o < n)
    (hk : k < 1000)
    (k0 : z = false → X 60 0 [.inr (.inr (6, (some 0))), .inr (.inr (8, (some o))), .inl w, .inl p, sJk, sJk, sJk] [] t (sK 60 56 109 [.inr (.inr (6, (some 0))), .inr (.inr (8, (some o))), .inl (io k), .inl w, .inl p, y2] [] Q))
    (k1 : z = true → X 56 2 [.inr (.inr (6, (some 0))), .inr (.inr (8, (some o))), .inl (io (k + 1)), .inl w, .inl p, y2] [] t Q) :
    X 56 98 [.inr (.inr (6, (some 0))), .inr (.inr (8, (some o))), .inl (io k), .inl w, .inl p, y2] [.inl (bz z)] t Q := by
  obtain ⟨hM, hc, hR, hC, hL, hL9⟩ := hW
  refine x_ifeq_z (a' := 104) (pc' := 101) (z := z) rfl rfl rfl (fun q1 => ?_) (fun q1 => ?_)
  · refine x_aload_n (pc' := 105) rfl rfl rfl rfl rfl ?_
    refine x_aload_n (pc' := 106) rfl rfl rfl rfl rfl ?_
    refine x_iload_n (pc' := 107) rfl rfl rfl ?_
    refine x_iload (pc' := 109) rfl rfl rfl ?_
    refine x_cv (ls0 := [_, _, _, _, sJk, sJk, sJk]) (rest := []) rfl rfl rfl rfl rfl ?_
    exact k0 q1
  · refine x_goto (pc' := 155) rfl rfl ?_
    refine x_iinc (pc' := 158) (y := (io (k + 1))) (ls' := [_, _, _, _, _, _]) rfl rfl rfl (io_add k 1) rfl ?_
    refine x_goto (pc' := 2) rfl rfl ?_
    exact k1 q1
set_option maxHeartbeats 4000000 in
set_option maxRecDepth 10000 in
theorem n56_112 {t : sT} {Q : sRs → sT → Prop} {M : sM} {n : Nat} {T : Nat} {L0 : List Nat} {A : Nat} {B : Nat} {o : Nat} {k : Nat} {y0 : sV} {y1 : sV} {y2 : sV} {w : Int32} {p : Int32}
    (hW : Wc t M n T L0 A B)
    (ho : o < n)
    (hk : k < 1000)
    (k0 : X 62 0 [.inr (.inr (6, (some 0))), sJk, sJk, sJk, sJk] [] t (sK 62 56 113 [.inr (.inr (6, (some 0))), .inr (.inr (8, (some o))), .inl (io k), .inl w, .inl p, y2] [] Q)) :
    X 56 112 [.inr (.inr (6, (some 0))), .inr (.inr (8, (some o))), .inl (io k), .inl w, .inl p, y2] [] t Q := by
  obtain ⟨hM, hc, hR, hC, hL, hL9⟩ := hW
  refine x_aload_n (pc' := 113) rfl rfl rfl rfl rfl ?_
  refine x_cv (ls0 := [_, sJk, sJk, sJk, sJk]) (rest := []) rfl rfl rfl rfl rfl ?_
  exact k0
set_option maxHeartbeats 4000000 in
set_option maxRecDepth 10000 in
theorem n56_116n {t : sT} {Q : sRs → sT → Prop} {M : sM} {n : Nat} {T : Nat} {L0 : List Nat} {A : Nat} {B : Nat} {o : Nat} {k : Nat} {y0 : sV} {y1 : sV} {y2 : sV} {w : Int32} {p : Int32}
    (hW : Wc t M n T L0 A B)
    (ho : o < n)
    (hk : k < 1000)
    (k0 : ¬ (w = 0) → X 67 0 [.inr (.inr (6, (some 0))), .inr (.inr (8, (some o))), .inl p, sJk, sJk, sJk, sJk, sJk, sJk, sJk] [] t (sK 67 56 152 [.inr (.inr (6, (some 0))), .inr (.inr (8, (some o))), .inl (io k), .inl w, .inl p, .inr (.inr (2, none))] [] Q))
    (k1 : w = 0 → X 64 0 [.inr (.inr (6, (some 0))), .inr (.inr (8, (some o))), .inl p, sJk, sJk, sJk, sJk, sJk] [] t (sK 64 56 142 [.inr (.inr (6, (some 0))), .inr (.inr (8, (some o))), .inl (io k), .inl w, .inl p, .inr (.inr (2, none))] [] Q)) :
    X 56 116 [.inr (.inr (6, (some 0))), .inr (.inr (8, (some o))), .inl (io k), .inl w, .inl p, y2] [.inr (.inr (2, none))] t Q := by
  obtain ⟨hM, hc, hR, hC, hL, hL9⟩ := hW
  refine x_astore (pc' := 118) (ls' := [_, _, _, _, _, _]) rfl rfl rfl rfl rfl ?_
  refine x_aload (pc' := 120) rfl rfl rfl rfl rfl ?_
  refine x_ifnull (a' := 134) (pc' := 123) rfl rfl rfl rfl (fun _ => ?_) (fun i h => by cases h)
  refine x_iload_n (pc' := 135) rfl rfl rfl ?_
  refine x_if_n (a' := 148) (pc' := 138) (z := decide (w = 0)) rfl rfl rfl (ik_ne _ _) (fun q2 => ?_) (fun q2 => ?_)
  · refine x_aload_n (pc' := 149) rfl rfl rfl rfl rfl ?_
    refine x_aload_n (pc' := 150) rfl rfl rfl rfl rfl ?_
    refine x_iload (pc' := 152) rfl rfl rfl ?_
    refine x_cv (ls0 := [_, _, _, sJk, sJk, sJk, sJk, sJk, sJk, sJk]) (rest := []) rfl rfl rfl rfl rfl ?_
    exact k0 (of_decide_eq_false q2)
  · refine x_aload_n (pc' := 139) rfl rfl rfl rfl rfl ?_
    refine x_aload_n (pc' := 140) rfl rfl rfl rfl rfl ?_
    refine x_iload (pc' := 142) rfl rfl rfl ?_
    refine x_cv (ls0 := [_, _, _, sJk, sJk, sJk, sJk, sJk]) (rest := []) rfl rfl rfl rfl rfl ?_
    exact k1 (of_decide_eq_true q2)
set_option maxHeartbeats 4000000 in
set_option maxRecDepth 10000 in
theorem n56_116s {t : sT} {Q : sRs → sT → Prop} {M : sM} {n : Nat} {T : Nat} {L0 : List Nat} {A : Nat} {B : Nat} {o : Nat} {k : Nat} {y0 : sV} {y1 : sV} {y2 : sV} {w : Int32} {p : Int32} {c : Nat}
    (hW : Wc t M n T L0 A B)
    (ho : o < n)
    (hk : k < 1000)
    (k0 : X 63 0 [.inr (.inr (6, (some 0))), .inr (.inr (2, (some c))), .inr (.inr (8, (some o))), sJk, sJk] [] t (sK 63 56 127 [.inr (.inr (6, (some 0))), .inr (.inr (8, (some o))), .inl (io k), .inl w, .inl p, .inr (.inr (2, (some c)))] [] Q)) :
    X 56 116 [.inr (.inr (6, (some 0))), .inr (.inr (8, (some o))), .inl (io k), .inl w, .inl p, y2] [.inr (.inr (2, (some c)))] t Q := by
  obtain ⟨hM, hc, hR, hC, hL, hL9⟩ := hW
  refine x_astore (pc' := 118) (ls' := [_, _, _, _, _, _]) rfl rfl rfl rfl rfl ?_
  refine x_aload (pc' := 120) rfl rfl rfl rfl rfl ?_
  refine x_ifnull (a' := 134) (pc' := 123) rfl rfl rfl rfl (fun h => by cases h) (fun _ _ => ?_)
  refine x_aload_n (pc' := 124) rfl rfl rfl rfl rfl ?_
  refine x_aload (pc' := 126) rfl rfl rfl rfl rfl ?_
  refine x_aload_n (pc' := 127) rfl rfl rfl rfl rfl ?_
  refine x_cv (ls0 := [_, _, _, sJk, sJk]) (rest := []) rfl rfl rfl rfl rfl ?_
  exact k0
set_option maxHeartbeats 4000000 in
set_option maxRecDepth 10000 in
theorem n56_130 {t : sT} {Q : sRs → sT → Prop} {M : sM} {n : Nat} {T : Nat} {L0 : List Nat} {A : Nat} {B : Nat} {o : Nat} {k : Nat} {y0 : sV} {y1 : sV} {y2 : sV} {w : Int32} {p : Int32} {z : Bool}
    (hW : Wc t M n T L0 A B)
    (ho : o < n)
    (hk : k < 1000)
    (k0 : z = false → X 56 2 [.inr (.inr (6, (some 0))), .inr (.inr (8, (some o))), .inl (io (k + 1)), .inl w, .inl p, y2] [] t Q)
    (k1 : z = true → Q (.inl none) t) :
    X 56 130 [.inr (.inr (6, (some 0))), .inr (.inr (8, (some o))), .inl (io k), .inl w, .inl p, y2] [.inl (bz z)] t Q := by
  obtain ⟨hM, hc, hR, hC, hL, hL9⟩ := hW
  refine x_ifeq_z (a' := 155) (pc' := 133) (z := z) rfl rfl rfl (fun q1 => ?_) (fun q1 => ?_)
  · refine x_iinc (pc' := 158) (y := (io (k + 1))) (ls' := [_, _, _, _, _, _]) rfl rfl rfl (io_add k 1) rfl ?_
    refine x_goto (pc' := 2) rfl rfl ?_
    exact k0 q1
  · refine x_ret rfl ?_
    exact k1 q1
set_option maxHeartbeats 4000000 in
set_option maxRecDepth 10000 in
theorem n56_145 {t : sT} {Q : sRs → sT → Prop} {M : sM} {n : Nat} {T : Nat} {L0 : List Nat} {A : Nat} {B : Nat} {o : Nat} {k : Nat} {y0 : sV} {y1 : sV} {y2 : sV} {w : Int32} {p : Int32}
    (hW : Wc t M n T L0 A B)
    (ho : o < n)
    (hk : k < 1000)
    (k0 : X 56 2 [.inr (.inr (6, (some 0))), .inr (.inr (8, (some o))), .inl (io (k + 1)), .inl w, .inl p, y2] [] t Q) :
    X 56 145 [.inr (.inr (6, (some 0))), .inr (.inr (8, (some o))), .inl (io k), .inl w, .inl p, y2] [] t Q := by
  obtain ⟨hM, hc, hR, hC, hL, hL9⟩ := hW
  refine x_goto (pc' := 155) rfl rfl ?_
  refine x_iinc (pc' := 158) (y := (io (k + 1))) (ls' := [_, _, _, _, _, _]) rfl rfl rfl (io_add k 1) rfl ?_
  refine x_goto (pc' := 2) rfl rfl ?_
  exact k0
set_option maxHeartbeats 4000000 in
set_option maxRecDepth 10000 in
theorem n56_155 {t : sT} {Q : sRs → sT → Prop} {M : sM} {n : Nat} {T : Nat} {L0 : List Nat} {A : Nat} {B : Nat} {o : Nat} {k : Nat} {y0 : sV} {y1 : sV} {y2 : sV} {w : Int32} {p : Int32}
    (hW : Wc t M n T L0 A B)
    (ho : o < n)
    (hk : k < 1000)
    (k0 : X 56 2 [.inr (.inr (6, (some 0))), .inr (.inr (8, (some o))), .inl (io (k + 1)), .inl w, .inl p, y2] [] t Q) :
    X 56 155 [.inr (.inr (6, (some 0))), .inr (.inr (8, (some o))), .inl (io k), .inl w, .inl p, y2] [] t Q := by
  obtain ⟨hM, hc, hR, hC, hL, hL9⟩ := hW
  refine x_iinc (pc' := 158) (y := (io (k + 1))) (ls' := [_, _, _, _, _, _]) rfl rfl rfl (io_add k 1) rfl ?_
  refine x_goto (pc' := 2) rfl rfl ?_
  exact k0
set_option maxHeartbeats 4000000 in
set_option maxRecDepth 10000 in
theorem n141_0 {t : sT} {Q : sRs → sT → Prop} {M : sM} {n : Nat} {T : Nat} {L0 : List Nat} {A : Nat} {B : Nat}
    (hW : Wc t M n T L0 A B)
    (k0 : X 141 13 [.inr (.inr (11, (some 0))), .inr (.inr (26, (some 0))), .inl 6, .inl 0, sJk] [] t Q) :
    X 141 0 [.inr (.inr (11, (some 0))), sJk, sJk, sJk, sJk] [] t Q := by
  obtain ⟨hM, hc, hR, hC, hL, hL9⟩ := hW
  refine x_aload_n (pc' := 1) rfl rfl rfl rfl rfl ?_
  refine x_gR (pc' := 4) (r := (some 0)) rfl rfl rfl (kR_704_0 hc.1) ?_
  refine x_gR (pc' := 7) (r := (some 0)) rfl rfl rfl (kR_321_0 hc.1) ?_
  refine x_astore_n (pc' := 8) (ls' := [_, _, _, _, _]) rfl rfl rfl rfl rfl ?_
  refine x_aload_n (pc' := 9) rfl rfl rfl rfl rfl ?_
  refine x_alen (pc' := 10) (N := 6) rfl rfl rfl (kN_26_0 hc.1) (?_ : X _ _ _ (.inl 6 :: _) _ _)
  refine x_istore_n (pc' := 11) (ls' := [_, _, _, _, _]) rfl rfl rfl rfl ?_
  refine x_iconst (pc' := 12) rfl rfl ?_
  refine x_istore_n (pc' := 13) (ls' := [_, _, _, _, _]) rfl rfl rfl rfl ?_
  exact k0
set_option maxHeartbeats 4000000 in
set_option maxRecDepth 10000 in
theorem n141_k {t : sT} {Q : sRs → sT → Prop} {M : sM} {n : Nat} {T : Nat} {L0 : List Nat} {A : Nat} {B : Nat} {k : Nat} {y0 : sV}
    (hW : Wc t M n T L0 A B)
    (hk : k < 6)
    (k0 : ¬ (0 < (mA M 8 k)) → X 141 13 [.inr (.inr (11, (some 0))), .inr (.inr (26, (some 0))), .inl 6, .inl (io (k + 1)), .inr (.inr (7, (some k)))] [] t Q)
    (k1 : 0 < (mA M 8 k) → ¬ ((mA M 8 k) < (mA M 26 k)) → X 141 13 [.inr (.inr (11, (some 0))), .inr (.inr (26, (some 0))), .inl 6, .inl (io (k + 1)), .inr (.inr (7, (some k)))] [] t Q)
    (k2 : 0 < (mA M 8 k) → (mA M 8 k) < (mA M 26 k) → X 32 0 [.inr (.inr (4, (some 0))), .inr (.inr (7, (some k))), .inr (.inr (1, none)), sJk, sJk, sJk] [] t (sK 32 141 51 [.inr (.inr (11, (some 0))), .inr (.inr (26, (some 0))), .inl 6, .inl (io k), .inr (.inr (7, (some k)))] [] Q)) :
    X 141 13 [.inr (.inr (11, (some 0))), .inr (.inr (26, (some 0))), .inl 6, .inl (io k), y0] [] t Q := by
  obtain ⟨hM, hc, hR, hC, hL, hL9⟩ := hW
  refine x_iload_n (pc' := 14) rfl rfl rfl ?_
  refine x_iload_n (pc' := 15) rfl rfl rfl ?_
  refine x_icmp_n (a' := 60) (pc' := 18) (z := decide (k < 6)) rfl rfl rfl (ic_gen (p := k) (q := 6) (gm31 hk) (by decide)) (fun h => absurd hk (of_decide_eq_false h)) (fun _ => ?_)
  refine x_aload_n (pc' := 19) rfl rfl rfl rfl rfl ?_
  refine x_iload_n (pc' := 20) rfl rfl rfl ?_
  refine x_aald (pc' := 21) (N := 6) (k' := 7) (r := (some k)) rfl rfl rfl (kN_26_0 hc.1) (io_in (p := k) (N := 6) hk (by decide)) (Eq.trans (congrArg (sE t 26 0) (nn_io (p := k) (Nat.lt_trans hk (by decide)))) (kM hc.1 hk)) ?_
  refine x_astore (pc' := 23) (ls' := [_, _, _, _, _]) rfl rfl rfl rfl rfl ?_
  refine x_aload (pc' := 25) rfl rfl rfl rfl rfl ?_
  refine x_gI (pc' := 28) (x := (mA M 8 k)) rfl rfl rfl (kA hM rfl hk) ?_
  refine x_if_n (a' := 54) (pc' := 31) (z := decide (0 < (mA M 8 k))) rfl rfl rfl (ik_le _ _) (fun q2 => ?_) (fun q2 => ?_)
  · refine x_iinc (pc' := 57) (y := (io (k + 1))) (ls' := [_, _, _, _, _]) rfl rfl rfl (io_add k 1) rfl ?_
    refine x_goto (pc' := 13) rfl rfl ?_
    exact k0 (of_decide_eq_false q2)
  · refine x_aload (pc' := 33) rfl rfl rfl rfl rfl ?_
    refine x_gI (pc' := 36) (x := (mA M 26 k)) rfl rfl rfl (kA hM rfl hk) ?_
    refine x_aload (pc' := 38) rfl rfl rfl rfl rfl ?_
    refine x_gI (pc' := 41) (x := (mA M 8 k)) rfl rfl rfl (kA hM rfl hk) ?_
    refine x_icmp_n (a' := 54) (pc' := 44) (z := decide ((mA M 8 k) < (mA M 26 k))) rfl rfl rfl (ik_le _ _) (fun q3 => ?_) (fun q3 => ?_)
    · refine x_iinc (pc' := 57) (y := (io (k + 1))) (ls' := [_, _, _, _, _]) rfl rfl rfl (io_add k 1) rfl ?_
      refine x_goto (pc' := 13) rfl rfl ?_
      exact k1 (of_decide_eq_true q2) (of_decide_eq_false q3)
    · refine x_aload_n (pc' := 45) rfl rfl rfl rfl rfl ?_
      refine x_gR (pc' := 48) (r := (some 0)) rfl rfl rfl (kR_705_0 hc.1) ?_
      refine x_aload (pc' := 50) rfl rfl rfl rfl rfl ?_
      refine x_null (pc' := 51) rfl rfl rfl ?_
      refine x_cv (ls0 := [_, _, _, sJk, sJk, sJk]) (rest := []) rfl rfl rfl rfl rfl ?_
      exact k2 (of_decide_eq_true q2) (of_decide_eq_true q3)
set_option maxHeartbeats 4000000 in
set_option maxRecDepth 10000 in
theorem n141_54 {t : sT} {Q : sRs → sT → Prop} {M : sM} {n : Nat} {T : Nat} {L0 : List Nat} {A : Nat} {B : Nat} {k : Nat} {y0 : sV}
    (hW : Wc t M n T L0 A B)
    (hk : k < 6)
    (k0 : X 141 13 [.inr (.inr (11, (some 0))), .inr (.inr (26, (some 0))), .inl 6, .inl (io (k + 1)), y0] [] t Q) :
    X 141 54 [.inr (.inr (11, (some 0))), .inr (.inr (26, (some 0))), .inl 6, .inl (io k), y0] [] t Q := by
  obtain ⟨hM, hc, hR, hC, hL, hL9⟩ := hW
  refine x_iinc (pc' := 57) (y := (io (k + 1))) (ls' := [_, _, _, _, _]) rfl rfl rfl (io_add k 1) rfl ?_
  refine x_goto (pc' := 13) rfl rfl ?_
  exact k0
set_option maxHeartbeats 4000000 in
set_option maxRecDepth 10000 in
theorem n141_e {t : sT} {Q : sRs → sT → Prop} {M : sM} {n : Nat} {T : Nat} {L0 : List Nat} {A : Nat} {B : Nat} {y0 : sV}
    (hW : Wc t M n T L0 A B)
    (k0 : Q (.inl none) t) :
    X 141 13 [.inr (.inr (11, (some 0))), .inr (.inr (26, (some 0))), .inl 6, .inl 6, y0] [] t Q := by
  obtain ⟨hM, hc, hR, hC, hL, hL9⟩ := hW
  refine x_iload_n (pc' := 14) rfl rfl rfl ?_
  refine x_iload_n (pc' := 15) rfl rfl rfl ?_
  refine x_icmp (a' := 60) (pc' := 18) (z := true) rfl rfl rfl (by decide) (fun _ => ?_) (fun h => by cases h)
  refine x_ret rfl ?_
  exact k0
set_option maxHeartbeats 4000000 in
set_option maxRecDepth 10000 in
theorem n140_0 {t : sT} {Q : sRs → sT → Prop} {M : sM} {n : Nat} {T : Nat} {L0 : List Nat} {A : Nat} {B : Nat} {f : Option Nat}
    (hW : Wc t M n T L0 A B)
    (k0 : X 140 4 [.inr (.inr (11, (some 0))), .inr (.inr (8, f)), .inr (.inr (8, f)), .inl 0] [] t Q) :
    X 140 0 [.inr (.inr (11, (some 0))), .inr (.inr (8, f)), sJk, sJk] [] t Q := by
  obtain ⟨hM, hc, hR, hC, hL, hL9⟩ := hW
  refine x_aload_n (pc' := 1) rfl rfl rfl rfl rfl ?_
  refine x_astore_n (pc' := 2) (ls' := [_, _, _, _]) rfl rfl rfl rfl rfl ?_
  refine x_iconst (pc' := 3) rfl rfl ?_
  refine x_istore_n (pc' := 4) (ls' := [_, _, _, _]) rfl rfl rfl rfl ?_
  exact k0
set_option maxHeartbeats 4000000 in
set_option maxRecDepth 10000 in
theorem n140_n {t : sT} {Q : sRs → sT → Prop} {M : sM} {n : Nat} {T : Nat} {L0 : List Nat} {A : Nat} {B : Nat} {f : Option Nat} {y0 : sV}
    (hW : Wc t M n T L0 A B)
    (k0 : Q (.inl none) t) :
    X 140 4 [.inr (.inr (11, (some 0))), .inr (.inr (8, f)), .inr (.inr (8, none)), y0] [] t Q := by
  obtain ⟨hM, hc, hR, hC, hL, hL9⟩ := hW
  refine x_aload_n (pc' := 5) rfl rfl rfl rfl rfl ?_
  refine x_ifnull (a' := 65) (pc' := 8) rfl rfl rfl rfl (fun _ => ?_) (fun i h => by cases h)
  refine x_ret rfl ?_
  exact k0
set_option maxHeartbeats 4000000 in
set_option maxRecDepth 10000 in
theorem n140_k {t : sT} {Q : sRs → sT → Prop} {M : sM} {n : Nat} {T : Nat} {L0 : List Nat} {A : Nat} {B : Nat} {f : Option Nat} {o : Nat} {k : Nat}
    (hW : Wc t M n T L0 A B)
    (ho : o < n)
    (hk : k ≤ 200)
    (k0 : ¬ ((mA M 0 (oB M o)) = 2) → X 29 0 [.inr (.inr (4, (some 0))), .inr (.inr (8, (some o)))] [] (sIw t 522 o 4) (sK 29 140 44 [.inr (.inr (11, (some 0))), .inr (.inr (8, f)), .inr (.inr (8, (some o))), .inl (io k)] [] Q))
    (k1 : (mA M 0 (oB M o)) = 2 → X 56 0 [.inr (.inr (6, (some 0))), .inr (.inr (8, (some o))), sJk, sJk, sJk, sJk] [] (sIw t 522 o 4) (sK 56 140 36 [.inr (.inr (11, (some 0))), .inr (.inr (8, f)), .inr (.inr (8, (some o))), .inl (io k)] [] Q)) :
    X 140 4 [.inr (.inr (11, (some 0))), .inr (.inr (8, f)), .inr (.inr (8, (some o))), .inl (io k)] [] t Q := by
  obtain ⟨hM, hc, hR, hC, hL, hL9⟩ := hW
  refine x_aload_n (pc' := 5) rfl rfl rfl rfl rfl ?_
  refine x_ifnull (a' := 65) (pc' := 8) rfl rfl rfl rfl (fun h => by cases h) (fun _ _ => ?_)
  refine x_iload_n (pc' := 9) rfl rfl rfl ?_
  refine x_sipush (pc' := 12) rfl rfl ?_
  refine x_icmp (a' := 65) (pc' := 15) (z := decide (200 < k)) rfl rfl rfl (ic_gt (p := k) (q := 200) (Nat.lt_of_le_of_lt hk (by decide)) (by decide)) (fun h => absurd (of_decide_eq_true h) (Nat.not_lt.mpr hk)) (fun _ => ?_)
  refine x_aload_n (pc' := 16) rfl rfl rfl rfl rfl ?_
  refine x_iconst (pc' := 17) rfl rfl ?_
  refine x_pI (pc' := 20) rfl rfl rfl ?_
  refine x_aload_n (pc' := 21) rfl rfl rfl rfl rfl ?_
  refine x_gR (pc' := 24) (r := (some (oB M o))) rfl rfl rfl (Eq.trans (b := sR t 514 o) rfl (Sf_514f hc (Fr.refl _) ho)) ?_
  refine x_gI (pc' := 27) (x := (mA M 0 (oB M o))) rfl rfl rfl (Eq.trans (b := sI t 67 (oB M o)) rfl (kA hM rfl (gb5 hR ho))) ?_
  refine x_iconst (pc' := 28) rfl rfl ?_
  refine x_icmp_n (a' := 39) (pc' := 31) (z := decide ((mA M 0 (oB M o)) = 2)) rfl rfl rfl (ik_ne _ _) (fun q3 => ?_) (fun q3 => ?_)
  · refine x_aload_n (pc' := 40) rfl rfl rfl rfl rfl ?_
    refine x_gR (pc' := 43) (r := (some 0)) rfl rfl rfl (Eq.trans (b := sR t 705 0) rfl (kR_705_0 hc.1)) ?_
    refine x_aload_n (pc' := 44) rfl rfl rfl rfl rfl ?_
    refine x_cv (ls0 := [_, _]) (rest := []) rfl rfl rfl rfl rfl ?_
    exact k0 (of_decide_eq_false q3)
  · refine x_aload_n (pc' := 32) rfl rfl rfl rfl rfl ?_
    refine x_gR (pc' := 35) (r := (some 0)) rfl rfl rfl (Eq.trans (b := sR t 707 0) rfl (kR_707_0 hc.1)) ?_
    refine x_aload_n (pc' := 36) rfl rfl rfl rfl rfl ?_
    refine x_cv (ls0 := [_, _, sJk, sJk, sJk, sJk]) (rest := []) rfl rfl rfl rfl rfl ?_
    exact k1 (of_decide_eq_true q3)
set_option maxHeartbeats 4000000 in
set_option maxRecDepth 10000 in
theorem n140_39 {t : sT} {Q : sRs → sT → Prop} {M : sM} {n : Nat} {T : Nat} {L0 : List Nat} {A : Nat} {B : Nat} {f : Option Nat} {o : Nat} {k : Nat}
    (hW : Wc t M n T L0 A B)
    (ho : o < n)
    (hk : k ≤ 200)
    (k0 : X 29 0 [.inr (.inr (4, (some 0))), .inr (.inr (8, (some o)))] [] t (sK 29 140 44 [.inr (.inr (11, (some 0))), .inr (.inr (8, f)), .inr (.inr (8, (some o))), .inl (io k)] [] Q)) :
    X 140 39 [.inr (.inr (11, (some 0))), .inr (.inr (8, f)), .inr (.inr (8, (some o))), .inl (io k)] [] t Q := by
  obtain ⟨hM, hc, hR, hC, hL, hL9⟩ := hW
  refine x_aload_n (pc' := 40) rfl rfl rfl rfl rfl ?_
  refine x_gR (pc' := 43) (r := (some 0)) rfl rfl rfl (kR_705_0 hc.1) ?_
  refine x_aload_n (pc' := 44) rfl rfl rfl rfl rfl ?_
  refine x_cv (ls0 := [_, _]) (rest := []) rfl rfl rfl rfl rfl ?_
  exact k0
set_option maxHeartbeats 4000000 in
set_option maxRecDepth 10000 in
theorem n140_47 {t : sT} {Q : sRs → sT → Prop} {M : sM} {n : Nat} {T : Nat} {L0 : List Nat} {A : Nat} {B : Nat} {f : Option Nat} {o : Nat} {k : Nat}
    (hW : Wc t M n T L0 A B)
    (ho : o < n)
    (hk : k ≤ 200)
    (k0 : X 141 0 [.inr (.inr (11, (some 0))), sJk, sJk, sJk, sJk] [] t (sK 141 140 48 [.inr (.inr (11, (some 0))), .inr (.inr (8, f)), .inr (.inr (8, (some o))), .inl (io k)] [] Q)) :
    X 140 47 [.inr (.inr (11, (some 0))), .inr (.inr (8, f)), .inr (.inr (8, (some o))), .inl (io k)] [] t Q := by
  obtain ⟨hM, hc, hR, hC, hL, hL9⟩ := hW
  refine x_aload_n (pc' := 48) rfl rfl rfl rfl rfl ?_
  refine x_cv (ls0 := [_, sJk, sJk, sJk, sJk]) (rest := []) rfl rfl rfl rfl rfl ?_
  exact k0
set_option maxHeartbeats 4000000 in
set_option maxRecDepth 10000 in
theorem n140_51 {t : sT} {Q : sRs → sT → Prop} {M : sM} {n : Nat} {T : Nat} {L0 : List Nat} {A : Nat} {B : Nat} {f : Option Nat} {o : Nat} {k : Nat}
    (hW : Wc t M n T L0 A B)
    (ho : o < n)
    (hk : k ≤ 200)
    (k0 : X 37 0 [.inr (.inr (4, (some 0))), sJk, sJk] [] t (sK 37 140 55 [.inr (.inr (11, (some 0))), .inr (.inr (8, f)), .inr (.inr (8, (some o))), .inl (io k)] [] Q)) :
    X 140 51 [.inr (.inr (11, (some 0))), .inr (.inr (8, f)), .inr (.inr (8, (some o))), .inl (io k)] [] t Q := by
  obtain ⟨hM, hc, hR, hC, hL, hL9⟩ := hW
  refine x_aload_n (pc' := 52) rfl rfl rfl rfl rfl ?_
  refine x_gR (pc' := 55) (r := (some 0)) rfl rfl rfl (kR_705_0 hc.1) ?_
  refine x_cv (ls0 := [_, sJk, sJk]) (rest := []) rfl rfl rfl rfl rfl ?_
  exact k0
set_option maxHeartbeats 4000000 in
set_option maxRecDepth 10000 in
theorem n140_58 {t : sT} {Q : sRs → sT → Prop} {M : sM} {n : Nat} {T : Nat} {L0 : List Nat} {A : Nat} {B : Nat} {f : Option Nat} {o : Nat} {k : Nat} {g : Option Nat}
    (hW : Wc t M n T L0 A B)
    (ho : o < n)
    (hk : k ≤ 200)
    (k0 : X 140 4 [.inr (.inr (11, (some 0))), .inr (.inr (8, f)), .inr (.inr (8, g)), .inl (io (k + 1))] [] t Q) :
    X 140 58 [.inr (.inr (11, (some 0))), .inr (.inr (8, f)), .inr (.inr (8, (some o))), .inl (io k)] [.inr (.inr (8, g))] t Q := by
  obtain ⟨hM, hc, hR, hC, hL, hL9⟩ := hW
  refine x_astore_n (pc' := 59) (ls' := [_, _, _, _]) rfl rfl rfl rfl rfl ?_
  refine x_iinc (pc' := 62) (y := (io (k + 1))) (ls' := [_, _, _, _]) rfl rfl rfl (io_add k 1) rfl ?_
  refine x_goto (pc' := 4) rfl rfl ?_
  exact k0
