/-! fail, in pieces (printed by ext99x.py; begun) -/
set_option maxHeartbeats 4000000 in
set_option maxRecDepth 10000 in
theorem n101 {t : sT} {Q : sRs → sT → Prop} {M : sM} {n : Nat} {T : Nat} {L0 : List Nat} {A : Nat} {B : Nat} {m : Nat}
    (hW : Wc t M n T L0 A B)
    (hm : m < 6)
    (k0 : (mB M 2 m) = true → Q (.inr 2) (sThr t))
    (k1 : (mB M 2 m) = false → ¬ ((cfdF M n m) < (cmgF M n m)) → Q (.inr 2) (sThr t))
    (k2 : (mB M 2 m) = false → (cfdF M n m) < (cmgF M n m) → X 31 0 [.inr (.inr (4, (some 0))), .inr (.inr (7, (some m))), sJk, sJk] [] t (sK 31 101 46 [.inr (.inr (11, (some 0))), .inl (io m), .inr (.inr (7, (some m))), sJk] [] Q)) :
    X 101 0 [.inr (.inr (11, (some 0))), .inl (io m), sJk, sJk] [] t Q := by
  obtain ⟨hM, hc, hR, hC, hL, hL9⟩ := hW
  refine x_aload_n (pc' := 1) rfl rfl rfl rfl rfl ?_
  refine x_iload_n (pc' := 2) rfl rfl rfl ?_
  refine x_cv (ls0 := [_, _]) (rest := []) rfl rfl rfl rfl rfl ?_
  refine x_iload_n (pc' := 1) rfl rfl rfl ?_
  refine x_if (a' := 16) (pc' := 4) (z := decide (m < 0)) rfl rfl rfl (ic_lt (p := m) (q := 0) (gm31 hm) (by decide)) (fun h => absurd (of_decide_eq_true h) (by first | decide | omega | simp)) (fun _ => ?_)
  refine x_iload_n (pc' := 5) rfl rfl rfl ?_
  refine x_aload_n (pc' := 6) rfl rfl rfl rfl rfl ?_
  refine x_gR (pc' := 9) (r := (some 0)) rfl rfl rfl (kR_704_0 hc.1) ?_
  refine x_gR (pc' := 12) (r := (some 0)) rfl rfl rfl (kR_321_0 hc.1) ?_
  refine x_alen (pc' := 13) (N := 6) rfl rfl rfl (kN_26_0 hc.1) (?_ : X _ _ _ (.inl 6 :: _) _ _)
  refine x_icmp (a' := 27) (pc' := 16) (z := decide (m < 6)) rfl rfl rfl (ic_lt (p := m) (q := 6) (gm31 hm) (by decide)) (fun _ => ?_) (fun h => absurd hm (of_decide_eq_false h))
  refine x_aload_n (pc' := 28) rfl rfl rfl rfl rfl ?_
  refine x_gR (pc' := 31) (r := (some 0)) rfl rfl rfl (kR_704_0 hc.1) ?_
  refine x_gR (pc' := 34) (r := (some 0)) rfl rfl rfl (kR_321_0 hc.1) ?_
  refine x_iload_n (pc' := 35) rfl rfl rfl ?_
  refine x_aald (pc' := 36) (N := 6) (k' := 7) (r := (some m)) rfl rfl rfl (kN_26_0 hc.1) (io_in (p := m) (N := 6) hm (by decide)) (Eq.trans (congrArg (sE t 26 0) (nn_io (p := m) (Nat.lt_trans hm (by decide)))) (kM hc.1 hm)) ?_
  refine x_reta rfl rfl ?_
  refine sK_i (pc' := 5) rfl ?_
  refine x_astore_n (pc' := 6) (ls' := [_, _, _, _]) rfl rfl rfl rfl rfl ?_
  refine x_aload_n (pc' := 7) rfl rfl rfl rfl rfl ?_
  refine x_gZ (pc' := 10) (z := (mB M 2 m)) rfl rfl rfl (kZ hM rfl hm) ?_
  refine x_ifne_z (a' := 37) (pc' := 13) (z := (mB M 2 m)) rfl rfl rfl (fun q3 => ?_) (fun q3 => ?_)
  · refine x_iconst (pc' := 38) rfl rfl ?_
    refine x_cs (ls0 := [_]) (rest := []) rfl rfl rfl rfl ?_
    refine x_iload_n (pc' := 1) rfl rfl rfl ?_
    refine x_if (a' := 15) (pc' := 4) (z := false) rfl rfl rfl (by decide) (fun h => by cases h) (fun _ => ?_)
    refine x_throw rfl rfl ?_
    refine sK_n (by decide +kernel) rfl ?_
    exact k0 q3
  · refine x_aload_n (pc' := 14) rfl rfl rfl rfl rfl ?_
    refine x_gR (pc' := 17) (r := (some 0)) rfl rfl rfl (kR_704_0 hc.1) ?_
    refine x_aload_n (pc' := 18) rfl rfl rfl rfl rfl ?_
    refine x_cv (ls0 := [_, _, sJk, sJk, sJk, sJk, sJk]) (rest := []) rfl rfl rfl rfl rfl ?_
    refine c49 hM hc (Fr.ri (Fr.refl _) hR) hm ?_
    refine sK_i (pc' := 21) rfl ?_
    refine x_aload_n (pc' := 22) rfl rfl rfl rfl rfl ?_
    refine x_gR (pc' := 25) (r := (some 0)) rfl rfl rfl (kR_704_0 hc.1) ?_
    refine x_aload_n (pc' := 26) rfl rfl rfl rfl rfl ?_
    refine x_null (pc' := 27) rfl rfl rfl ?_
    refine x_cv (ls0 := [_, _, _, sJk, sJk, sJk, sJk, sJk, sJk, sJk, sJk]) (rest := [_]) rfl rfl rfl rfl rfl ?_
    refine c50n hM hc (Fr.ri (Fr.refl _) hR) hm ?_
    refine sK_i (pc' := 30) rfl ?_
    refine x_icmp_n (a' := 37) (pc' := 33) (z := decide ((cfdF M n m) < (cmgF M n m))) rfl rfl rfl (ik_ge _ _) (fun q5 => ?_) (fun q5 => ?_)
    · refine x_iconst (pc' := 38) rfl rfl ?_
      refine x_cs (ls0 := [_]) (rest := []) rfl rfl rfl rfl ?_
      refine x_iload_n (pc' := 1) rfl rfl rfl ?_
      refine x_if (a' := 15) (pc' := 4) (z := false) rfl rfl rfl (by decide) (fun h => by cases h) (fun _ => ?_)
      refine x_throw rfl rfl ?_
      refine sK_n (by decide +kernel) rfl ?_
      exact k1 q3 (of_decide_eq_false q5)
    · refine x_iconst (pc' := 34) rfl rfl ?_
      refine x_goto (pc' := 38) rfl rfl ?_
      refine x_cs (ls0 := [_]) (rest := []) rfl rfl rfl rfl ?_
      refine x_iload_n (pc' := 1) rfl rfl rfl ?_
      refine x_if (a' := 15) (pc' := 4) (z := true) rfl rfl rfl (by decide) (fun _ => ?_) (fun h => by cases h)
      refine x_ret rfl ?_
      refine sK_v (pc' := 41) rfl ?_
      refine x_aload_n (pc' := 42) rfl rfl rfl rfl rfl ?_
      refine x_gR (pc' := 45) (r := (some 0)) rfl rfl rfl (kR_705_0 hc.1) ?_
      refine x_aload_n (pc' := 46) rfl rfl rfl rfl rfl ?_
      refine x_cv (ls0 := [_, _, sJk, sJk]) (rest := []) rfl rfl rfl rfl rfl ?_
      exact k2 q3 (of_decide_eq_true q5)
set_option maxHeartbeats 4000000 in
set_option maxRecDepth 10000 in
theorem n101_x0 {t : sT} {Q : sRs → sT → Prop} {M : sM} {n : Nat} {T : Nat} {L0 : List Nat} {A : Nat} {B : Nat} {x : Int32}
    (hW : Wc t M n T L0 A B)
    (hp : ixo x 6 = none)
    (k0 : Q (.inr 0) (sThr t)) :
    X 101 0 [.inr (.inr (11, (some 0))), .inl x, sJk, sJk] [] t Q := by
  obtain ⟨hM, hc, hR, hC, hL, hL9⟩ := hW
  refine x_aload_n (pc' := 1) rfl rfl rfl rfl rfl ?_
  refine x_iload_n (pc' := 2) rfl rfl rfl ?_
  refine x_cv (ls0 := [_, _]) (rest := []) rfl rfl rfl rfl rfl ?_
  refine b131_x ⟨hM, hc, hR, hC, hL, hL9⟩ hp ?_
  refine sK_n (by decide +kernel) rfl ?_
  exact k0
set_option maxHeartbeats 4000000 in
set_option maxRecDepth 10000 in
theorem n101_1 {t : sT} {Q : sRs → sT → Prop} {M : sM} {n : Nat} {T : Nat} {L0 : List Nat} {A : Nat} {B : Nat} {m : Nat}
    (hW : Wc t M n T L0 A B)
    (hm : m < 6)
    (k0 : X 15 0 [.inr (.inr (3, (some 0))), .inr (.inr (7, (some m))), sJk, sJk, sJk, sJk, sJk, sJk] [] t (sK 15 101 54 [.inr (.inr (11, (some 0))), .inl (io m), .inr (.inr (7, (some m))), sJk] [] Q)) :
    X 101 49 [.inr (.inr (11, (some 0))), .inl (io m), .inr (.inr (7, (some m))), sJk] [] t Q := by
  obtain ⟨hM, hc, hR, hC, hL, hL9⟩ := hW
  refine x_aload_n (pc' := 50) rfl rfl rfl rfl rfl ?_
  refine x_gR (pc' := 53) (r := (some 0)) rfl rfl rfl (kR_709_0 hc.1) ?_
  refine x_aload_n (pc' := 54) rfl rfl rfl rfl rfl ?_
  refine x_cv (ls0 := [_, _, sJk, sJk, sJk, sJk, sJk, sJk]) (rest := []) rfl rfl rfl rfl rfl ?_
  exact k0
set_option maxHeartbeats 4000000 in
set_option maxRecDepth 10000 in
theorem n101_2n {t : sT} {Q : sRs → sT → Prop} {M : sM} {n : Nat} {T : Nat} {L0 : List Nat} {A : Nat} {B : Nat} {m : Nat}
    (hW : Wc t M n T L0 A B)
    (hm : m < 6)
    (k0 : X 19 0 [.inr (.inr (3, (some 0))), .inr (.inr (7, (some m))), sJk, sJk, sJk, sJk] [] t (sK 19 101 79 [.inr (.inr (11, (some 0))), .inl (io m), .inr (.inr (7, (some m))), .inr (.inr (7, none))] [] Q)) :
    X 101 57 [.inr (.inr (11, (some 0))), .inl (io m), .inr (.inr (7, (some m))), sJk] [.inr (.inr (7, none))] t Q := by
  obtain ⟨hM, hc, hR, hC, hL, hL9⟩ := hW
  refine x_astore_n (pc' := 58) (ls' := [_, _, _, _]) rfl rfl rfl rfl rfl ?_
  refine x_aload_n (pc' := 59) rfl rfl rfl rfl rfl ?_
  refine x_ifnull (a' := 74) (pc' := 62) rfl rfl rfl rfl (fun _ => ?_) (fun i h => by cases h)
  refine x_aload_n (pc' := 75) rfl rfl rfl rfl rfl ?_
  refine x_gR (pc' := 78) (r := (some 0)) rfl rfl rfl (kR_709_0 hc.1) ?_
  refine x_aload_n (pc' := 79) rfl rfl rfl rfl rfl ?_
  refine x_cv (ls0 := [_, _, sJk, sJk, sJk, sJk]) (rest := []) rfl rfl rfl rfl rfl ?_
  exact k0
set_option maxHeartbeats 4000000 in
set_option maxRecDepth 10000 in
theorem n101_2s {t : sT} {Q : sRs → sT → Prop} {M : sM} {n : Nat} {T : Nat} {L0 : List Nat} {A : Nat} {B : Nat} {m : Nat} {k : Nat}
    (hW : Wc t M n T L0 A B)
    (hm : m < 6)
    (hk : k < 6)
    (k0 : X 17 0 [.inr (.inr (3, (some 0))), .inr (.inr (7, (some m))), .inr (.inr (7, (some k))), sJk, sJk, sJk, sJk] [] t (sK 17 101 68 [.inr (.inr (11, (some 0))), .inl (io m), .inr (.inr (7, (some m))), .inr (.inr (7, (some k)))] [] Q)) :
    X 101 57 [.inr (.inr (11, (some 0))), .inl (io m), .inr (.inr (7, (some m))), sJk] [.inr (.inr (7, (some k)))] t Q := by
  obtain ⟨hM, hc, hR, hC, hL, hL9⟩ := hW
  refine x_astore_n (pc' := 58) (ls' := [_, _, _, _]) rfl rfl rfl rfl rfl ?_
  refine x_aload_n (pc' := 59) rfl rfl rfl rfl rfl ?_
  refine x_ifnull (a' := 74) (pc' := 62) rfl rfl rfl rfl (fun h => by cases h) (fun _ _ => ?_)
  refine x_aload_n (pc' := 63) rfl rfl rfl rfl rfl ?_
  refine x_gR (pc' := 66) (r := (some 0)) rfl rfl rfl (kR_709_0 hc.1) ?_
  refine x_aload_n (pc' := 67) rfl rfl rfl rfl rfl ?_
  refine x_aload_n (pc' := 68) rfl rfl rfl rfl rfl ?_
  refine x_cv (ls0 := [_, _, _, sJk, sJk, sJk, sJk]) (rest := []) rfl rfl rfl rfl rfl ?_
  exact k0
set_option maxHeartbeats 4000000 in
set_option maxRecDepth 10000 in
theorem n101_3n {t : sT} {Q : sRs → sT → Prop} {M : sM} {n : Nat} {T : Nat} {L0 : List Nat} {A : Nat} {B : Nat} {m : Nat}
    (hW : Wc t M n T L0 A B)
    (hm : m < 6)
    (k0 : X 54 0 [.inr (.inr (5, (some 0))), sJk, sJk, sJk, sJk] [] t (sK 54 101 86 [.inr (.inr (11, (some 0))), .inl (io m), .inr (.inr (7, (some m))), .inr (.inr (7, none))] [] Q)) :
    X 101 82 [.inr (.inr (11, (some 0))), .inl (io m), .inr (.inr (7, (some m))), .inr (.inr (7, none))] [] t Q := by
  obtain ⟨hM, hc, hR, hC, hL, hL9⟩ := hW
  refine x_aload_n (pc' := 83) rfl rfl rfl rfl rfl ?_
  refine x_gR (pc' := 86) (r := (some 0)) rfl rfl rfl (kR_704_0 hc.1) ?_
  refine x_cv (ls0 := [_, sJk, sJk, sJk, sJk]) (rest := []) rfl rfl rfl rfl rfl ?_
  exact k0
set_option maxHeartbeats 4000000 in
set_option maxRecDepth 10000 in
theorem n101_4n {t : sT} {Q : sRs → sT → Prop} {M : sM} {n : Nat} {T : Nat} {L0 : List Nat} {A : Nat} {B : Nat} {m : Nat}
    (hW : Wc t M n T L0 A B)
    (hm : m < 6)
    (k0 : X 23 0 [.inr (.inr (3, (some 0))), .inr (.inr (7, (some m))), sJk, sJk] [] t (sK 23 101 94 [.inr (.inr (11, (some 0))), .inl (io m), .inr (.inr (7, (some m))), .inr (.inr (7, none))] [] Q)) :
    X 101 89 [.inr (.inr (11, (some 0))), .inl (io m), .inr (.inr (7, (some m))), .inr (.inr (7, none))] [] t Q := by
  obtain ⟨hM, hc, hR, hC, hL, hL9⟩ := hW
  refine x_aload_n (pc' := 90) rfl rfl rfl rfl rfl ?_
  refine x_gR (pc' := 93) (r := (some 0)) rfl rfl rfl (kR_709_0 hc.1) ?_
  refine x_aload_n (pc' := 94) rfl rfl rfl rfl rfl ?_
  refine x_cv (ls0 := [_, _, sJk, sJk]) (rest := []) rfl rfl rfl rfl rfl ?_
  exact k0
set_option maxHeartbeats 4000000 in
set_option maxRecDepth 10000 in
theorem n101_5n {t : sT} {Q : sRs → sT → Prop} {M : sM} {n : Nat} {T : Nat} {L0 : List Nat} {A : Nat} {B : Nat} {m : Nat}
    (hW : Wc t M n T L0 A B)
    (hm : m < 6)
    (k0 : Q (.inl (some (.inl (-1)))) t) :
    X 101 97 [.inr (.inr (11, (some 0))), .inl (io m), .inr (.inr (7, (some m))), .inr (.inr (7, none))] [] t Q := by
  obtain ⟨hM, hc, hR, hC, hL, hL9⟩ := hW
  refine x_aload_n (pc' := 98) rfl rfl rfl rfl rfl ?_
  refine x_ifnull (a' := 108) (pc' := 101) rfl rfl rfl rfl (fun _ => ?_) (fun i h => by cases h)
  refine x_iconst (pc' := 109) rfl rfl ?_
  refine x_reti rfl rfl ?_
  exact k0
set_option maxHeartbeats 4000000 in
set_option maxRecDepth 10000 in
theorem n101_3s {t : sT} {Q : sRs → sT → Prop} {M : sM} {n : Nat} {T : Nat} {L0 : List Nat} {A : Nat} {B : Nat} {m : Nat} {k : Nat}
    (hW : Wc t M n T L0 A B)
    (hm : m < 6)
    (hk : k < 6)
    (k0 : X 54 0 [.inr (.inr (5, (some 0))), sJk, sJk, sJk, sJk] [] t (sK 54 101 86 [.inr (.inr (11, (some 0))), .inl (io m), .inr (.inr (7, (some m))), .inr (.inr (7, (some k)))] [] Q)) :
    X 101 82 [.inr (.inr (11, (some 0))), .inl (io m), .inr (.inr (7, (some m))), .inr (.inr (7, (some k)))] [] t Q := by
  obtain ⟨hM, hc, hR, hC, hL, hL9⟩ := hW
  refine x_aload_n (pc' := 83) rfl rfl rfl rfl rfl ?_
  refine x_gR (pc' := 86) (r := (some 0)) rfl rfl rfl (kR_704_0 hc.1) ?_
  refine x_cv (ls0 := [_, sJk, sJk, sJk, sJk]) (rest := []) rfl rfl rfl rfl rfl ?_
  exact k0
set_option maxHeartbeats 4000000 in
set_option maxRecDepth 10000 in
theorem n101_4s {t : sT} {Q : sRs → sT → Prop} {M : sM} {n : Nat} {T : Nat} {L0 : List Nat} {A : Nat} {B : Nat} {m : Nat} {k : Nat}
    (hW : Wc t M n T L0 A B)
    (hm : m < 6)
    (hk : k < 6)
    (k0 : X 23 0 [.inr (.inr (3, (some 0))), .inr (.inr (7, (some m))), sJk, sJk] [] t (sK 23 101 94 [.inr (.inr (11, (some 0))), .inl (io m), .inr (.inr (7, (some m))), .inr (.inr (7, (some k)))] [] Q)) :
    X 101 89 [.inr (.inr (11, (some 0))), .inl (io m), .inr (.inr (7, (some m))), .inr (.inr (7, (some k)))] [] t Q := by
  obtain ⟨hM, hc, hR, hC, hL, hL9⟩ := hW
  refine x_aload_n (pc' := 90) rfl rfl rfl rfl rfl ?_
  refine x_gR (pc' := 93) (r := (some 0)) rfl rfl rfl (kR_709_0 hc.1) ?_
  refine x_aload_n (pc' := 94) rfl rfl rfl rfl rfl ?_
  refine x_cv (ls0 := [_, _, sJk, sJk]) (rest := []) rfl rfl rfl rfl rfl ?_
  exact k0
set_option maxHeartbeats 4000000 in
set_option maxRecDepth 10000 in
theorem n101_5s {t : sT} {Q : sRs → sT → Prop} {M : sM} {n : Nat} {T : Nat} {L0 : List Nat} {A : Nat} {B : Nat} {m : Nat} {k : Nat}
    (hW : Wc t M n T L0 A B)
    (hm : m < 6)
    (hk : k < 6)
    (k0 : Q (.inl (some (.inl (io k)))) t) :
    X 101 97 [.inr (.inr (11, (some 0))), .inl (io m), .inr (.inr (7, (some m))), .inr (.inr (7, (some k)))] [] t Q := by
  obtain ⟨hM, hc, hR, hC, hL, hL9⟩ := hW
  refine x_aload_n (pc' := 98) rfl rfl rfl rfl rfl ?_
  refine x_ifnull (a' := 108) (pc' := 101) rfl rfl rfl rfl (fun h => by cases h) (fun _ _ => ?_)
  refine x_aload_n (pc' := 102) rfl rfl rfl rfl rfl ?_
  refine x_gI (pc' := 105) (x := (io k)) rfl rfl rfl (kMp hc.1 hk).2.2 ?_
  refine x_goto (pc' := 109) rfl rfl ?_
  refine x_reti rfl rfl ?_
  exact k0
set_option maxHeartbeats 4000000 in
set_option maxRecDepth 10000 in
theorem n15_0 {t : sT} {Q : sRs → sT → Prop} {M : sM} {n : Nat} {T : Nat} {L0 : List Nat} {A : Nat} {B : Nat} {m : Nat}
    (hW : Wc t M n T L0 A B)
    (hm : m < 6)
    (k0 : X 15 17 [.inr (.inr (3, (some 0))), .inr (.inr (7, (some m))), .inr (.inr (7, none)), .inr (.inr (26, (some 0))), .inl 6, .inl 0, sJk, sJk] [] t Q) :
    X 15 0 [.inr (.inr (3, (some 0))), .inr (.inr (7, (some m))), sJk, sJk, sJk, sJk, sJk, sJk] [] t Q := by
  obtain ⟨hM, hc, hR, hC, hL, hL9⟩ := hW
  refine x_null (pc' := 1) rfl rfl rfl ?_
  refine x_astore_n (pc' := 2) (ls' := [_, _, _, _, _, _, _, _]) rfl rfl rfl rfl rfl ?_
  refine x_aload_n (pc' := 3) rfl rfl rfl rfl rfl ?_
  refine x_gR (pc' := 6) (r := (some 0)) rfl rfl rfl (kR_192_0 hc.1) ?_
  refine x_gR (pc' := 9) (r := (some 0)) rfl rfl rfl (kR_321_0 hc.1) ?_
  refine x_astore_n (pc' := 10) (ls' := [_, _, _, _, _, _, _, _]) rfl rfl rfl rfl rfl ?_
  refine x_aload_n (pc' := 11) rfl rfl rfl rfl rfl ?_
  refine x_alen (pc' := 12) (N := 6) rfl rfl rfl (kN_26_0 hc.1) (?_ : X _ _ _ (.inl 6 :: _) _ _)
  refine x_istore (pc' := 14) (ls' := [_, _, _, _, _, _, _, _]) rfl rfl rfl rfl ?_
  refine x_iconst (pc' := 15) rfl rfl ?_
  refine x_istore (pc' := 17) (ls' := [_, _, _, _, _, _, _, _]) rfl rfl rfl rfl ?_
  exact k0
set_option maxHeartbeats 4000000 in
set_option maxRecDepth 10000 in
theorem n15_kn {t : sT} {Q : sRs → sT → Prop} {M : sM} {n : Nat} {T : Nat} {L0 : List Nat} {A : Nat} {B : Nat} {m : Nat} {k : Nat} {y0 : sV} {y1 : sV}
    (hW : Wc t M n T L0 A B)
    (hm : m < 6)
    (hk : k < 6)
    (k0 : (mB M 1 k) = false → X 15 17 [.inr (.inr (3, (some 0))), .inr (.inr (7, (some m))), .inr (.inr (7, none)), .inr (.inr (26, (some 0))), .inl 6, .inl (io (k + 1)), .inr (.inr (7, (some k))), .inl 1] [] t Q)
    (k1 : (mB M 1 k) = true → k = m → X 15 17 [.inr (.inr (3, (some 0))), .inr (.inr (7, (some m))), .inr (.inr (7, none)), .inr (.inr (26, (some 0))), .inl 6, .inl (io (k + 1)), .inr (.inr (7, (some k))), .inl 1] [] t Q)
    (k2 : (mB M 1 k) = true → ¬ (k = m) → (mB M 2 k) = true → X 15 17 [.inr (.inr (3, (some 0))), .inr (.inr (7, (some m))), .inr (.inr (7, none)), .inr (.inr (26, (some 0))), .inl 6, .inl (io (k + 1)), .inr (.inr (7, (some k))), .inl 1] [] t Q)
    (k3 : (mB M 1 k) = true → ¬ (k = m) → (mB M 2 k) = false → ((cfdF M n k) + (mA M 9 k)) < (cm2F M n k m) → X 15 17 [.inr (.inr (3, (some 0))), .inr (.inr (7, (some m))), .inr (.inr (7, none)), .inr (.inr (26, (some 0))), .inl 6, .inl (io (k + 1)), .inr (.inr (7, (some k))), .inl 1] [] t Q)
    (k4 : (mB M 1 k) = true → ¬ (k = m) → (mB M 2 k) = false → ¬ (((cfdF M n k) + (mA M 9 k)) < (cm2F M n k m)) → X 15 17 [.inr (.inr (3, (some 0))), .inr (.inr (7, (some m))), .inr (.inr (7, (some k))), .inr (.inr (26, (some 0))), .inl 6, .inl (io (k + 1)), .inr (.inr (7, (some k))), .inl 1] [] t Q) :
    X 15 17 [.inr (.inr (3, (some 0))), .inr (.inr (7, (some m))), .inr (.inr (7, none)), .inr (.inr (26, (some 0))), .inl 6, .inl (io k), y0, y1] [] t Q := by
  obtain ⟨hM, hc, hR, hC, hL, hL9⟩ := hW
  refine x_iload (pc' := 19) rfl rfl rfl ?_
  refine x_iload (pc' := 21) rfl rfl rfl ?_
  refine x_icmp_n (a' := 85) (pc' := 24) (z := decide (k < 6)) rfl rfl rfl (ic_gen (p := k) (q := 6) (gm31 hk) (by decide)) (fun h => absurd hk (of_decide_eq_false h)) (fun _ => ?_)
  refine x_aload_n (pc' := 25) rfl rfl rfl rfl rfl ?_
  refine x_iload (pc' := 27) rfl rfl rfl ?_
  refine x_aald (pc' := 28) (N := 6) (k' := 7) (r := (some k)) rfl rfl rfl (kN_26_0 hc.1) (io_in (p := k) (N := 6) hk (by decide)) (Eq.trans (congrArg (sE t 26 0) (nn_io (p := k) (Nat.lt_trans hk (by decide)))) (kM hc.1 hk)) ?_
  refine x_astore (pc' := 30) (ls' := [_, _, _, _, _, _, _, _]) rfl rfl rfl rfl rfl ?_
  refine x_aload_n (pc' := 31) rfl rfl rfl rfl rfl ?_
  refine x_ifnull (a' := 46) (pc' := 34) rfl rfl rfl rfl (fun _ => ?_) (fun i h => by cases h)
  refine x_iconst (pc' := 47) rfl rfl ?_
  refine x_goto (pc' := 51) rfl rfl ?_
  refine x_istore (pc' := 53) (ls' := [_, _, _, _, _, _, _, _]) rfl rfl rfl rfl ?_
  refine x_aload (pc' := 55) rfl rfl rfl rfl rfl ?_
  refine x_gZ (pc' := 58) (z := (mB M 1 k)) rfl rfl rfl (kZ hM rfl hk) ?_
  refine x_ifeq_z (a' := 79) (pc' := 61) (z := (mB M 1 k)) rfl rfl rfl (fun q3 => ?_) (fun q3 => ?_)
  · refine x_iinc (pc' := 82) (y := (io (k + 1))) (ls' := [_, _, _, _, _, _, _, _]) rfl rfl rfl (io_add k 1) rfl ?_
    refine x_goto (pc' := 17) rfl rfl ?_
    exact k0 q3
  · refine x_iload (pc' := 63) rfl rfl rfl ?_
    refine x_if (a' := 79) (pc' := 66) (z := false) rfl rfl rfl (by decide) (fun h => by cases h) (fun _ => ?_)
    refine x_aload_n (pc' := 67) rfl rfl rfl rfl rfl ?_
    refine x_aload (pc' := 69) rfl rfl rfl rfl rfl ?_
    refine x_aload_n (pc' := 70) rfl rfl rfl rfl rfl ?_
    refine x_cv (ls0 := [_, _, _]) (rest := []) rfl rfl rfl rfl rfl ?_
    refine x_aload_n (pc' := 1) rfl rfl rfl rfl rfl ?_
    refine x_aload_n (pc' := 2) rfl rfl rfl rfl rfl ?_
    refine x_acmp_eq (a' := 41) (pc' := 5) (z := decide (k = m)) rfl rfl rfl rfl dec_some (fun q5 => ?_) (fun q5 => ?_)
    · refine x_iconst (pc' := 42) rfl rfl ?_
      refine x_retz (z := false) rfl rfl ?_
      refine sK_i (pc' := 73) rfl ?_
      refine x_if (a' := 79) (pc' := 76) (z := true) rfl rfl rfl (by decide) (fun _ => ?_) (fun h => by cases h)
      refine x_iinc (pc' := 82) (y := (io (k + 1))) (ls' := [_, _, _, _, _, _, _, _]) rfl rfl rfl (io_add k 1) rfl ?_
      refine x_goto (pc' := 17) rfl rfl ?_
      exact k1 q3 (of_decide_eq_true q5)
    · refine x_aload_n (pc' := 6) rfl rfl rfl rfl rfl ?_
      refine x_gZ (pc' := 9) (z := (mB M 2 k)) rfl rfl rfl (kZ hM rfl hk) ?_
      refine x_ifne_z (a' := 41) (pc' := 12) (z := (mB M 2 k)) rfl rfl rfl (fun q7 => ?_) (fun q7 => ?_)
      · refine x_iconst (pc' := 42) rfl rfl ?_
        refine x_retz (z := false) rfl rfl ?_
        refine sK_i (pc' := 73) rfl ?_
        refine x_if (a' := 79) (pc' := 76) (z := true) rfl rfl rfl (by decide) (fun _ => ?_) (fun h => by cases h)
        refine x_iinc (pc' := 82) (y := (io (k + 1))) (ls' := [_, _, _, _, _, _, _, _]) rfl rfl rfl (io_add k 1) rfl ?_
        refine x_goto (pc' := 17) rfl rfl ?_
        exact k2 q3 (of_decide_eq_false q5) q7
      · refine x_aload_n (pc' := 13) rfl rfl rfl rfl rfl ?_
        refine x_gR (pc' := 16) (r := (some 0)) rfl rfl rfl (kR_192_0 hc.1) ?_
        refine x_aload_n (pc' := 17) rfl rfl rfl rfl rfl ?_
        refine x_aload_n (pc' := 18) rfl rfl rfl rfl rfl ?_
        refine x_cv (ls0 := [_, _, _, sJk, sJk, sJk, sJk, sJk, sJk, sJk, sJk]) (rest := []) rfl rfl rfl rfl rfl ?_
        refine c50s hM hc (Fr.ri (Fr.refl _) hR) hk hm ?_
        refine sK_i (pc' := 21) rfl ?_
        refine x_aload_n (pc' := 22) rfl rfl rfl rfl rfl ?_
        refine x_gR (pc' := 25) (r := (some 0)) rfl rfl rfl (kR_192_0 hc.1) ?_
        refine x_aload_n (pc' := 26) rfl rfl rfl rfl rfl ?_
        refine x_cv (ls0 := [_, _, sJk, sJk, sJk, sJk, sJk]) (rest := [_]) rfl rfl rfl rfl rfl ?_
        refine c49 hM hc (Fr.ri (Fr.refl _) hR) hk ?_
        refine sK_i (pc' := 29) rfl ?_
        refine x_aload_n (pc' := 30) rfl rfl rfl rfl rfl ?_
        refine x_gI (pc' := 33) (x := (mA M 9 k)) rfl rfl rfl (kA hM rfl hk) ?_
        refine x_iadd (pc' := 34) (z := ((cfdF M n k) + (mA M 9 k))) rfl rfl rfl ?_
        refine x_icmp (a' := 41) (pc' := 37) (z := decide (((cfdF M n k) + (mA M 9 k)) < (cm2F M n k m))) rfl rfl rfl rfl (fun q9 => ?_) (fun q9 => ?_)
        · refine x_iconst (pc' := 42) rfl rfl ?_
          refine x_retz (z := false) rfl rfl ?_
          refine sK_i (pc' := 73) rfl ?_
          refine x_if (a' := 79) (pc' := 76) (z := true) rfl rfl rfl (by decide) (fun _ => ?_) (fun h => by cases h)
          refine x_iinc (pc' := 82) (y := (io (k + 1))) (ls' := [_, _, _, _, _, _, _, _]) rfl rfl rfl (io_add k 1) rfl ?_
          refine x_goto (pc' := 17) rfl rfl ?_
          exact k3 q3 (of_decide_eq_false q5) q7 (of_decide_eq_true q9)
        · refine x_iconst (pc' := 38) rfl rfl ?_
          refine x_goto (pc' := 42) rfl rfl ?_
          refine x_retz (z := true) rfl rfl ?_
          refine sK_i (pc' := 73) rfl ?_
          refine x_if (a' := 79) (pc' := 76) (z := false) rfl rfl rfl (by decide) (fun h => by cases h) (fun _ => ?_)
          refine x_aload (pc' := 78) rfl rfl rfl rfl rfl ?_
          refine x_astore_n (pc' := 79) (ls' := [_, _, _, _, _, _, _, _]) rfl rfl rfl rfl rfl ?_
          refine x_iinc (pc' := 82) (y := (io (k + 1))) (ls' := [_, _, _, _, _, _, _, _]) rfl rfl rfl (io_add k 1) rfl ?_
          refine x_goto (pc' := 17) rfl rfl ?_
          exact k4 q3 (of_decide_eq_false q5) q7 (of_decide_eq_false q9)
set_option maxHeartbeats 4000000 in
set_option maxRecDepth 10000 in
theorem n15_ks {t : sT} {Q : sRs → sT → Prop} {M : sM} {n : Nat} {T : Nat} {L0 : List Nat} {A : Nat} {B : Nat} {m : Nat} {k : Nat} {y0 : sV} {y1 : sV} {j : Nat}
    (hW : Wc t M n T L0 A B)
    (hm : m < 6)
    (hk : k < 6)
    (hj : j < 6)
    (k0 : ¬ ((mA M 9 k) < (mA M 9 j)) → (mB M 1 k) = false → X 15 17 [.inr (.inr (3, (some 0))), .inr (.inr (7, (some m))), .inr (.inr (7, (some j))), .inr (.inr (26, (some 0))), .inl 6, .inl (io (k + 1)), .inr (.inr (7, (some k))), .inl 0] [] t Q)
    (k1 : ¬ ((mA M 9 k) < (mA M 9 j)) → (mB M 1 k) = true → X 15 17 [.inr (.inr (3, (some 0))), .inr (.inr (7, (some m))), .inr (.inr (7, (some j))), .inr (.inr (26, (some 0))), .inl 6, .inl (io (k + 1)), .inr (.inr (7, (some k))), .inl 0] [] t Q)
    (k2 : (mA M 9 k) < (mA M 9 j) → (mB M 1 k) = false → X 15 17 [.inr (.inr (3, (some 0))), .inr (.inr (7, (some m))), .inr (.inr (7, (some j))), .inr (.inr (26, (some 0))), .inl 6, .inl (io (k + 1)), .inr (.inr (7, (some k))), .inl 1] [] t Q)
    (k3 : (mA M 9 k) < (mA M 9 j) → (mB M 1 k) = true → k = m → X 15 17 [.inr (.inr (3, (some 0))), .inr (.inr (7, (some m))), .inr (.inr (7, (some j))), .inr (.inr (26, (some 0))), .inl 6, .inl (io (k + 1)), .inr (.inr (7, (some k))), .inl 1] [] t Q)
    (k4 : (mA M 9 k) < (mA M 9 j) → (mB M 1 k) = true → ¬ (k = m) → (mB M 2 k) = true → X 15 17 [.inr (.inr (3, (some 0))), .inr (.inr (7, (some m))), .inr (.inr (7, (some j))), .inr (.inr (26, (some 0))), .inl 6, .inl (io (k + 1)), .inr (.inr (7, (some k))), .inl 1] [] t Q)
    (k5 : (mA M 9 k) < (mA M 9 j) → (mB M 1 k) = true → ¬ (k = m) → (mB M 2 k) = false → ((cfdF M n k) + (mA M 9 k)) < (cm2F M n k m) → X 15 17 [.inr (.inr (3, (some 0))), .inr (.inr (7, (some m))), .inr (.inr (7, (some j))), .inr (.inr (26, (some 0))), .inl 6, .inl (io (k + 1)), .inr (.inr (7, (some k))), .inl 1] [] t Q)
    (k6 : (mA M 9 k) < (mA M 9 j) → (mB M 1 k) = true → ¬ (k = m) → (mB M 2 k) = false → ¬ (((cfdF M n k) + (mA M 9 k)) < (cm2F M n k m)) → X 15 17 [.inr (.inr (3, (some 0))), .inr (.inr (7, (some m))), .inr (.inr (7, (some k))), .inr (.inr (26, (some 0))), .inl 6, .inl (io (k + 1)), .inr (.inr (7, (some k))), .inl 1] [] t Q) :
    X 15 17 [.inr (.inr (3, (some 0))), .inr (.inr (7, (some m))), .inr (.inr (7, (some j))), .inr (.inr (26, (some 0))), .inl 6, .inl (io k), y0, y1] [] t Q := by
  obtain ⟨hM, hc, hR, hC, hL, hL9⟩ := hW
  refine x_iload (pc' := 19) rfl rfl rfl ?_
  refine x_iload (pc' := 21) rfl rfl rfl ?_
  refine x_icmp_n (a' := 85) (pc' := 24) (z := decide (k < 6)) rfl rfl rfl (ic_gen (p := k) (q := 6) (gm31 hk) (by decide)) (fun h => absurd hk (of_decide_eq_false h)) (fun _ => ?_)
  refine x_aload_n (pc' := 25) rfl rfl rfl rfl rfl ?_
  refine x_iload (pc' := 27) rfl rfl rfl ?_
  refine x_aald (pc' := 28) (N := 6) (k' := 7) (r := (some k)) rfl rfl rfl (kN_26_0 hc.1) (io_in (p := k) (N := 6) hk (by decide)) (Eq.trans (congrArg (sE t 26 0) (nn_io (p := k) (Nat.lt_trans hk (by decide)))) (kM hc.1 hk)) ?_
  refine x_astore (pc' := 30) (ls' := [_, _, _, _, _, _, _, _]) rfl rfl rfl rfl rfl ?_
  refine x_aload_n (pc' := 31) rfl rfl rfl rfl rfl ?_
  refine x_ifnull (a' := 46) (pc' := 34) rfl rfl rfl rfl (fun h => by cases h) (fun _ _ => ?_)
  refine x_aload (pc' := 36) rfl rfl rfl rfl rfl ?_
  refine x_gI (pc' := 39) (x := (mA M 9 k)) rfl rfl rfl (kA hM rfl hk) ?_
  refine x_aload_n (pc' := 40) rfl rfl rfl rfl rfl ?_
  refine x_gI (pc' := 43) (x := (mA M 9 j)) rfl rfl rfl (kA hM rfl hj) ?_
  refine x_icmp_n (a' := 50) (pc' := 46) (z := decide ((mA M 9 k) < (mA M 9 j))) rfl rfl rfl (ik_ge _ _) (fun q3 => ?_) (fun q3 => ?_)
  · refine x_iconst (pc' := 51) rfl rfl ?_
    refine x_istore (pc' := 53) (ls' := [_, _, _, _, _, _, _, _]) rfl rfl rfl rfl ?_
    refine x_aload (pc' := 55) rfl rfl rfl rfl rfl ?_
    refine x_gZ (pc' := 58) (z := (mB M 1 k)) rfl rfl rfl (kZ hM rfl hk) ?_
    refine x_ifeq_z (a' := 79) (pc' := 61) (z := (mB M 1 k)) rfl rfl rfl (fun q4 => ?_) (fun q4 => ?_)
    · refine x_iinc (pc' := 82) (y := (io (k + 1))) (ls' := [_, _, _, _, _, _, _, _]) rfl rfl rfl (io_add k 1) rfl ?_
      refine x_goto (pc' := 17) rfl rfl ?_
      exact k0 (of_decide_eq_false q3) q4
    · refine x_iload (pc' := 63) rfl rfl rfl ?_
      refine x_if (a' := 79) (pc' := 66) (z := true) rfl rfl rfl (by decide) (fun _ => ?_) (fun h => by cases h)
      refine x_iinc (pc' := 82) (y := (io (k + 1))) (ls' := [_, _, _, _, _, _, _, _]) rfl rfl rfl (io_add k 1) rfl ?_
      refine x_goto (pc' := 17) rfl rfl ?_
      exact k1 (of_decide_eq_false q3) q4
  · refine x_iconst (pc' := 47) rfl rfl ?_
    refine x_goto (pc' := 51) rfl rfl ?_
    refine x_istore (pc' := 53) (ls' := [_, _, _, _, _, _, _, _]) rfl rfl rfl rfl ?_
    refine x_aload (pc' := 55) rfl rfl rfl rfl rfl ?_
    refine x_gZ (pc' := 58) (z := (mB M 1 k)) rfl rfl rfl (kZ hM rfl hk) ?_
    refine x_ifeq_z (a' := 79) (pc' := 61) (z := (mB M 1 k)) rfl rfl rfl (fun q6 => ?_) (fun q6 => ?_)
    · refine x_iinc (pc' := 82) (y := (io (k + 1))) (ls' := [_, _, _, _, _, _, _, _]) rfl rfl rfl (io_add k 1) rfl ?_
      refine x_goto (pc' := 17) rfl rfl ?_
      exact k2 (of_decide_eq_true q3) q6
    · refine x_iload (pc' := 63) rfl rfl rfl ?_
      refine x_if (a' := 79) (pc' := 66) (z := false) rfl rfl rfl (by decide) (fun h => by cases h) (fun _ => ?_)
      refine x_aload_n (pc' := 67) rfl rfl rfl rfl rfl ?_
      refine x_aload (pc' := 69) rfl rfl rfl rfl rfl ?_
      refine x_aload_n (pc' := 70) rfl rfl rfl rfl rfl ?_
      refine x_cv (ls0 := [_, _, _]) (rest := []) rfl rfl rfl rfl rfl ?_
      refine x_aload_n (pc' := 1) rfl rfl rfl rfl rfl ?_
      refine x_aload_n (pc' := 2) rfl rfl rfl rfl rfl ?_
      refine x_acmp_eq (a' := 41) (pc' := 5) (z := decide (k = m)) rfl rfl rfl rfl dec_some (fun q8 => ?_) (fun q8 => ?_)
      · refine x_iconst (pc' := 42) rfl rfl ?_
        refine x_retz (z := false) rfl rfl ?_
        refine sK_i (pc' := 73) rfl ?_
        refine x_if (a' := 79) (pc' := 76) (z := true) rfl rfl rfl (by decide) (fun _ => ?_) (fun h => by cases h)
        refine x_iinc (pc' := 82) (y := (io (k + 1))) (ls' := [_, _, _, _, _, _, _, _]) rfl rfl rfl (io_add k 1) rfl ?_
        refine x_goto (pc' := 17) rfl rfl ?_
        exact k3 (of_decide_eq_true q3) q6 (of_decide_eq_true q8)
      · refine x_aload_n (pc' := 6) rfl rfl rfl rfl rfl ?_
        refine x_gZ (pc' := 9) (z := (mB M 2 k)) rfl rfl rfl (kZ hM rfl hk) ?_
        refine x_ifne_z (a' := 41) (pc' := 12) (z := (mB M 2 k)) rfl rfl rfl (fun q10 => ?_) (fun q10 => ?_)
        · refine x_iconst (pc' := 42) rfl rfl ?_
          refine x_retz (z := false) rfl rfl ?_
          refine sK_i (pc' := 73) rfl ?_
          refine x_if (a' := 79) (pc' := 76) (z := true) rfl rfl rfl (by decide) (fun _ => ?_) (fun h => by cases h)
          refine x_iinc (pc' := 82) (y := (io (k + 1))) (ls' := [_, _, _, _, _, _, _, _]) rfl rfl rfl (io_add k 1) rfl ?_
          refine x_goto (pc' := 17) rfl rfl ?_
          exact k4 (of_decide_eq_true q3) q6 (of_decide_eq_false q8) q10
        · refine x_aload_n (pc' := 13) rfl rfl rfl rfl rfl ?_
          refine x_gR (pc' := 16) (r := (some 0)) rfl rfl rfl (kR_192_0 hc.1) ?_
          refine x_aload_n (pc' := 17) rfl rfl rfl rfl rfl ?_
          refine x_aload_n (pc' := 18) rfl rfl rfl rfl rfl ?_
          refine x_cv (ls0 := [_, _, _, sJk, sJk, sJk, sJk, sJk, sJk, sJk, sJk]) (rest := []) rfl rfl rfl rfl rfl ?_
          refine c50s hM hc (Fr.ri (Fr.refl _) hR) hk hm ?_
          refine sK_i (pc' := 21) rfl ?_
          refine x_aload_n (pc' := 22) rfl rfl rfl rfl rfl ?_
          refine x_gR (pc' := 25) (r := (some 0)) rfl rfl rfl (kR_192_0 hc.1) ?_
          refine x_aload_n (pc' := 26) rfl rfl rfl rfl rfl ?_
          refine x_cv (ls0 := [_, _, sJk, sJk, sJk, sJk, sJk]) (rest := [_]) rfl rfl rfl rfl rfl ?_
          refine c49 hM hc (Fr.ri (Fr.refl _) hR) hk ?_
          refine sK_i (pc' := 29) rfl ?_
          refine x_aload_n (pc' := 30) rfl rfl rfl rfl rfl ?_
          refine x_gI (pc' := 33) (x := (mA M 9 k)) rfl rfl rfl (kA hM rfl hk) ?_
          refine x_iadd (pc' := 34) (z := ((cfdF M n k) + (mA M 9 k))) rfl rfl rfl ?_
          refine x_icmp (a' := 41) (pc' := 37) (z := decide (((cfdF M n k) + (mA M 9 k)) < (cm2F M n k m))) rfl rfl rfl rfl (fun q12 => ?_) (fun q12 => ?_)
          · refine x_iconst (pc' := 42) rfl rfl ?_
            refine x_retz (z := false) rfl rfl ?_
            refine sK_i (pc' := 73) rfl ?_
            refine x_if (a' := 79) (pc' := 76) (z := true) rfl rfl rfl (by decide) (fun _ => ?_) (fun h => by cases h)
            refine x_iinc (pc' := 82) (y := (io (k + 1))) (ls' := [_, _, _, _, _, _, _, _]) rfl rfl rfl (io_add k 1) rfl ?_
            refine x_goto (pc' := 17) rfl rfl ?_
            exact k5 (of_decide_eq_true q3) q6 (of_decide_eq_false q8) q10 (of_decide_eq_true q12)
          · refine x_iconst (pc' := 38) rfl rfl ?_
            refine x_goto (pc' := 42) rfl rfl ?_
            refine x_retz (z := true) rfl rfl ?_
            refine sK_i (pc' := 73) rfl ?_
            refine x_if (a' := 79) (pc' := 76) (z := false) rfl rfl rfl (by decide) (fun h => by cases h) (fun _ => ?_)
            refine x_aload (pc' := 78) rfl rfl rfl rfl rfl ?_
            refine x_astore_n (pc' := 79) (ls' := [_, _, _, _, _, _, _, _]) rfl rfl rfl rfl rfl ?_
            refine x_iinc (pc' := 82) (y := (io (k + 1))) (ls' := [_, _, _, _, _, _, _, _]) rfl rfl rfl (io_add k 1) rfl ?_
            refine x_goto (pc' := 17) rfl rfl ?_
            exact k6 (of_decide_eq_true q3) q6 (of_decide_eq_false q8) q10 (of_decide_eq_false q12)
set_option maxHeartbeats 4000000 in
set_option maxRecDepth 10000 in
theorem n15_e {t : sT} {Q : sRs → sT → Prop} {M : sM} {n : Nat} {T : Nat} {L0 : List Nat} {A : Nat} {B : Nat} {m : Nat} {y0 : sV} {y1 : sV} {f : Option Nat}
    (hW : Wc t M n T L0 A B)
    (hm : m < 6)
    (k0 : Q (.inl (some (.inr (.inr (7, f))))) t) :
    X 15 17 [.inr (.inr (3, (some 0))), .inr (.inr (7, (some m))), .inr (.inr (7, f)), .inr (.inr (26, (some 0))), .inl 6, .inl 6, y0, y1] [] t Q := by
  obtain ⟨hM, hc, hR, hC, hL, hL9⟩ := hW
  refine x_iload (pc' := 19) rfl rfl rfl ?_
  refine x_iload (pc' := 21) rfl rfl rfl ?_
  refine x_icmp (a' := 85) (pc' := 24) (z := true) rfl rfl rfl (by decide) (fun _ => ?_) (fun h => by cases h)
  refine x_aload_n (pc' := 86) rfl rfl rfl rfl rfl ?_
  refine x_reta rfl rfl ?_
  exact k0
set_option maxHeartbeats 4000000 in
set_option maxRecDepth 10000 in
theorem n18 {t : sT} {Q : sRs → sT → Prop} {M : sM} {n : Nat} {T : Nat} {L0 : List Nat} {A : Nat} {B : Nat} {m : Nat} {k : Nat} {c : Nat} {a : Int32}
    (hW : Wc t M n T L0 A B)
    (hm : m < 6)
    (hk : k < 6)
    (hc3 : c < 3)
    (k0 : ¬ (0 < (mA M 6 ((3 * m) + c))) → ¬ (0 < a) → Q (.inl none) t)
    (k1 : ¬ (0 < (mA M 6 ((3 * m) + c))) → 0 < a → X 45 0 [.inr (.inr (5, (some 0))), .inr (.inr (2, (some c))), .inr (.inr (7, (some m))), .inr (.inr (7, (some k))), .inl (mA M 1 c), .inl a, sJk] [] t (sK 45 18 51 [.inr (.inr (3, (some 0))), .inr (.inr (7, (some m))), .inr (.inr (7, (some k))), .inr (.inr (2, (some c))), .inl a, .inl 0] [] Q))
    (k2 : 0 < (mA M 6 ((3 * m) + c)) → ¬ (0 < a) → Q (.inl none) t)
    (k3 : 0 < (mA M 6 ((3 * m) + c)) → 0 < a → X 45 0 [.inr (.inr (5, (some 0))), .inr (.inr (2, (some c))), .inr (.inr (7, (some k))), .inr (.inr (7, (some m))), .inl (mA M 1 c), .inl a, sJk] [] t (sK 45 18 51 [.inr (.inr (3, (some 0))), .inr (.inr (7, (some m))), .inr (.inr (7, (some k))), .inr (.inr (2, (some c))), .inl a, .inl 1] [] Q)) :
    X 18 0 [.inr (.inr (3, (some 0))), .inr (.inr (7, (some m))), .inr (.inr (7, (some k))), .inr (.inr (2, (some c))), .inl a, sJk] [] t Q := by
  obtain ⟨hM, hc, hR, hC, hL, hL9⟩ := hW
  refine x_aload_n (pc' := 1) rfl rfl rfl rfl rfl ?_
  refine x_aload_n (pc' := 2) rfl rfl rfl rfl rfl ?_
  refine x_cv (ls0 := [_, _, sJk]) (rest := []) rfl rfl rfl rfl rfl ?_
  refine x_aload_n (pc' := 1) rfl rfl rfl rfl rfl ?_
  refine x_gI (pc' := 4) (x := (io c)) rfl rfl rfl (kKn hc.1 hc3) ?_
  refine x_istore_n (pc' := 5) (ls' := [_, _, _]) rfl rfl rfl rfl ?_
  refine x_iload_n (pc' := 6) rfl rfl rfl ?_
  refine x_if (a' := 27) (pc' := 9) (z := decide (c < 0)) rfl rfl rfl (ic_lt (p := c) (q := 0) (gc31 hc3) (by decide)) (fun h => absurd (of_decide_eq_true h) (by first | decide | omega | simp)) (fun _ => ?_)
  refine x_iload_n (pc' := 10) rfl rfl rfl ?_
  refine x_aload_n (pc' := 11) rfl rfl rfl rfl rfl ?_
  refine x_gR (pc' := 14) (r := (some (m + 1))) rfl rfl rfl (kMp hc.1 hm).1 ?_
  refine x_alen (pc' := 15) (N := 3) rfl rfl rfl (kMp hc.1 hm).2.1 (?_ : X _ _ _ (.inl 3 :: _) _ _)
  refine x_icmp_n (a' := 27) (pc' := 18) (z := decide (c < 3)) rfl rfl rfl (ic_gen (p := c) (q := 3) (gc31 hc3) (by decide)) (fun h => absurd hc3 (of_decide_eq_false h)) (fun _ => ?_)
  refine x_aload_n (pc' := 19) rfl rfl rfl rfl rfl ?_
  refine x_gR (pc' := 22) (r := (some (m + 1))) rfl rfl rfl (kMp hc.1 hm).1 ?_
  refine x_iload_n (pc' := 23) rfl rfl rfl ?_
  refine x_iald (pc' := 24) (N := 3) (x := (mA M 6 ((3 * m) + c))) rfl rfl rfl (kMp hc.1 hm).2.1 (io_in (p := c) (N := 3) hc3 (by decide)) (Eq.trans (congrArg (sA t 20 (m + 1)) (nn_io (p := c) (Nat.lt_trans hc3 (by decide)))) (kP (m := m) (c := c) hM hm hc3)) ?_
  refine x_goto (pc' := 28) rfl rfl ?_
  refine x_reti rfl rfl ?_
  refine sK_i (pc' := 5) rfl ?_
  refine x_if_n (a' := 12) (pc' := 8) (z := decide (0 < (mA M 6 ((3 * m) + c)))) rfl rfl rfl (ik_le _ _) (fun q3 => ?_) (fun q3 => ?_)
  · refine x_iconst (pc' := 13) rfl rfl ?_
    refine x_istore (pc' := 15) (ls' := [_, _, _, _, _, _]) rfl rfl rfl rfl ?_
    refine x_iload (pc' := 17) rfl rfl rfl ?_
    refine x_if_n (a' := 54) (pc' := 20) (z := decide (0 < a)) rfl rfl rfl (ik_le _ _) (fun q4 => ?_) (fun q4 => ?_)
    · refine x_ret rfl ?_
      exact k0 (of_decide_eq_false q3) (of_decide_eq_false q4)
    · refine x_aload_n (pc' := 21) rfl rfl rfl rfl rfl ?_
      refine x_gR (pc' := 24) (r := (some 0)) rfl rfl rfl (kR_192_0 hc.1) ?_
      refine x_aload_n (pc' := 25) rfl rfl rfl rfl rfl ?_
      refine x_iload (pc' := 27) rfl rfl rfl ?_
      refine x_if (a' := 34) (pc' := 30) (z := true) rfl rfl rfl (by decide) (fun _ => ?_) (fun h => by cases h)
      refine x_aload_n (pc' := 35) rfl rfl rfl rfl rfl ?_
      refine x_iload (pc' := 37) rfl rfl rfl ?_
      refine x_if (a' := 44) (pc' := 40) (z := true) rfl rfl rfl (by decide) (fun _ => ?_) (fun h => by cases h)
      refine x_aload_n (pc' := 45) rfl rfl rfl rfl rfl ?_
      refine x_aload_n (pc' := 46) rfl rfl rfl rfl rfl ?_
      refine x_gI (pc' := 49) (x := (mA M 1 c)) rfl rfl rfl (kA hM rfl hc3) ?_
      refine x_iload (pc' := 51) rfl rfl rfl ?_
      refine x_cv (ls0 := [_, _, _, _, _, _, sJk]) (rest := []) rfl rfl rfl rfl rfl ?_
      exact k1 (of_decide_eq_false q3) (of_decide_eq_true q4)
  · refine x_iconst (pc' := 9) rfl rfl ?_
    refine x_goto (pc' := 13) rfl rfl ?_
    refine x_istore (pc' := 15) (ls' := [_, _, _, _, _, _]) rfl rfl rfl rfl ?_
    refine x_iload (pc' := 17) rfl rfl rfl ?_
    refine x_if_n (a' := 54) (pc' := 20) (z := decide (0 < a)) rfl rfl rfl (ik_le _ _) (fun q7 => ?_) (fun q7 => ?_)
    · refine x_ret rfl ?_
      exact k2 (of_decide_eq_true q3) (of_decide_eq_false q7)
    · refine x_aload_n (pc' := 21) rfl rfl rfl rfl rfl ?_
      refine x_gR (pc' := 24) (r := (some 0)) rfl rfl rfl (kR_192_0 hc.1) ?_
      refine x_aload_n (pc' := 25) rfl rfl rfl rfl rfl ?_
      refine x_iload (pc' := 27) rfl rfl rfl ?_
      refine x_if (a' := 34) (pc' := 30) (z := false) rfl rfl rfl (by decide) (fun h => by cases h) (fun _ => ?_)
      refine x_aload_n (pc' := 31) rfl rfl rfl rfl rfl ?_
      refine x_goto (pc' := 35) rfl rfl ?_
      refine x_iload (pc' := 37) rfl rfl rfl ?_
      refine x_if (a' := 44) (pc' := 40) (z := false) rfl rfl rfl (by decide) (fun h => by cases h) (fun _ => ?_)
      refine x_aload_n (pc' := 41) rfl rfl rfl rfl rfl ?_
      refine x_goto (pc' := 45) rfl rfl ?_
      refine x_aload_n (pc' := 46) rfl rfl rfl rfl rfl ?_
      refine x_gI (pc' := 49) (x := (mA M 1 c)) rfl rfl rfl (kA hM rfl hc3) ?_
      refine x_iload (pc' := 51) rfl rfl rfl ?_
      refine x_cv (ls0 := [_, _, _, _, _, _, sJk]) (rest := []) rfl rfl rfl rfl rfl ?_
      exact k3 (of_decide_eq_true q3) (of_decide_eq_true q7)
set_option maxHeartbeats 4000000 in
set_option maxRecDepth 10000 in
theorem n17_0 {t : sT} {Q : sRs → sT → Prop} {M : sM} {n : Nat} {T : Nat} {L0 : List Nat} {A : Nat} {B : Nat} {m : Nat} {k : Nat}
    (hW : Wc t M n T L0 A B)
    (hm : m < 6)
    (hk : k < 6)
    (k0 : X 17 15 [.inr (.inr (3, (some 0))), .inr (.inr (7, (some m))), .inr (.inr (7, (some k))), .inr (.inr (25, (some 0))), .inl 3, .inl 0, sJk] [] t Q) :
    X 17 0 [.inr (.inr (3, (some 0))), .inr (.inr (7, (some m))), .inr (.inr (7, (some k))), sJk, sJk, sJk, sJk] [] t Q := by
  obtain ⟨hM, hc, hR, hC, hL, hL9⟩ := hW
  refine x_aload_n (pc' := 1) rfl rfl rfl rfl rfl ?_
  refine x_gR (pc' := 4) (r := (some 0)) rfl rfl rfl (kR_192_0 hc.1) ?_
  refine x_gR (pc' := 7) (r := (some 0)) rfl rfl rfl (kR_320_0 hc.1) ?_
  refine x_astore_n (pc' := 8) (ls' := [_, _, _, _, _, _, _]) rfl rfl rfl rfl rfl ?_
  refine x_aload_n (pc' := 9) rfl rfl rfl rfl rfl ?_
  refine x_alen (pc' := 10) (N := 3) rfl rfl rfl (kN_25_0 hc.1) (?_ : X _ _ _ (.inl 3 :: _) _ _)
  refine x_istore (pc' := 12) (ls' := [_, _, _, _, _, _, _]) rfl rfl rfl rfl ?_
  refine x_iconst (pc' := 13) rfl rfl ?_
  refine x_istore (pc' := 15) (ls' := [_, _, _, _, _, _, _]) rfl rfl rfl rfl ?_
  exact k0
set_option maxHeartbeats 4000000 in
set_option maxRecDepth 10000 in
theorem n19_0 {t : sT} {Q : sRs → sT → Prop} {M : sM} {n : Nat} {T : Nat} {L0 : List Nat} {A : Nat} {B : Nat} {m : Nat}
    (hW : Wc t M n T L0 A B)
    (hm : m < 6)
    (k0 : X 19 14 [.inr (.inr (3, (some 0))), .inr (.inr (7, (some m))), .inr (.inr (25, (some 0))), .inl 3, .inl 0, sJk] [] t Q) :
    X 19 0 [.inr (.inr (3, (some 0))), .inr (.inr (7, (some m))), sJk, sJk, sJk, sJk] [] t Q := by
  obtain ⟨hM, hc, hR, hC, hL, hL9⟩ := hW
  refine x_aload_n (pc' := 1) rfl rfl rfl rfl rfl ?_
  refine x_gR (pc' := 4) (r := (some 0)) rfl rfl rfl (kR_192_0 hc.1) ?_
  refine x_gR (pc' := 7) (r := (some 0)) rfl rfl rfl (kR_320_0 hc.1) ?_
  refine x_astore_n (pc' := 8) (ls' := [_, _, _, _, _, _]) rfl rfl rfl rfl rfl ?_
  refine x_aload_n (pc' := 9) rfl rfl rfl rfl rfl ?_
  refine x_alen (pc' := 10) (N := 3) rfl rfl rfl (kN_25_0 hc.1) (?_ : X _ _ _ (.inl 3 :: _) _ _)
  refine x_istore_n (pc' := 11) (ls' := [_, _, _, _, _, _]) rfl rfl rfl rfl ?_
  refine x_iconst (pc' := 12) rfl rfl ?_
  refine x_istore (pc' := 14) (ls' := [_, _, _, _, _, _]) rfl rfl rfl rfl ?_
  exact k0
set_option maxHeartbeats 4000000 in
set_option maxRecDepth 10000 in
theorem n23 {t : sT} {Q : sRs → sT → Prop} {M : sM} {n : Nat} {T : Nat} {L0 : List Nat} {A : Nat} {B : Nat} {m : Nat}
    (hW : Wc t M n T L0 A B)
    (hm : m < 6)
    (k0 : X 24 0 [.inr (.inr (3, (some 0))), .inl (((mx 0 (-(cfdF M n m))) - (mnc (mA M 7 m) (mx 0 (-(cfdF M n m))))) - (mnc (mI M 784) ((mx 0 (-(cfdF M n m))) - (mnc (mA M 7 m) (mx 0 (-(cfdF M n m))))))), sJk, sJk, sJk, sJk, sJk, sJk, sJk, sJk, sJk, sJk, sJk, sJk] [] (sIw (sIw (sIw (sZw (sIw t 324 0 ((mI M 784) - (mnc (mI M 784) ((mx 0 (-(cfdF M n m))) - (mnc (mA M 7 m) (mx 0 (-(cfdF M n m)))))))) 458 m true) 451 m 0) 450 m 0) 452 m 0) (sK 24 23 82 [.inr (.inr (3, (some 0))), .inr (.inr (7, (some m))), .inl ((mx 0 (-(cfdF M n m))) - (mnc (mA M 7 m) (mx 0 (-(cfdF M n m))))), .inl (mnc (mI M 784) ((mx 0 (-(cfdF M n m))) - (mnc (mA M 7 m) (mx 0 (-(cfdF M n m))))))] [.inl (mI M 785), .inr (.inr (5, (some 0)))] Q)) :
    X 23 0 [.inr (.inr (3, (some 0))), .inr (.inr (7, (some m))), sJk, sJk] [] t Q := by
  obtain ⟨hM, hc, hR, hC, hL, hL9⟩ := hW
  refine x_iconst (pc' := 1) rfl rfl ?_
  refine x_aload_n (pc' := 2) rfl rfl rfl rfl rfl ?_
  refine x_gR (pc' := 5) (r := (some 0)) rfl rfl rfl (kR_192_0 hc.1) ?_
  refine x_aload_n (pc' := 6) rfl rfl rfl rfl rfl ?_
  refine x_cv (ls0 := [_, _, sJk, sJk, sJk, sJk, sJk]) (rest := [_]) rfl rfl rfl rfl rfl ?_
  refine c49 hM hc (Fr.ri (Fr.refl _) hR) hm ?_
  refine sK_i (pc' := 9) rfl ?_
  refine x_ineg (pc' := 10) rfl rfl rfl ?_
  refine x_max (pc' := 13) (z := (mx 0 (-(cfdF M n m)))) rfl rfl rfl rfl ?_
  refine x_istore_n (pc' := 14) (ls' := [_, _, _, _]) rfl rfl rfl rfl ?_
  refine x_iload_n (pc' := 15) rfl rfl rfl ?_
  refine x_iload_n (pc' := 16) rfl rfl rfl ?_
  refine x_aload_n (pc' := 17) rfl rfl rfl rfl rfl ?_
  refine x_gI (pc' := 20) (x := (mA M 7 m)) rfl rfl rfl (kA hM rfl hm) ?_
  refine x_min (pc' := 23) (z := (mnc (mA M 7 m) (mx 0 (-(cfdF M n m))))) rfl rfl rfl (if_mnc _ _) ?_
  refine x_isub (pc' := 24) (z := ((mx 0 (-(cfdF M n m))) - (mnc (mA M 7 m) (mx 0 (-(cfdF M n m)))))) rfl rfl rfl ?_
  refine x_istore_n (pc' := 25) (ls' := [_, _, _, _]) rfl rfl rfl rfl ?_
  refine x_iload_n (pc' := 26) rfl rfl rfl ?_
  refine x_aload_n (pc' := 27) rfl rfl rfl rfl rfl ?_
  refine x_gR (pc' := 30) (r := (some 0)) rfl rfl rfl (kR_192_0 hc.1) ?_
  refine x_gI (pc' := 33) (x := (mI M 784)) rfl rfl rfl (kS hM rfl) ?_
  refine x_min (pc' := 36) (z := (mnc (mI M 784) ((mx 0 (-(cfdF M n m))) - (mnc (mA M 7 m) (mx 0 (-(cfdF M n m))))))) rfl rfl rfl (if_mnc _ _) ?_
  refine x_istore_n (pc' := 37) (ls' := [_, _, _, _]) rfl rfl rfl rfl ?_
  refine x_aload_n (pc' := 38) rfl rfl rfl rfl rfl ?_
  refine x_gR (pc' := 41) (r := (some 0)) rfl rfl rfl (kR_192_0 hc.1) ?_
  refine x_dup (pc' := 42) rfl rfl rfl ?_
  refine x_gI (pc' := 45) (x := (mI M 784)) rfl rfl rfl (kS hM rfl) ?_
  refine x_iload_n (pc' := 46) rfl rfl rfl ?_
  refine x_isub (pc' := 47) (z := ((mI M 784) - (mnc (mI M 784) ((mx 0 (-(cfdF M n m))) - (mnc (mA M 7 m) (mx 0 (-(cfdF M n m)))))))) rfl rfl rfl ?_
  refine x_pI (pc' := 50) rfl rfl rfl ?_
  refine x_aload_n (pc' := 51) rfl rfl rfl rfl rfl ?_
  refine x_iconst (pc' := 52) rfl rfl ?_
  refine x_pZ (pc' := 55) (z := true) rfl rfl rfl rfl ?_
  refine x_aload_n (pc' := 56) rfl rfl rfl rfl rfl ?_
  refine x_iconst (pc' := 57) rfl rfl ?_
  refine x_pI (pc' := 60) rfl rfl rfl ?_
  refine x_aload_n (pc' := 61) rfl rfl rfl rfl rfl ?_
  refine x_iconst (pc' := 62) rfl rfl ?_
  refine x_pI (pc' := 65) rfl rfl rfl ?_
  refine x_aload_n (pc' := 66) rfl rfl rfl rfl rfl ?_
  refine x_iconst (pc' := 67) rfl rfl ?_
  refine x_pI (pc' := 70) rfl rfl rfl ?_
  refine x_aload_n (pc' := 71) rfl rfl rfl rfl rfl ?_
  refine x_gR (pc' := 74) (r := (some 0)) rfl rfl rfl (Eq.trans (b := sR t 192 0) rfl (kR_192_0 hc.1)) ?_
  refine x_dup (pc' := 75) rfl rfl rfl ?_
  refine x_gI (pc' := 78) (x := (mI M 785)) rfl rfl rfl (Eq.trans (b := sI t 325 0) rfl (kS hM rfl)) ?_
  refine x_aload_n (pc' := 79) rfl rfl rfl rfl rfl ?_
  refine x_iload_n (pc' := 80) rfl rfl rfl ?_
  refine x_iload_n (pc' := 81) rfl rfl rfl ?_
  refine x_isub (pc' := 82) (z := (((mx 0 (-(cfdF M n m))) - (mnc (mA M 7 m) (mx 0 (-(cfdF M n m))))) - (mnc (mI M 784) ((mx 0 (-(cfdF M n m))) - (mnc (mA M 7 m) (mx 0 (-(cfdF M n m)))))))) rfl rfl rfl ?_
  refine x_cv (ls0 := [_, _, sJk, sJk, sJk, sJk, sJk, sJk, sJk, sJk, sJk, sJk, sJk, sJk]) (rest := [_, _]) rfl rfl rfl rfl rfl ?_
  exact k0
