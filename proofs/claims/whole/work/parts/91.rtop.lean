/-! the reference's calls (printed by tops.py) -/
set_option maxHeartbeats 4000000 in
set_option maxRecDepth 10000 in
theorem r186 {t : sT} {Q : sRs → sT → Prop} {M : sM} {n : Nat} {b : Nat}
    (hV : Vr t M n)
    (hb : b < 5)
    (k0 : ¬ ((mA M 0 b) = 1) → Q (.inl (some (.inl (mA M 0 b)))) (sAw (sIw t 768 0 0) 21 0 b 1))
    (k1 : (mA M 0 b) = 1 → Q (.inl (some (.inl 0))) (sIw t 768 0 2)) :
    X 186 0 [.inr (.inr (12, (some 0))), .inl (io b), sJk] [] t Q := by
  obtain ⟨hM, hc, hR⟩ := hV
  refine x_aload_n (pc' := 1) rfl rfl rfl rfl rfl ?_
  refine x_iload_n (pc' := 2) rfl rfl rfl ?_
  refine x_cs (ls0 := [_]) (rest := [_]) rfl rfl rfl rfl ?_
  refine x_iload_n (pc' := 1) rfl rfl rfl ?_
  refine x_iconst (pc' := 2) rfl rfl ?_
  refine x_iconst (pc' := 3) rfl rfl ?_
  refine x_cs (ls0 := [_, _, _]) (rest := []) rfl rfl rfl rfl ?_
  refine x_iload_n (pc' := 1) rfl rfl rfl ?_
  refine x_iload_n (pc' := 2) rfl rfl rfl ?_
  refine x_icmp (a' := 14) (pc' := 5) (z := decide (b < 0)) rfl rfl rfl (ic_lt (p := b) (q := 0) (gb31 hb) (by decide)) (fun h => absurd (of_decide_eq_true h) (by first | decide | omega | simp)) (fun _ => ?_)
  refine x_iload_n (pc' := 6) rfl rfl rfl ?_
  refine x_iload_n (pc' := 7) rfl rfl rfl ?_
  refine x_icmp (a' := 14) (pc' := 10) (z := decide (4 < b)) rfl rfl rfl (ic_gt (p := b) (q := 4) (gb31 hb) (by decide)) (fun h => absurd (of_decide_eq_true h) (show ¬ 4 < b by omega)) (fun _ => ?_)
  refine x_iconst (pc' := 11) rfl rfl ?_
  refine x_goto (pc' := 15) rfl rfl ?_
  refine x_retz (z := true) rfl rfl ?_
  refine sK_i (pc' := 6) rfl ?_
  refine x_retz (z := true) rfl rfl ?_
  refine sK_i (pc' := 5) rfl ?_
  refine x_if (a' := 12) (pc' := 8) (z := true) rfl rfl rfl (by decide) (fun _ => ?_) (fun h => by cases h)
  refine x_aload_n (pc' := 13) rfl rfl rfl rfl rfl ?_
  refine x_gR (pc' := 16) (r := (some 0)) rfl rfl rfl (kR_769_0 hc) ?_
  refine x_iload_n (pc' := 17) rfl rfl rfl ?_
  refine x_iald (pc' := 18) (N := 5) (x := (mA M 0 b)) rfl rfl rfl (kN_21_0 hc) (io_in (p := b) (N := 5) hb (by decide)) (Eq.trans (congrArg (sA t 21 0) (nn_io (p := b) (Nat.lt_trans hb (by decide)))) (gA hM rfl)) ?_
  refine x_iconst (pc' := 19) rfl rfl ?_
  refine x_icmp_n (a' := 26) (pc' := 22) (z := decide ((mA M 0 b) = 1)) rfl rfl rfl (ik_ne _ _) (fun q4 => ?_) (fun q4 => ?_)
  · refine x_iconst (pc' := 27) rfl rfl ?_
    refine x_cv (ls0 := [_, _]) (rest := []) rfl rfl rfl rfl rfl ?_
    refine x_aload_n (pc' := 1) rfl rfl rfl rfl rfl ?_
    refine x_iload_n (pc' := 2) rfl rfl rfl ?_
    refine x_pI (pc' := 5) rfl rfl rfl ?_
    refine x_iload_n (pc' := 6) rfl rfl rfl ?_
    refine x_if (a' := 13) (pc' := 9) (z := false) rfl rfl rfl (by decide) (fun h => by cases h) (fun _ => ?_)
    refine x_iconst (pc' := 10) rfl rfl ?_
    refine x_goto (pc' := 14) rfl rfl ?_
    refine x_retz (z := true) rfl rfl ?_
    refine sK_i (pc' := 30) rfl ?_
    refine x_if (a' := 35) (pc' := 33) (z := true) rfl rfl rfl (by decide) (fun _ => ?_) (fun h => by cases h)
    refine x_aload_n (pc' := 36) rfl rfl rfl rfl rfl ?_
    refine x_gR (pc' := 39) (r := (some 0)) rfl rfl rfl (Eq.trans (b := sR t 769 0) rfl (kR_769_0 hc)) ?_
    refine x_iload_n (pc' := 40) rfl rfl rfl ?_
    refine x_iald (pc' := 41) (N := 5) (x := (mA M 0 b)) rfl rfl rfl (Eq.trans rdNI (kN_21_0 hc)) (io_in (p := b) (N := 5) hb (by decide)) (Eq.trans (congrArg (sA (sIw t 768 0 0) 21 0) (nn_io (p := b) (Nat.lt_trans hb (by decide)))) (Eq.trans (b := sA t 21 0 b) rfl (gA hM rfl))) ?_
    refine x_istore_n (pc' := 42) (ls' := [_, _, _]) rfl rfl rfl rfl ?_
    refine x_aload_n (pc' := 43) rfl rfl rfl rfl rfl ?_
    refine x_gR (pc' := 46) (r := (some 0)) rfl rfl rfl (Eq.trans (b := sR t 769 0) rfl (kR_769_0 hc)) ?_
    refine x_iload_n (pc' := 47) rfl rfl rfl ?_
    refine x_iconst (pc' := 48) rfl rfl ?_
    refine x_iast (pc' := 49) (N := 5) (p := b) rfl rfl rfl (Eq.trans rdNI (kN_21_0 hc)) (io_in (p := b) (N := 5) hb (by decide)) (nn_io (p := b) (Nat.lt_trans hb (by decide))) ?_
    refine x_iload_n (pc' := 50) rfl rfl rfl ?_
    refine x_reti rfl rfl ?_
    exact k0 (of_decide_eq_false q4)
  · refine x_iconst (pc' := 23) rfl rfl ?_
    refine x_goto (pc' := 27) rfl rfl ?_
    refine x_cv (ls0 := [_, _]) (rest := []) rfl rfl rfl rfl rfl ?_
    refine x_aload_n (pc' := 1) rfl rfl rfl rfl rfl ?_
    refine x_iload_n (pc' := 2) rfl rfl rfl ?_
    refine x_pI (pc' := 5) rfl rfl rfl ?_
    refine x_iload_n (pc' := 6) rfl rfl rfl ?_
    refine x_if (a' := 13) (pc' := 9) (z := true) rfl rfl rfl (by decide) (fun _ => ?_) (fun h => by cases h)
    refine x_iconst (pc' := 14) rfl rfl ?_
    refine x_retz (z := false) rfl rfl ?_
    refine sK_i (pc' := 30) rfl ?_
    refine x_if (a' := 35) (pc' := 33) (z := false) rfl rfl rfl (by decide) (fun h => by cases h) (fun _ => ?_)
    refine x_iconst (pc' := 34) rfl rfl ?_
    refine x_reti rfl rfl ?_
    exact k1 (of_decide_eq_true q4)
set_option maxHeartbeats 4000000 in
set_option maxRecDepth 10000 in
theorem r186_x0 {t : sT} {Q : sRs → sT → Prop} {M : sM} {n : Nat} {x : Int32}
    (hV : Vr t M n)
    (hp : ixo x 5 = none)
    (k0 : Q (.inl (some (.inl 0))) (sIw t 768 0 1)) :
    X 186 0 [.inr (.inr (12, (some 0))), .inl x, sJk] [] t Q := by
  obtain ⟨hM, hc, hR⟩ := hV
  refine x_aload_n (pc' := 1) rfl rfl rfl rfl rfl ?_
  refine x_iload_n (pc' := 2) rfl rfl rfl ?_
  refine x_cs (ls0 := [_]) (rest := [_]) rfl rfl rfl rfl ?_
  refine x_iload_n (pc' := 1) rfl rfl rfl ?_
  refine x_iconst (pc' := 2) rfl rfl ?_
  refine x_iconst (pc' := 3) rfl rfl ?_
  refine x_cs (ls0 := [_, _, _]) (rest := []) rfl rfl rfl rfl ?_
  refine r145_xg (ixo_c5 hp) ?_
  refine sK_i (pc' := 6) rfl ?_
  refine x_retz (z := false) rfl rfl ?_
  refine sK_i (pc' := 5) rfl ?_
  refine x_if (a' := 12) (pc' := 8) (z := false) rfl rfl rfl (by decide) (fun h => by cases h) (fun _ => ?_)
  refine x_iconst (pc' := 9) rfl rfl ?_
  refine x_goto (pc' := 27) rfl rfl ?_
  refine x_cv (ls0 := [_, _]) (rest := []) rfl rfl rfl rfl rfl ?_
  refine x_aload_n (pc' := 1) rfl rfl rfl rfl rfl ?_
  refine x_iload_n (pc' := 2) rfl rfl rfl ?_
  refine x_pI (pc' := 5) rfl rfl rfl ?_
  refine x_iload_n (pc' := 6) rfl rfl rfl ?_
  refine x_if (a' := 13) (pc' := 9) (z := true) rfl rfl rfl (by decide) (fun _ => ?_) (fun h => by cases h)
  refine x_iconst (pc' := 14) rfl rfl ?_
  refine x_retz (z := false) rfl rfl ?_
  refine sK_i (pc' := 30) rfl ?_
  refine x_if (a' := 35) (pc' := 33) (z := false) rfl rfl rfl (by decide) (fun h => by cases h) (fun _ => ?_)
  refine x_iconst (pc' := 34) rfl rfl ?_
  refine x_reti rfl rfl ?_
  exact k0
set_option maxHeartbeats 4000000 in
set_option maxRecDepth 10000 in
theorem r187 {t : sT} {Q : sRs → sT → Prop} {M : sM} {n : Nat} {b : Nat}
    (hV : Vr t M n)
    (hb : b < 5)
    (k0 : ¬ ((mA M 0 b) = 0) → Q (.inl (some (.inl (mA M 0 b)))) (sAw (sIw t 768 0 0) 21 0 b 0))
    (k1 : (mA M 0 b) = 0 → Q (.inl (some (.inl 0))) (sIw t 768 0 2)) :
    X 187 0 [.inr (.inr (12, (some 0))), .inl (io b), sJk] [] t Q := by
  obtain ⟨hM, hc, hR⟩ := hV
  refine x_aload_n (pc' := 1) rfl rfl rfl rfl rfl ?_
  refine x_iload_n (pc' := 2) rfl rfl rfl ?_
  refine x_cs (ls0 := [_]) (rest := [_]) rfl rfl rfl rfl ?_
  refine x_iload_n (pc' := 1) rfl rfl rfl ?_
  refine x_iconst (pc' := 2) rfl rfl ?_
  refine x_iconst (pc' := 3) rfl rfl ?_
  refine x_cs (ls0 := [_, _, _]) (rest := []) rfl rfl rfl rfl ?_
  refine x_iload_n (pc' := 1) rfl rfl rfl ?_
  refine x_iload_n (pc' := 2) rfl rfl rfl ?_
  refine x_icmp (a' := 14) (pc' := 5) (z := decide (b < 0)) rfl rfl rfl (ic_lt (p := b) (q := 0) (gb31 hb) (by decide)) (fun h => absurd (of_decide_eq_true h) (by first | decide | omega | simp)) (fun _ => ?_)
  refine x_iload_n (pc' := 6) rfl rfl rfl ?_
  refine x_iload_n (pc' := 7) rfl rfl rfl ?_
  refine x_icmp (a' := 14) (pc' := 10) (z := decide (4 < b)) rfl rfl rfl (ic_gt (p := b) (q := 4) (gb31 hb) (by decide)) (fun h => absurd (of_decide_eq_true h) (show ¬ 4 < b by omega)) (fun _ => ?_)
  refine x_iconst (pc' := 11) rfl rfl ?_
  refine x_goto (pc' := 15) rfl rfl ?_
  refine x_retz (z := true) rfl rfl ?_
  refine sK_i (pc' := 6) rfl ?_
  refine x_retz (z := true) rfl rfl ?_
  refine sK_i (pc' := 5) rfl ?_
  refine x_if (a' := 12) (pc' := 8) (z := true) rfl rfl rfl (by decide) (fun _ => ?_) (fun h => by cases h)
  refine x_aload_n (pc' := 13) rfl rfl rfl rfl rfl ?_
  refine x_gR (pc' := 16) (r := (some 0)) rfl rfl rfl (kR_769_0 hc) ?_
  refine x_iload_n (pc' := 17) rfl rfl rfl ?_
  refine x_iald (pc' := 18) (N := 5) (x := (mA M 0 b)) rfl rfl rfl (kN_21_0 hc) (io_in (p := b) (N := 5) hb (by decide)) (Eq.trans (congrArg (sA t 21 0) (nn_io (p := b) (Nat.lt_trans hb (by decide)))) (gA hM rfl)) ?_
  refine x_if_n (a' := 25) (pc' := 21) (z := decide ((mA M 0 b) = 0)) rfl rfl rfl (ik_ne _ _) (fun q4 => ?_) (fun q4 => ?_)
  · refine x_iconst (pc' := 26) rfl rfl ?_
    refine x_cv (ls0 := [_, _]) (rest := []) rfl rfl rfl rfl rfl ?_
    refine x_aload_n (pc' := 1) rfl rfl rfl rfl rfl ?_
    refine x_iload_n (pc' := 2) rfl rfl rfl ?_
    refine x_pI (pc' := 5) rfl rfl rfl ?_
    refine x_iload_n (pc' := 6) rfl rfl rfl ?_
    refine x_if (a' := 13) (pc' := 9) (z := false) rfl rfl rfl (by decide) (fun h => by cases h) (fun _ => ?_)
    refine x_iconst (pc' := 10) rfl rfl ?_
    refine x_goto (pc' := 14) rfl rfl ?_
    refine x_retz (z := true) rfl rfl ?_
    refine sK_i (pc' := 29) rfl ?_
    refine x_if (a' := 34) (pc' := 32) (z := true) rfl rfl rfl (by decide) (fun _ => ?_) (fun h => by cases h)
    refine x_aload_n (pc' := 35) rfl rfl rfl rfl rfl ?_
    refine x_gR (pc' := 38) (r := (some 0)) rfl rfl rfl (Eq.trans (b := sR t 769 0) rfl (kR_769_0 hc)) ?_
    refine x_iload_n (pc' := 39) rfl rfl rfl ?_
    refine x_iald (pc' := 40) (N := 5) (x := (mA M 0 b)) rfl rfl rfl (Eq.trans rdNI (kN_21_0 hc)) (io_in (p := b) (N := 5) hb (by decide)) (Eq.trans (congrArg (sA (sIw t 768 0 0) 21 0) (nn_io (p := b) (Nat.lt_trans hb (by decide)))) (Eq.trans (b := sA t 21 0 b) rfl (gA hM rfl))) ?_
    refine x_istore_n (pc' := 41) (ls' := [_, _, _]) rfl rfl rfl rfl ?_
    refine x_aload_n (pc' := 42) rfl rfl rfl rfl rfl ?_
    refine x_gR (pc' := 45) (r := (some 0)) rfl rfl rfl (Eq.trans (b := sR t 769 0) rfl (kR_769_0 hc)) ?_
    refine x_iload_n (pc' := 46) rfl rfl rfl ?_
    refine x_iconst (pc' := 47) rfl rfl ?_
    refine x_iast (pc' := 48) (N := 5) (p := b) rfl rfl rfl (Eq.trans rdNI (kN_21_0 hc)) (io_in (p := b) (N := 5) hb (by decide)) (nn_io (p := b) (Nat.lt_trans hb (by decide))) ?_
    refine x_iload_n (pc' := 49) rfl rfl rfl ?_
    refine x_reti rfl rfl ?_
    exact k0 (of_decide_eq_false q4)
  · refine x_iconst (pc' := 22) rfl rfl ?_
    refine x_goto (pc' := 26) rfl rfl ?_
    refine x_cv (ls0 := [_, _]) (rest := []) rfl rfl rfl rfl rfl ?_
    refine x_aload_n (pc' := 1) rfl rfl rfl rfl rfl ?_
    refine x_iload_n (pc' := 2) rfl rfl rfl ?_
    refine x_pI (pc' := 5) rfl rfl rfl ?_
    refine x_iload_n (pc' := 6) rfl rfl rfl ?_
    refine x_if (a' := 13) (pc' := 9) (z := true) rfl rfl rfl (by decide) (fun _ => ?_) (fun h => by cases h)
    refine x_iconst (pc' := 14) rfl rfl ?_
    refine x_retz (z := false) rfl rfl ?_
    refine sK_i (pc' := 29) rfl ?_
    refine x_if (a' := 34) (pc' := 32) (z := false) rfl rfl rfl (by decide) (fun h => by cases h) (fun _ => ?_)
    refine x_iconst (pc' := 33) rfl rfl ?_
    refine x_reti rfl rfl ?_
    exact k1 (of_decide_eq_true q4)
set_option maxHeartbeats 4000000 in
set_option maxRecDepth 10000 in
theorem r187_x0 {t : sT} {Q : sRs → sT → Prop} {M : sM} {n : Nat} {x : Int32}
    (hV : Vr t M n)
    (hp : ixo x 5 = none)
    (k0 : Q (.inl (some (.inl 0))) (sIw t 768 0 1)) :
    X 187 0 [.inr (.inr (12, (some 0))), .inl x, sJk] [] t Q := by
  obtain ⟨hM, hc, hR⟩ := hV
  refine x_aload_n (pc' := 1) rfl rfl rfl rfl rfl ?_
  refine x_iload_n (pc' := 2) rfl rfl rfl ?_
  refine x_cs (ls0 := [_]) (rest := [_]) rfl rfl rfl rfl ?_
  refine x_iload_n (pc' := 1) rfl rfl rfl ?_
  refine x_iconst (pc' := 2) rfl rfl ?_
  refine x_iconst (pc' := 3) rfl rfl ?_
  refine x_cs (ls0 := [_, _, _]) (rest := []) rfl rfl rfl rfl ?_
  refine r145_xg (ixo_c5 hp) ?_
  refine sK_i (pc' := 6) rfl ?_
  refine x_retz (z := false) rfl rfl ?_
  refine sK_i (pc' := 5) rfl ?_
  refine x_if (a' := 12) (pc' := 8) (z := false) rfl rfl rfl (by decide) (fun h => by cases h) (fun _ => ?_)
  refine x_iconst (pc' := 9) rfl rfl ?_
  refine x_goto (pc' := 26) rfl rfl ?_
  refine x_cv (ls0 := [_, _]) (rest := []) rfl rfl rfl rfl rfl ?_
  refine x_aload_n (pc' := 1) rfl rfl rfl rfl rfl ?_
  refine x_iload_n (pc' := 2) rfl rfl rfl ?_
  refine x_pI (pc' := 5) rfl rfl rfl ?_
  refine x_iload_n (pc' := 6) rfl rfl rfl ?_
  refine x_if (a' := 13) (pc' := 9) (z := true) rfl rfl rfl (by decide) (fun _ => ?_) (fun h => by cases h)
  refine x_iconst (pc' := 14) rfl rfl ?_
  refine x_retz (z := false) rfl rfl ?_
  refine sK_i (pc' := 29) rfl ?_
  refine x_if (a' := 34) (pc' := 32) (z := false) rfl rfl rfl (by decide) (fun h => by cases h) (fun _ => ?_)
  refine x_iconst (pc' := 33) rfl rfl ?_
  refine x_reti rfl rfl ?_
  exact k0
set_option maxHeartbeats 4000000 in
set_option maxRecDepth 10000 in
theorem r193 {t : sT} {Q : sRs → sT → Prop} {M : sM} {n : Nat} {b : Nat} {s : Bool}
    (hV : Vr t M n)
    (hb : b < 5)
    (k0 : Q (.inl (some (.inl (bz (mB M 0 b))))) (sBw (sIw t 768 0 0) 22 0 b s)) :
    X 193 0 [.inr (.inr (12, (some 0))), .inl (io b), .inl (bz s), sJk] [] t Q := by
  obtain ⟨hM, hc, hR⟩ := hV
  refine x_aload_n (pc' := 1) rfl rfl rfl rfl rfl ?_
  refine x_iload_n (pc' := 2) rfl rfl rfl ?_
  refine x_cs (ls0 := [_]) (rest := [_]) rfl rfl rfl rfl ?_
  refine x_iload_n (pc' := 1) rfl rfl rfl ?_
  refine x_iconst (pc' := 2) rfl rfl ?_
  refine x_iconst (pc' := 3) rfl rfl ?_
  refine x_cs (ls0 := [_, _, _]) (rest := []) rfl rfl rfl rfl ?_
  refine x_iload_n (pc' := 1) rfl rfl rfl ?_
  refine x_iload_n (pc' := 2) rfl rfl rfl ?_
  refine x_icmp (a' := 14) (pc' := 5) (z := decide (b < 0)) rfl rfl rfl (ic_lt (p := b) (q := 0) (gb31 hb) (by decide)) (fun h => absurd (of_decide_eq_true h) (by first | decide | omega | simp)) (fun _ => ?_)
  refine x_iload_n (pc' := 6) rfl rfl rfl ?_
  refine x_iload_n (pc' := 7) rfl rfl rfl ?_
  refine x_icmp (a' := 14) (pc' := 10) (z := decide (4 < b)) rfl rfl rfl (ic_gt (p := b) (q := 4) (gb31 hb) (by decide)) (fun h => absurd (of_decide_eq_true h) (show ¬ 4 < b by omega)) (fun _ => ?_)
  refine x_iconst (pc' := 11) rfl rfl ?_
  refine x_goto (pc' := 15) rfl rfl ?_
  refine x_retz (z := true) rfl rfl ?_
  refine sK_i (pc' := 6) rfl ?_
  refine x_retz (z := true) rfl rfl ?_
  refine sK_i (pc' := 5) rfl ?_
  refine x_if (a' := 12) (pc' := 8) (z := false) rfl rfl rfl (by decide) (fun h => by cases h) (fun _ => ?_)
  refine x_iconst (pc' := 9) rfl rfl ?_
  refine x_goto (pc' := 13) rfl rfl ?_
  refine x_cv (ls0 := [_, _]) (rest := []) rfl rfl rfl rfl rfl ?_
  refine x_aload_n (pc' := 1) rfl rfl rfl rfl rfl ?_
  refine x_iload_n (pc' := 2) rfl rfl rfl ?_
  refine x_pI (pc' := 5) rfl rfl rfl ?_
  refine x_iload_n (pc' := 6) rfl rfl rfl ?_
  refine x_if (a' := 13) (pc' := 9) (z := false) rfl rfl rfl (by decide) (fun h => by cases h) (fun _ => ?_)
  refine x_iconst (pc' := 10) rfl rfl ?_
  refine x_goto (pc' := 14) rfl rfl ?_
  refine x_retz (z := true) rfl rfl ?_
  refine sK_i (pc' := 16) rfl ?_
  refine x_if (a' := 21) (pc' := 19) (z := true) rfl rfl rfl (by decide) (fun _ => ?_) (fun h => by cases h)
  refine x_aload_n (pc' := 22) rfl rfl rfl rfl rfl ?_
  refine x_gR (pc' := 25) (r := (some 0)) rfl rfl rfl (Eq.trans (b := sR t 770 0) rfl (kR_770_0 hc)) ?_
  refine x_iload_n (pc' := 26) rfl rfl rfl ?_
  refine x_bald (pc' := 27) (N := 5) (z := (mB M 0 b)) rfl rfl (Eq.trans rdNI (kN_22_0 hc)) (io_in (p := b) (N := 5) hb (by decide)) (Eq.trans (congrArg (sB (sIw t 768 0 0) 22 0) (nn_io (p := b) (Nat.lt_trans hb (by decide)))) (Eq.trans (b := sB t 22 0 b) rfl (gB hM))) ?_
  refine x_istore_n (pc' := 28) (ls' := [_, _, _, _]) rfl rfl rfl rfl ?_
  refine x_aload_n (pc' := 29) rfl rfl rfl rfl rfl ?_
  refine x_gR (pc' := 32) (r := (some 0)) rfl rfl rfl (Eq.trans (b := sR t 770 0) rfl (kR_770_0 hc)) ?_
  refine x_iload_n (pc' := 33) rfl rfl rfl ?_
  refine x_iload_n (pc' := 34) rfl rfl rfl ?_
  refine x_bast (pc' := 35) (N := 5) (p := b) (z := s) rfl rfl (Eq.trans rdNI (kN_22_0 hc)) (io_in (p := b) (N := 5) hb (by decide)) (nn_io (p := b) (Nat.lt_trans hb (by decide))) rfl ?_
  refine x_iload_n (pc' := 36) rfl rfl rfl ?_
  refine x_retz (z := (mB M 0 b)) rfl rfl ?_
  exact k0
set_option maxHeartbeats 4000000 in
set_option maxRecDepth 10000 in
theorem r193_x0 {t : sT} {Q : sRs → sT → Prop} {M : sM} {n : Nat} {x : Int32} {s : Bool}
    (hV : Vr t M n)
    (hp : ixo x 5 = none)
    (k0 : Q (.inl (some (.inl (bz false)))) (sIw t 768 0 1)) :
    X 193 0 [.inr (.inr (12, (some 0))), .inl x, .inl (bz s), sJk] [] t Q := by
  obtain ⟨hM, hc, hR⟩ := hV
  refine x_aload_n (pc' := 1) rfl rfl rfl rfl rfl ?_
  refine x_iload_n (pc' := 2) rfl rfl rfl ?_
  refine x_cs (ls0 := [_]) (rest := [_]) rfl rfl rfl rfl ?_
  refine x_iload_n (pc' := 1) rfl rfl rfl ?_
  refine x_iconst (pc' := 2) rfl rfl ?_
  refine x_iconst (pc' := 3) rfl rfl ?_
  refine x_cs (ls0 := [_, _, _]) (rest := []) rfl rfl rfl rfl ?_
  refine r145_xg (ixo_c5 hp) ?_
  refine sK_i (pc' := 6) rfl ?_
  refine x_retz (z := false) rfl rfl ?_
  refine sK_i (pc' := 5) rfl ?_
  refine x_if (a' := 12) (pc' := 8) (z := true) rfl rfl rfl (by decide) (fun _ => ?_) (fun h => by cases h)
  refine x_iconst (pc' := 13) rfl rfl ?_
  refine x_cv (ls0 := [_, _]) (rest := []) rfl rfl rfl rfl rfl ?_
  refine x_aload_n (pc' := 1) rfl rfl rfl rfl rfl ?_
  refine x_iload_n (pc' := 2) rfl rfl rfl ?_
  refine x_pI (pc' := 5) rfl rfl rfl ?_
  refine x_iload_n (pc' := 6) rfl rfl rfl ?_
  refine x_if (a' := 13) (pc' := 9) (z := true) rfl rfl rfl (by decide) (fun _ => ?_) (fun h => by cases h)
  refine x_iconst (pc' := 14) rfl rfl ?_
  refine x_retz (z := false) rfl rfl ?_
  refine sK_i (pc' := 16) rfl ?_
  refine x_if (a' := 21) (pc' := 19) (z := false) rfl rfl rfl (by decide) (fun h => by cases h) (fun _ => ?_)
  refine x_iconst (pc' := 20) rfl rfl ?_
  refine x_retz (z := false) rfl rfl ?_
  exact k0
set_option maxHeartbeats 4000000 in
set_option maxRecDepth 10000 in
theorem r194 {t : sT} {Q : sRs → sT → Prop} {M : sM} {n : Nat} {c : Nat} {p : Int32} {u : Int32}
    (hV : Vr t M n)
    (hc3 : c < 3)
    (k0 : p < 1 → Q (.inl none) (sIw t 768 0 2))
    (k1 : ¬ (p < 1) → 999 < p → Q (.inl none) (sIw t 768 0 2))
    (k2 : ¬ (p < 1) → ¬ (999 < p) → u < 0 → Q (.inl none) (sIw t 768 0 2))
    (k3 : ¬ (p < 1) → ¬ (999 < p) → ¬ (u < 0) → 999 < u → Q (.inl none) (sIw t 768 0 2))
    (k4 : ¬ (p < 1) → ¬ (999 < p) → ¬ (u < 0) → ¬ (999 < u) → Q (.inl none) (sAw (sAw (sIw t 768 0 0) 21 2 c p) 21 3 c u)) :
    X 194 0 [.inr (.inr (12, (some 0))), .inl (io c), .inl p, .inl u] [] t Q := by
  obtain ⟨hM, hc, hR⟩ := hV
  refine x_aload_n (pc' := 1) rfl rfl rfl rfl rfl ?_
  refine x_iload_n (pc' := 2) rfl rfl rfl ?_
  refine x_cs (ls0 := [_]) (rest := [_]) rfl rfl rfl rfl ?_
  refine x_iload_n (pc' := 1) rfl rfl rfl ?_
  refine x_iconst (pc' := 2) rfl rfl ?_
  refine x_iconst (pc' := 3) rfl rfl ?_
  refine x_cs (ls0 := [_, _, _]) (rest := []) rfl rfl rfl rfl ?_
  refine x_iload_n (pc' := 1) rfl rfl rfl ?_
  refine x_iload_n (pc' := 2) rfl rfl rfl ?_
  refine x_icmp (a' := 14) (pc' := 5) (z := decide (c < 0)) rfl rfl rfl (ic_lt (p := c) (q := 0) (gc31 hc3) (by decide)) (fun h => absurd (of_decide_eq_true h) (by first | decide | omega | simp)) (fun _ => ?_)
  refine x_iload_n (pc' := 6) rfl rfl rfl ?_
  refine x_iload_n (pc' := 7) rfl rfl rfl ?_
  refine x_icmp (a' := 14) (pc' := 10) (z := decide (2 < c)) rfl rfl rfl (ic_gt (p := c) (q := 2) (gc31 hc3) (by decide)) (fun h => absurd (of_decide_eq_true h) (show ¬ 2 < c by omega)) (fun _ => ?_)
  refine x_iconst (pc' := 11) rfl rfl ?_
  refine x_goto (pc' := 15) rfl rfl ?_
  refine x_retz (z := true) rfl rfl ?_
  refine sK_i (pc' := 6) rfl ?_
  refine x_retz (z := true) rfl rfl ?_
  refine sK_i (pc' := 5) rfl ?_
  refine x_if (a' := 12) (pc' := 8) (z := true) rfl rfl rfl (by decide) (fun _ => ?_) (fun h => by cases h)
  refine x_iload_n (pc' := 13) rfl rfl rfl ?_
  refine x_iconst (pc' := 14) rfl rfl ?_
  refine x_sipush (pc' := 17) rfl rfl ?_
  refine x_cs (ls0 := [_, _, _]) (rest := [_]) rfl rfl rfl rfl ?_
  refine x_iload_n (pc' := 1) rfl rfl rfl ?_
  refine x_iload_n (pc' := 2) rfl rfl rfl ?_
  refine x_icmp (a' := 14) (pc' := 5) (z := decide (p < 1)) rfl rfl rfl rfl (fun q4 => ?_) (fun q4 => ?_)
  · refine x_iconst (pc' := 15) rfl rfl ?_
    refine x_retz (z := false) rfl rfl ?_
    refine sK_i (pc' := 20) rfl ?_
    refine x_if (a' := 38) (pc' := 23) (z := true) rfl rfl rfl (by decide) (fun _ => ?_) (fun h => by cases h)
    refine x_iconst (pc' := 39) rfl rfl ?_
    refine x_cv (ls0 := [_, _]) (rest := []) rfl rfl rfl rfl rfl ?_
    refine x_aload_n (pc' := 1) rfl rfl rfl rfl rfl ?_
    refine x_iload_n (pc' := 2) rfl rfl rfl ?_
    refine x_pI (pc' := 5) rfl rfl rfl ?_
    refine x_iload_n (pc' := 6) rfl rfl rfl ?_
    refine x_if (a' := 13) (pc' := 9) (z := true) rfl rfl rfl (by decide) (fun _ => ?_) (fun h => by cases h)
    refine x_iconst (pc' := 14) rfl rfl ?_
    refine x_retz (z := false) rfl rfl ?_
    refine sK_i (pc' := 42) rfl ?_
    refine x_if (a' := 59) (pc' := 45) (z := true) rfl rfl rfl (by decide) (fun _ => ?_) (fun h => by cases h)
    refine x_ret rfl ?_
    exact k0 (of_decide_eq_true q4)
  · refine x_iload_n (pc' := 6) rfl rfl rfl ?_
    refine x_iload_n (pc' := 7) rfl rfl rfl ?_
    refine x_icmp (a' := 14) (pc' := 10) (z := decide (999 < p)) rfl rfl rfl rfl (fun q8 => ?_) (fun q8 => ?_)
    · refine x_iconst (pc' := 15) rfl rfl ?_
      refine x_retz (z := false) rfl rfl ?_
      refine sK_i (pc' := 20) rfl ?_
      refine x_if (a' := 38) (pc' := 23) (z := true) rfl rfl rfl (by decide) (fun _ => ?_) (fun h => by cases h)
      refine x_iconst (pc' := 39) rfl rfl ?_
      refine x_cv (ls0 := [_, _]) (rest := []) rfl rfl rfl rfl rfl ?_
      refine x_aload_n (pc' := 1) rfl rfl rfl rfl rfl ?_
      refine x_iload_n (pc' := 2) rfl rfl rfl ?_
      refine x_pI (pc' := 5) rfl rfl rfl ?_
      refine x_iload_n (pc' := 6) rfl rfl rfl ?_
      refine x_if (a' := 13) (pc' := 9) (z := true) rfl rfl rfl (by decide) (fun _ => ?_) (fun h => by cases h)
      refine x_iconst (pc' := 14) rfl rfl ?_
      refine x_retz (z := false) rfl rfl ?_
      refine sK_i (pc' := 42) rfl ?_
      refine x_if (a' := 59) (pc' := 45) (z := true) rfl rfl rfl (by decide) (fun _ => ?_) (fun h => by cases h)
      refine x_ret rfl ?_
      exact k1 (of_decide_eq_false q4) (of_decide_eq_true q8)
    · refine x_iconst (pc' := 11) rfl rfl ?_
      refine x_goto (pc' := 15) rfl rfl ?_
      refine x_retz (z := true) rfl rfl ?_
      refine sK_i (pc' := 20) rfl ?_
      refine x_if (a' := 38) (pc' := 23) (z := false) rfl rfl rfl (by decide) (fun h => by cases h) (fun _ => ?_)
      refine x_iload_n (pc' := 24) rfl rfl rfl ?_
      refine x_iconst (pc' := 25) rfl rfl ?_
      refine x_sipush (pc' := 28) rfl rfl ?_
      refine x_cs (ls0 := [_, _, _]) (rest := [_]) rfl rfl rfl rfl ?_
      refine x_iload_n (pc' := 1) rfl rfl rfl ?_
      refine x_iload_n (pc' := 2) rfl rfl rfl ?_
      refine x_icmp (a' := 14) (pc' := 5) (z := decide (u < 0)) rfl rfl rfl rfl (fun q13 => ?_) (fun q13 => ?_)
      · refine x_iconst (pc' := 15) rfl rfl ?_
        refine x_retz (z := false) rfl rfl ?_
        refine sK_i (pc' := 31) rfl ?_
        refine x_if (a' := 38) (pc' := 34) (z := true) rfl rfl rfl (by decide) (fun _ => ?_) (fun h => by cases h)
        refine x_iconst (pc' := 39) rfl rfl ?_
        refine x_cv (ls0 := [_, _]) (rest := []) rfl rfl rfl rfl rfl ?_
        refine x_aload_n (pc' := 1) rfl rfl rfl rfl rfl ?_
        refine x_iload_n (pc' := 2) rfl rfl rfl ?_
        refine x_pI (pc' := 5) rfl rfl rfl ?_
        refine x_iload_n (pc' := 6) rfl rfl rfl ?_
        refine x_if (a' := 13) (pc' := 9) (z := true) rfl rfl rfl (by decide) (fun _ => ?_) (fun h => by cases h)
        refine x_iconst (pc' := 14) rfl rfl ?_
        refine x_retz (z := false) rfl rfl ?_
        refine sK_i (pc' := 42) rfl ?_
        refine x_if (a' := 59) (pc' := 45) (z := true) rfl rfl rfl (by decide) (fun _ => ?_) (fun h => by cases h)
        refine x_ret rfl ?_
        exact k2 (of_decide_eq_false q4) (of_decide_eq_false q8) (of_decide_eq_true q13)
      · refine x_iload_n (pc' := 6) rfl rfl rfl ?_
        refine x_iload_n (pc' := 7) rfl rfl rfl ?_
        refine x_icmp (a' := 14) (pc' := 10) (z := decide (999 < u)) rfl rfl rfl rfl (fun q17 => ?_) (fun q17 => ?_)
        · refine x_iconst (pc' := 15) rfl rfl ?_
          refine x_retz (z := false) rfl rfl ?_
          refine sK_i (pc' := 31) rfl ?_
          refine x_if (a' := 38) (pc' := 34) (z := true) rfl rfl rfl (by decide) (fun _ => ?_) (fun h => by cases h)
          refine x_iconst (pc' := 39) rfl rfl ?_
          refine x_cv (ls0 := [_, _]) (rest := []) rfl rfl rfl rfl rfl ?_
          refine x_aload_n (pc' := 1) rfl rfl rfl rfl rfl ?_
          refine x_iload_n (pc' := 2) rfl rfl rfl ?_
          refine x_pI (pc' := 5) rfl rfl rfl ?_
          refine x_iload_n (pc' := 6) rfl rfl rfl ?_
          refine x_if (a' := 13) (pc' := 9) (z := true) rfl rfl rfl (by decide) (fun _ => ?_) (fun h => by cases h)
          refine x_iconst (pc' := 14) rfl rfl ?_
          refine x_retz (z := false) rfl rfl ?_
          refine sK_i (pc' := 42) rfl ?_
          refine x_if (a' := 59) (pc' := 45) (z := true) rfl rfl rfl (by decide) (fun _ => ?_) (fun h => by cases h)
          refine x_ret rfl ?_
          exact k3 (of_decide_eq_false q4) (of_decide_eq_false q8) (of_decide_eq_false q13) (of_decide_eq_true q17)
        · refine x_iconst (pc' := 11) rfl rfl ?_
          refine x_goto (pc' := 15) rfl rfl ?_
          refine x_retz (z := true) rfl rfl ?_
          refine sK_i (pc' := 31) rfl ?_
          refine x_if (a' := 38) (pc' := 34) (z := false) rfl rfl rfl (by decide) (fun h => by cases h) (fun _ => ?_)
          refine x_iconst (pc' := 35) rfl rfl ?_
          refine x_goto (pc' := 39) rfl rfl ?_
          refine x_cv (ls0 := [_, _]) (rest := []) rfl rfl rfl rfl rfl ?_
          refine x_aload_n (pc' := 1) rfl rfl rfl rfl rfl ?_
          refine x_iload_n (pc' := 2) rfl rfl rfl ?_
          refine x_pI (pc' := 5) rfl rfl rfl ?_
          refine x_iload_n (pc' := 6) rfl rfl rfl ?_
          refine x_if (a' := 13) (pc' := 9) (z := false) rfl rfl rfl (by decide) (fun h => by cases h) (fun _ => ?_)
          refine x_iconst (pc' := 10) rfl rfl ?_
          refine x_goto (pc' := 14) rfl rfl ?_
          refine x_retz (z := true) rfl rfl ?_
          refine sK_i (pc' := 42) rfl ?_
          refine x_if (a' := 59) (pc' := 45) (z := false) rfl rfl rfl (by decide) (fun h => by cases h) (fun _ => ?_)
          refine x_aload_n (pc' := 46) rfl rfl rfl rfl rfl ?_
          refine x_gR (pc' := 49) (r := (some 2)) rfl rfl rfl (Eq.trans (b := sR t 772 0) rfl (kR_772_0 hc)) ?_
          refine x_iload_n (pc' := 50) rfl rfl rfl ?_
          refine x_iload_n (pc' := 51) rfl rfl rfl ?_
          refine x_iast (pc' := 52) (N := 3) (p := c) rfl rfl rfl (Eq.trans rdNI (kN_21_2 hc)) (io_in (p := c) (N := 3) hc3 (by decide)) (nn_io (p := c) (Nat.lt_trans hc3 (by decide))) ?_
          refine x_aload_n (pc' := 53) rfl rfl rfl rfl rfl ?_
          refine x_gR (pc' := 56) (r := (some 3)) rfl rfl rfl (Eq.trans (b := sR t 773 0) rfl (kR_773_0 hc)) ?_
          refine x_iload_n (pc' := 57) rfl rfl rfl ?_
          refine x_iload_n (pc' := 58) rfl rfl rfl ?_
          refine x_iast (pc' := 59) (N := 3) (p := c) rfl rfl rfl (Eq.trans rdNA (Eq.trans rdNI (kN_21_3 hc))) (io_in (p := c) (N := 3) hc3 (by decide)) (nn_io (p := c) (Nat.lt_trans hc3 (by decide))) ?_
          refine x_ret rfl ?_
          exact k4 (of_decide_eq_false q4) (of_decide_eq_false q8) (of_decide_eq_false q13) (of_decide_eq_false q17)
set_option maxHeartbeats 4000000 in
set_option maxRecDepth 10000 in
theorem r194_x0 {t : sT} {Q : sRs → sT → Prop} {M : sM} {n : Nat} {x : Int32} {p : Int32} {u : Int32}
    (hV : Vr t M n)
    (hp : ixo x 3 = none)
    (k0 : Q (.inl none) (sIw t 768 0 1)) :
    X 194 0 [.inr (.inr (12, (some 0))), .inl x, .inl p, .inl u] [] t Q := by
  obtain ⟨hM, hc, hR⟩ := hV
  refine x_aload_n (pc' := 1) rfl rfl rfl rfl rfl ?_
  refine x_iload_n (pc' := 2) rfl rfl rfl ?_
  refine x_cs (ls0 := [_]) (rest := [_]) rfl rfl rfl rfl ?_
  refine x_iload_n (pc' := 1) rfl rfl rfl ?_
  refine x_iconst (pc' := 2) rfl rfl ?_
  refine x_iconst (pc' := 3) rfl rfl ?_
  refine x_cs (ls0 := [_, _, _]) (rest := []) rfl rfl rfl rfl ?_
  refine r145_xg (ixo_c3 hp) ?_
  refine sK_i (pc' := 6) rfl ?_
  refine x_retz (z := false) rfl rfl ?_
  refine sK_i (pc' := 5) rfl ?_
  refine x_if (a' := 12) (pc' := 8) (z := false) rfl rfl rfl (by decide) (fun h => by cases h) (fun _ => ?_)
  refine x_iconst (pc' := 9) rfl rfl ?_
  refine x_goto (pc' := 39) rfl rfl ?_
  refine x_cv (ls0 := [_, _]) (rest := []) rfl rfl rfl rfl rfl ?_
  refine x_aload_n (pc' := 1) rfl rfl rfl rfl rfl ?_
  refine x_iload_n (pc' := 2) rfl rfl rfl ?_
  refine x_pI (pc' := 5) rfl rfl rfl ?_
  refine x_iload_n (pc' := 6) rfl rfl rfl ?_
  refine x_if (a' := 13) (pc' := 9) (z := true) rfl rfl rfl (by decide) (fun _ => ?_) (fun h => by cases h)
  refine x_iconst (pc' := 14) rfl rfl ?_
  refine x_retz (z := false) rfl rfl ?_
  refine sK_i (pc' := 42) rfl ?_
  refine x_if (a' := 59) (pc' := 45) (z := true) rfl rfl rfl (by decide) (fun _ => ?_) (fun h => by cases h)
  refine x_ret rfl ?_
  exact k0
set_option maxHeartbeats 4000000 in
set_option maxRecDepth 10000 in
theorem r195 {t : sT} {Q : sRs → sT → Prop} {M : sM} {n : Nat} {m : Nat} {p : Int32}
    (hV : Vr t M n)
    (hm : m < 6)
    (k0 : p < (-1000000) → Q (.inl (some (.inl 0))) (sIw t 768 0 2))
    (k1 : ¬ (p < (-1000000)) → 1000000 < p → Q (.inl (some (.inl 0))) (sIw t 768 0 2))
    (k2 : ¬ (p < (-1000000)) → ¬ (1000000 < p) → (mB M 2 m) = true → Q (.inl (some (.inl 0))) (sIw t 768 0 3))
    (k3 : ¬ (p < (-1000000)) → ¬ (1000000 < p) → (mB M 2 m) = false → ((mA M 4 m) + p) < 0 → Q (.inl (some (.inl 0))) (sIw t 768 0 3))
    (k4 : ¬ (p < (-1000000)) → ¬ (1000000 < p) → (mB M 2 m) = false → ¬ (((mA M 4 m) + p) < 0) → 100000000 < ((mA M 4 m) + p) → Q (.inl (some (.inl 0))) (sIw t 768 0 3))
    (k5 : ¬ (p < (-1000000)) → ¬ (1000000 < p) → (mB M 2 m) = false → ¬ (((mA M 4 m) + p) < 0) → ¬ (100000000 < ((mA M 4 m) + p)) → ¬ (p < 0) → Q (.inl (some (.inl ((mA M 4 m) + p)))) (sAw (sIw t 768 0 0) 21 4 m ((mA M 4 m) + p)))
    (k6 : ¬ (p < (-1000000)) → ¬ (1000000 < p) → (mB M 2 m) = false → ¬ (((mA M 4 m) + p) < 0) → ¬ (100000000 < ((mA M 4 m) + p)) → p < 0 → ((fdF M n m) + p) < (ndF M n m) → Q (.inl (some (.inl 0))) (sIw t 768 0 3))
    (k7 : ¬ (p < (-1000000)) → ¬ (1000000 < p) → (mB M 2 m) = false → ¬ (((mA M 4 m) + p) < 0) → ¬ (100000000 < ((mA M 4 m) + p)) → p < 0 → ¬ (((fdF M n m) + p) < (ndF M n m)) → Q (.inl (some (.inl ((mA M 4 m) + p)))) (sAw (sIw t 768 0 0) 21 4 m ((mA M 4 m) + p))) :
    X 195 0 [.inr (.inr (12, (some 0))), .inl (io m), .inl p, sJk, sJk, sJk] [] t Q := by
  obtain ⟨hM, hc, hR⟩ := hV
  refine x_iload_n (pc' := 1) rfl rfl rfl ?_
  refine x_cs (ls0 := [_]) (rest := []) rfl rfl rfl rfl ?_
  refine x_iload_n (pc' := 1) rfl rfl rfl ?_
  refine x_iconst (pc' := 2) rfl rfl ?_
  refine x_iconst (pc' := 3) rfl rfl ?_
  refine x_cs (ls0 := [_, _, _]) (rest := []) rfl rfl rfl rfl ?_
  refine x_iload_n (pc' := 1) rfl rfl rfl ?_
  refine x_iload_n (pc' := 2) rfl rfl rfl ?_
  refine x_icmp (a' := 14) (pc' := 5) (z := decide (m < 0)) rfl rfl rfl (ic_lt (p := m) (q := 0) (gm31 hm) (by decide)) (fun h => absurd (of_decide_eq_true h) (by first | decide | omega | simp)) (fun _ => ?_)
  refine x_iload_n (pc' := 6) rfl rfl rfl ?_
  refine x_iload_n (pc' := 7) rfl rfl rfl ?_
  refine x_icmp (a' := 14) (pc' := 10) (z := decide (5 < m)) rfl rfl rfl (ic_gt (p := m) (q := 5) (gm31 hm) (by decide)) (fun h => absurd (of_decide_eq_true h) (show ¬ 5 < m by omega)) (fun _ => ?_)
  refine x_iconst (pc' := 11) rfl rfl ?_
  refine x_goto (pc' := 15) rfl rfl ?_
  refine x_retz (z := true) rfl rfl ?_
  refine sK_i (pc' := 6) rfl ?_
  refine x_retz (z := true) rfl rfl ?_
  refine sK_i (pc' := 4) rfl ?_
  refine x_istore_n (pc' := 5) (ls' := [_, _, _, _, _, _]) rfl rfl rfl rfl ?_
  refine x_iload_n (pc' := 6) rfl rfl rfl ?_
  refine x_ldc_w (pc' := 9) rfl rfl ?_
  refine x_ldc_w (pc' := 12) rfl rfl ?_
  refine x_cs (ls0 := [_, _, _]) (rest := []) rfl rfl rfl rfl ?_
  refine x_iload_n (pc' := 1) rfl rfl rfl ?_
  refine x_iload_n (pc' := 2) rfl rfl rfl ?_
  refine x_icmp (a' := 14) (pc' := 5) (z := decide (p < (-1000000))) rfl rfl rfl rfl (fun q3 => ?_) (fun q3 => ?_)
  · refine x_iconst (pc' := 15) rfl rfl ?_
    refine x_retz (z := false) rfl rfl ?_
    refine sK_i (pc' := 15) rfl ?_
    refine x_istore (pc' := 17) (ls' := [_, _, _, _, _, _]) rfl rfl rfl rfl ?_
    refine x_iload_n (pc' := 18) rfl rfl rfl ?_
    refine x_if (a' := 76) (pc' := 21) (z := false) rfl rfl rfl (by decide) (fun h => by cases h) (fun _ => ?_)
    refine x_iload (pc' := 23) rfl rfl rfl ?_
    refine x_if (a' := 76) (pc' := 26) (z := true) rfl rfl rfl (by decide) (fun _ => ?_) (fun h => by cases h)
    refine x_iconst (pc' := 77) rfl rfl ?_
    refine x_istore (pc' := 79) (ls' := [_, _, _, _, _, _]) rfl rfl rfl rfl ?_
    refine x_aload_n (pc' := 80) rfl rfl rfl rfl rfl ?_
    refine x_iload_n (pc' := 81) rfl rfl rfl ?_
    refine x_if (a' := 88) (pc' := 84) (z := true) rfl rfl rfl (by decide) (fun _ => ?_) (fun h => by cases h)
    refine x_iload (pc' := 90) rfl rfl rfl ?_
    refine x_if (a' := 97) (pc' := 93) (z := false) rfl rfl rfl (by decide) (fun h => by cases h) (fun _ => ?_)
    refine x_iconst (pc' := 94) rfl rfl ?_
    refine x_goto (pc' := 107) rfl rfl ?_
    refine x_cv (ls0 := [_, _]) (rest := []) rfl rfl rfl rfl rfl ?_
    refine x_aload_n (pc' := 1) rfl rfl rfl rfl rfl ?_
    refine x_iload_n (pc' := 2) rfl rfl rfl ?_
    refine x_pI (pc' := 5) rfl rfl rfl ?_
    refine x_iload_n (pc' := 6) rfl rfl rfl ?_
    refine x_if (a' := 13) (pc' := 9) (z := true) rfl rfl rfl (by decide) (fun _ => ?_) (fun h => by cases h)
    refine x_iconst (pc' := 14) rfl rfl ?_
    refine x_retz (z := false) rfl rfl ?_
    refine sK_i (pc' := 110) rfl ?_
    refine x_if (a' := 115) (pc' := 113) (z := false) rfl rfl rfl (by decide) (fun h => by cases h) (fun _ => ?_)
    refine x_iconst (pc' := 114) rfl rfl ?_
    refine x_reti rfl rfl ?_
    exact k0 (of_decide_eq_true q3)
  · refine x_iload_n (pc' := 6) rfl rfl rfl ?_
    refine x_iload_n (pc' := 7) rfl rfl rfl ?_
    refine x_icmp (a' := 14) (pc' := 10) (z := decide (1000000 < p)) rfl rfl rfl rfl (fun q10 => ?_) (fun q10 => ?_)
    · refine x_iconst (pc' := 15) rfl rfl ?_
      refine x_retz (z := false) rfl rfl ?_
      refine sK_i (pc' := 15) rfl ?_
      refine x_istore (pc' := 17) (ls' := [_, _, _, _, _, _]) rfl rfl rfl rfl ?_
      refine x_iload_n (pc' := 18) rfl rfl rfl ?_
      refine x_if (a' := 76) (pc' := 21) (z := false) rfl rfl rfl (by decide) (fun h => by cases h) (fun _ => ?_)
      refine x_iload (pc' := 23) rfl rfl rfl ?_
      refine x_if (a' := 76) (pc' := 26) (z := true) rfl rfl rfl (by decide) (fun _ => ?_) (fun h => by cases h)
      refine x_iconst (pc' := 77) rfl rfl ?_
      refine x_istore (pc' := 79) (ls' := [_, _, _, _, _, _]) rfl rfl rfl rfl ?_
      refine x_aload_n (pc' := 80) rfl rfl rfl rfl rfl ?_
      refine x_iload_n (pc' := 81) rfl rfl rfl ?_
      refine x_if (a' := 88) (pc' := 84) (z := true) rfl rfl rfl (by decide) (fun _ => ?_) (fun h => by cases h)
      refine x_iload (pc' := 90) rfl rfl rfl ?_
      refine x_if (a' := 97) (pc' := 93) (z := false) rfl rfl rfl (by decide) (fun h => by cases h) (fun _ => ?_)
      refine x_iconst (pc' := 94) rfl rfl ?_
      refine x_goto (pc' := 107) rfl rfl ?_
      refine x_cv (ls0 := [_, _]) (rest := []) rfl rfl rfl rfl rfl ?_
      refine x_aload_n (pc' := 1) rfl rfl rfl rfl rfl ?_
      refine x_iload_n (pc' := 2) rfl rfl rfl ?_
      refine x_pI (pc' := 5) rfl rfl rfl ?_
      refine x_iload_n (pc' := 6) rfl rfl rfl ?_
      refine x_if (a' := 13) (pc' := 9) (z := true) rfl rfl rfl (by decide) (fun _ => ?_) (fun h => by cases h)
      refine x_iconst (pc' := 14) rfl rfl ?_
      refine x_retz (z := false) rfl rfl ?_
      refine sK_i (pc' := 110) rfl ?_
      refine x_if (a' := 115) (pc' := 113) (z := false) rfl rfl rfl (by decide) (fun h => by cases h) (fun _ => ?_)
      refine x_iconst (pc' := 114) rfl rfl ?_
      refine x_reti rfl rfl ?_
      exact k1 (of_decide_eq_false q3) (of_decide_eq_true q10)
    · refine x_iconst (pc' := 11) rfl rfl ?_
      refine x_goto (pc' := 15) rfl rfl ?_
      refine x_retz (z := true) rfl rfl ?_
      refine sK_i (pc' := 15) rfl ?_
      refine x_istore (pc' := 17) (ls' := [_, _, _, _, _, _]) rfl rfl rfl rfl ?_
      refine x_iload_n (pc' := 18) rfl rfl rfl ?_
      refine x_if (a' := 76) (pc' := 21) (z := false) rfl rfl rfl (by decide) (fun h => by cases h) (fun _ => ?_)
      refine x_iload (pc' := 23) rfl rfl rfl ?_
      refine x_if (a' := 76) (pc' := 26) (z := false) rfl rfl rfl (by decide) (fun h => by cases h) (fun _ => ?_)
      refine x_aload_n (pc' := 27) rfl rfl rfl rfl rfl ?_
      refine x_gR (pc' := 30) (r := (some 2)) rfl rfl rfl (kR_781_0 hc) ?_
      refine x_iload_n (pc' := 31) rfl rfl rfl ?_
      refine x_bald (pc' := 32) (N := 6) (z := (mB M 2 m)) rfl rfl (kN_22_2 hc) (io_in (p := m) (N := 6) hm (by decide)) (Eq.trans (congrArg (sB t 22 2) (nn_io (p := m) (Nat.lt_trans hm (by decide)))) (gB hM)) ?_
      refine x_ifne_z (a' := 76) (pc' := 35) (z := (mB M 2 m)) rfl rfl rfl (fun q19 => ?_) (fun q19 => ?_)
      · refine x_iconst (pc' := 77) rfl rfl ?_
        refine x_istore (pc' := 79) (ls' := [_, _, _, _, _, _]) rfl rfl rfl rfl ?_
        refine x_aload_n (pc' := 80) rfl rfl rfl rfl rfl ?_
        refine x_iload_n (pc' := 81) rfl rfl rfl ?_
        refine x_if (a' := 88) (pc' := 84) (z := true) rfl rfl rfl (by decide) (fun _ => ?_) (fun h => by cases h)
        refine x_iload (pc' := 90) rfl rfl rfl ?_
        refine x_if (a' := 97) (pc' := 93) (z := true) rfl rfl rfl (by decide) (fun _ => ?_) (fun h => by cases h)
        refine x_iload (pc' := 99) rfl rfl rfl ?_
        refine x_if (a' := 106) (pc' := 102) (z := true) rfl rfl rfl (by decide) (fun _ => ?_) (fun h => by cases h)
        refine x_iconst (pc' := 107) rfl rfl ?_
        refine x_cv (ls0 := [_, _]) (rest := []) rfl rfl rfl rfl rfl ?_
        refine x_aload_n (pc' := 1) rfl rfl rfl rfl rfl ?_
        refine x_iload_n (pc' := 2) rfl rfl rfl ?_
        refine x_pI (pc' := 5) rfl rfl rfl ?_
        refine x_iload_n (pc' := 6) rfl rfl rfl ?_
        refine x_if (a' := 13) (pc' := 9) (z := true) rfl rfl rfl (by decide) (fun _ => ?_) (fun h => by cases h)
        refine x_iconst (pc' := 14) rfl rfl ?_
        refine x_retz (z := false) rfl rfl ?_
        refine sK_i (pc' := 110) rfl ?_
        refine x_if (a' := 115) (pc' := 113) (z := false) rfl rfl rfl (by decide) (fun h => by cases h) (fun _ => ?_)
        refine x_iconst (pc' := 114) rfl rfl ?_
        refine x_reti rfl rfl ?_
        exact k2 (of_decide_eq_false q3) (of_decide_eq_false q10) q19
      · refine x_aload_n (pc' := 36) rfl rfl rfl rfl rfl ?_
        refine x_gR (pc' := 39) (r := (some 4)) rfl rfl rfl (kR_774_0 hc) ?_
        refine x_iload_n (pc' := 40) rfl rfl rfl ?_
        refine x_iald (pc' := 41) (N := 6) (x := (mA M 4 m)) rfl rfl rfl (kN_21_4 hc) (io_in (p := m) (N := 6) hm (by decide)) (Eq.trans (congrArg (sA t 21 4) (nn_io (p := m) (Nat.lt_trans hm (by decide)))) (gA hM rfl)) ?_
        refine x_iload_n (pc' := 42) rfl rfl rfl ?_
        refine x_iadd (pc' := 43) (z := ((mA M 4 m) + p)) rfl rfl rfl ?_
        refine x_iconst (pc' := 44) rfl rfl ?_
        refine x_ldc_w (pc' := 47) rfl rfl ?_
        refine x_cs (ls0 := [_, _, _]) (rest := []) rfl rfl rfl rfl ?_
        refine x_iload_n (pc' := 1) rfl rfl rfl ?_
        refine x_iload_n (pc' := 2) rfl rfl rfl ?_
        refine x_icmp (a' := 14) (pc' := 5) (z := decide (((mA M 4 m) + p) < 0)) rfl rfl rfl rfl (fun q25 => ?_) (fun q25 => ?_)
        · refine x_iconst (pc' := 15) rfl rfl ?_
          refine x_retz (z := false) rfl rfl ?_
          refine sK_i (pc' := 50) rfl ?_
          refine x_if (a' := 76) (pc' := 53) (z := true) rfl rfl rfl (by decide) (fun _ => ?_) (fun h => by cases h)
          refine x_iconst (pc' := 77) rfl rfl ?_
          refine x_istore (pc' := 79) (ls' := [_, _, _, _, _, _]) rfl rfl rfl rfl ?_
          refine x_aload_n (pc' := 80) rfl rfl rfl rfl rfl ?_
          refine x_iload_n (pc' := 81) rfl rfl rfl ?_
          refine x_if (a' := 88) (pc' := 84) (z := true) rfl rfl rfl (by decide) (fun _ => ?_) (fun h => by cases h)
          refine x_iload (pc' := 90) rfl rfl rfl ?_
          refine x_if (a' := 97) (pc' := 93) (z := true) rfl rfl rfl (by decide) (fun _ => ?_) (fun h => by cases h)
          refine x_iload (pc' := 99) rfl rfl rfl ?_
          refine x_if (a' := 106) (pc' := 102) (z := true) rfl rfl rfl (by decide) (fun _ => ?_) (fun h => by cases h)
          refine x_iconst (pc' := 107) rfl rfl ?_
          refine x_cv (ls0 := [_, _]) (rest := []) rfl rfl rfl rfl rfl ?_
          refine x_aload_n (pc' := 1) rfl rfl rfl rfl rfl ?_
          refine x_iload_n (pc' := 2) rfl rfl rfl ?_
          refine x_pI (pc' := 5) rfl rfl rfl ?_
          refine x_iload_n (pc' := 6) rfl rfl rfl ?_
          refine x_if (a' := 13) (pc' := 9) (z := true) rfl rfl rfl (by decide) (fun _ => ?_) (fun h => by cases h)
          refine x_iconst (pc' := 14) rfl rfl ?_
          refine x_retz (z := false) rfl rfl ?_
          refine sK_i (pc' := 110) rfl ?_
          refine x_if (a' := 115) (pc' := 113) (z := false) rfl rfl rfl (by decide) (fun h => by cases h) (fun _ => ?_)
          refine x_iconst (pc' := 114) rfl rfl ?_
          refine x_reti rfl rfl ?_
          exact k3 (of_decide_eq_false q3) (of_decide_eq_false q10) q19 (of_decide_eq_true q25)
        · refine x_iload_n (pc' := 6) rfl rfl rfl ?_
          refine x_iload_n (pc' := 7) rfl rfl rfl ?_
          refine x_icmp (a' := 14) (pc' := 10) (z := decide (100000000 < ((mA M 4 m) + p))) rfl rfl rfl rfl (fun q32 => ?_) (fun q32 => ?_)
          · refine x_iconst (pc' := 15) rfl rfl ?_
            refine x_retz (z := false) rfl rfl ?_
            refine sK_i (pc' := 50) rfl ?_
            refine x_if (a' := 76) (pc' := 53) (z := true) rfl rfl rfl (by decide) (fun _ => ?_) (fun h => by cases h)
            refine x_iconst (pc' := 77) rfl rfl ?_
            refine x_istore (pc' := 79) (ls' := [_, _, _, _, _, _]) rfl rfl rfl rfl ?_
            refine x_aload_n (pc' := 80) rfl rfl rfl rfl rfl ?_
            refine x_iload_n (pc' := 81) rfl rfl rfl ?_
            refine x_if (a' := 88) (pc' := 84) (z := true) rfl rfl rfl (by decide) (fun _ => ?_) (fun h => by cases h)
            refine x_iload (pc' := 90) rfl rfl rfl ?_
            refine x_if (a' := 97) (pc' := 93) (z := true) rfl rfl rfl (by decide) (fun _ => ?_) (fun h => by cases h)
            refine x_iload (pc' := 99) rfl rfl rfl ?_
            refine x_if (a' := 106) (pc' := 102) (z := true) rfl rfl rfl (by decide) (fun _ => ?_) (fun h => by cases h)
            refine x_iconst (pc' := 107) rfl rfl ?_
            refine x_cv (ls0 := [_, _]) (rest := []) rfl rfl rfl rfl rfl ?_
            refine x_aload_n (pc' := 1) rfl rfl rfl rfl rfl ?_
            refine x_iload_n (pc' := 2) rfl rfl rfl ?_
            refine x_pI (pc' := 5) rfl rfl rfl ?_
            refine x_iload_n (pc' := 6) rfl rfl rfl ?_
            refine x_if (a' := 13) (pc' := 9) (z := true) rfl rfl rfl (by decide) (fun _ => ?_) (fun h => by cases h)
            refine x_iconst (pc' := 14) rfl rfl ?_
            refine x_retz (z := false) rfl rfl ?_
            refine sK_i (pc' := 110) rfl ?_
            refine x_if (a' := 115) (pc' := 113) (z := false) rfl rfl rfl (by decide) (fun h => by cases h) (fun _ => ?_)
            refine x_iconst (pc' := 114) rfl rfl ?_
            refine x_reti rfl rfl ?_
            exact k4 (of_decide_eq_false q3) (of_decide_eq_false q10) q19 (of_decide_eq_false q25) (of_decide_eq_true q32)
          · refine x_iconst (pc' := 11) rfl rfl ?_
            refine x_goto (pc' := 15) rfl rfl ?_
            refine x_retz (z := true) rfl rfl ?_
            refine sK_i (pc' := 50) rfl ?_
            refine x_if (a' := 76) (pc' := 53) (z := false) rfl rfl rfl (by decide) (fun h => by cases h) (fun _ => ?_)
            refine x_iload_n (pc' := 54) rfl rfl rfl ?_
            refine x_if_n (a' := 72) (pc' := 57) (z := decide (p < 0)) rfl rfl rfl (ik_ge _ _) (fun q40 => ?_) (fun q40 => ?_)
            · refine x_iconst (pc' := 73) rfl rfl ?_
              refine x_goto (pc' := 77) rfl rfl ?_
              refine x_istore (pc' := 79) (ls' := [_, _, _, _, _, _]) rfl rfl rfl rfl ?_
              refine x_aload_n (pc' := 80) rfl rfl rfl rfl rfl ?_
              refine x_iload_n (pc' := 81) rfl rfl rfl ?_
              refine x_if (a' := 88) (pc' := 84) (z := true) rfl rfl rfl (by decide) (fun _ => ?_) (fun h => by cases h)
              refine x_iload (pc' := 90) rfl rfl rfl ?_
              refine x_if (a' := 97) (pc' := 93) (z := true) rfl rfl rfl (by decide) (fun _ => ?_) (fun h => by cases h)
              refine x_iload (pc' := 99) rfl rfl rfl ?_
              refine x_if (a' := 106) (pc' := 102) (z := false) rfl rfl rfl (by decide) (fun h => by cases h) (fun _ => ?_)
              refine x_iconst (pc' := 103) rfl rfl ?_
              refine x_goto (pc' := 107) rfl rfl ?_
              refine x_cv (ls0 := [_, _]) (rest := []) rfl rfl rfl rfl rfl ?_
              refine x_aload_n (pc' := 1) rfl rfl rfl rfl rfl ?_
              refine x_iload_n (pc' := 2) rfl rfl rfl ?_
              refine x_pI (pc' := 5) rfl rfl rfl ?_
              refine x_iload_n (pc' := 6) rfl rfl rfl ?_
              refine x_if (a' := 13) (pc' := 9) (z := false) rfl rfl rfl (by decide) (fun h => by cases h) (fun _ => ?_)
              refine x_iconst (pc' := 10) rfl rfl ?_
              refine x_goto (pc' := 14) rfl rfl ?_
              refine x_retz (z := true) rfl rfl ?_
              refine sK_i (pc' := 110) rfl ?_
              refine x_if (a' := 115) (pc' := 113) (z := true) rfl rfl rfl (by decide) (fun _ => ?_) (fun h => by cases h)
              refine x_aload_n (pc' := 116) rfl rfl rfl rfl rfl ?_
              refine x_gR (pc' := 119) (r := (some 4)) rfl rfl rfl (Eq.trans (b := sR t 774 0) rfl (kR_774_0 hc)) ?_
              refine x_iload_n (pc' := 120) rfl rfl rfl ?_
              refine x_dup2 (pc' := 121) rfl rfl rfl rfl ?_
              refine x_iald (pc' := 122) (N := 6) (x := (mA M 4 m)) rfl rfl rfl (Eq.trans rdNI (kN_21_4 hc)) (io_in (p := m) (N := 6) hm (by decide)) (Eq.trans (congrArg (sA (sIw t 768 0 0) 21 4) (nn_io (p := m) (Nat.lt_trans hm (by decide)))) (Eq.trans (b := sA t 21 4 m) rfl (gA hM rfl))) ?_
              refine x_iload_n (pc' := 123) rfl rfl rfl ?_
              refine x_iadd (pc' := 124) (z := ((mA M 4 m) + p)) rfl rfl rfl ?_
              refine x_iast (pc' := 125) (N := 6) (p := m) rfl rfl rfl (Eq.trans rdNI (kN_21_4 hc)) (io_in (p := m) (N := 6) hm (by decide)) (nn_io (p := m) (Nat.lt_trans hm (by decide))) ?_
              refine x_aload_n (pc' := 126) rfl rfl rfl rfl rfl ?_
              refine x_gR (pc' := 129) (r := (some 4)) rfl rfl rfl (Eq.trans (b := sR t 774 0) rfl (kR_774_0 hc)) ?_
              refine x_iload_n (pc' := 130) rfl rfl rfl ?_
              refine x_iald (pc' := 131) (N := 6) (x := ((mA M 4 m) + p)) rfl rfl rfl (Eq.trans rdNA (Eq.trans rdNI (kN_21_4 hc))) (io_in (p := m) (N := 6) hm (by decide)) (Eq.trans (congrArg (sA (sAw (sIw t 768 0 0) 21 4 m ((mA M 4 m) + p)) 21 4) (nn_io (p := m) (Nat.lt_trans hm (by decide)))) sA_s) ?_
              refine x_reti rfl rfl ?_
              exact k5 (of_decide_eq_false q3) (of_decide_eq_false q10) q19 (of_decide_eq_false q25) (of_decide_eq_false q32) (of_decide_eq_false q40)
            · refine x_aload_n (pc' := 58) rfl rfl rfl rfl rfl ?_
              refine x_iload_n (pc' := 59) rfl rfl rfl ?_
              refine x_cv (ls0 := [_, _, sJk, sJk, sJk]) (rest := []) rfl rfl rfl rfl rfl ?_
              refine r184 hM hc (Fr.ri (Fr.refl _) hR) hm ?_
              refine sK_i (pc' := 62) rfl ?_
              refine x_aload_n (pc' := 63) rfl rfl rfl rfl rfl ?_
              refine x_iload_n (pc' := 64) rfl rfl rfl ?_
              refine x_cv (ls0 := [_, _, sJk, sJk]) (rest := [_]) rfl rfl rfl rfl rfl ?_
              refine r182 hM hc (Fr.ri (Fr.refl _) hR) hm ?_
              refine sK_i (pc' := 67) rfl ?_
              refine x_iload_n (pc' := 68) rfl rfl rfl ?_
              refine x_iadd (pc' := 69) (z := ((fdF M n m) + p)) rfl rfl rfl ?_
              refine x_icmp (a' := 76) (pc' := 72) (z := decide (((fdF M n m) + p) < (ndF M n m))) rfl rfl rfl rfl (fun q46 => ?_) (fun q46 => ?_)
              · refine x_iconst (pc' := 77) rfl rfl ?_
                refine x_istore (pc' := 79) (ls' := [_, _, _, _, _, _]) rfl rfl rfl rfl ?_
                refine x_aload_n (pc' := 80) rfl rfl rfl rfl rfl ?_
                refine x_iload_n (pc' := 81) rfl rfl rfl ?_
                refine x_if (a' := 88) (pc' := 84) (z := true) rfl rfl rfl (by decide) (fun _ => ?_) (fun h => by cases h)
                refine x_iload (pc' := 90) rfl rfl rfl ?_
                refine x_if (a' := 97) (pc' := 93) (z := true) rfl rfl rfl (by decide) (fun _ => ?_) (fun h => by cases h)
                refine x_iload (pc' := 99) rfl rfl rfl ?_
                refine x_if (a' := 106) (pc' := 102) (z := true) rfl rfl rfl (by decide) (fun _ => ?_) (fun h => by cases h)
                refine x_iconst (pc' := 107) rfl rfl ?_
                refine x_cv (ls0 := [_, _]) (rest := []) rfl rfl rfl rfl rfl ?_
                refine x_aload_n (pc' := 1) rfl rfl rfl rfl rfl ?_
                refine x_iload_n (pc' := 2) rfl rfl rfl ?_
                refine x_pI (pc' := 5) rfl rfl rfl ?_
                refine x_iload_n (pc' := 6) rfl rfl rfl ?_
                refine x_if (a' := 13) (pc' := 9) (z := true) rfl rfl rfl (by decide) (fun _ => ?_) (fun h => by cases h)
                refine x_iconst (pc' := 14) rfl rfl ?_
                refine x_retz (z := false) rfl rfl ?_
                refine sK_i (pc' := 110) rfl ?_
                refine x_if (a' := 115) (pc' := 113) (z := false) rfl rfl rfl (by decide) (fun h => by cases h) (fun _ => ?_)
                refine x_iconst (pc' := 114) rfl rfl ?_
                refine x_reti rfl rfl ?_
                exact k6 (of_decide_eq_false q3) (of_decide_eq_false q10) q19 (of_decide_eq_false q25) (of_decide_eq_false q32) (of_decide_eq_true q40) (of_decide_eq_true q46)
              · refine x_iconst (pc' := 73) rfl rfl ?_
                refine x_goto (pc' := 77) rfl rfl ?_
                refine x_istore (pc' := 79) (ls' := [_, _, _, _, _, _]) rfl rfl rfl rfl ?_
                refine x_aload_n (pc' := 80) rfl rfl rfl rfl rfl ?_
                refine x_iload_n (pc' := 81) rfl rfl rfl ?_
                refine x_if (a' := 88) (pc' := 84) (z := true) rfl rfl rfl (by decide) (fun _ => ?_) (fun h => by cases h)
                refine x_iload (pc' := 90) rfl rfl rfl ?_
                refine x_if (a' := 97) (pc' := 93) (z := true) rfl rfl rfl (by decide) (fun _ => ?_) (fun h => by cases h)
                refine x_iload (pc' := 99) rfl rfl rfl ?_
                refine x_if (a' := 106) (pc' := 102) (z := false) rfl rfl rfl (by decide) (fun h => by cases h) (fun _ => ?_)
                refine x_iconst (pc' := 103) rfl rfl ?_
                refine x_goto (pc' := 107) rfl rfl ?_
                refine x_cv (ls0 := [_, _]) (rest := []) rfl rfl rfl rfl rfl ?_
                refine x_aload_n (pc' := 1) rfl rfl rfl rfl rfl ?_
                refine x_iload_n (pc' := 2) rfl rfl rfl ?_
                refine x_pI (pc' := 5) rfl rfl rfl ?_
                refine x_iload_n (pc' := 6) rfl rfl rfl ?_
                refine x_if (a' := 13) (pc' := 9) (z := false) rfl rfl rfl (by decide) (fun h => by cases h) (fun _ => ?_)
                refine x_iconst (pc' := 10) rfl rfl ?_
                refine x_goto (pc' := 14) rfl rfl ?_
                refine x_retz (z := true) rfl rfl ?_
                refine sK_i (pc' := 110) rfl ?_
                refine x_if (a' := 115) (pc' := 113) (z := true) rfl rfl rfl (by decide) (fun _ => ?_) (fun h => by cases h)
                refine x_aload_n (pc' := 116) rfl rfl rfl rfl rfl ?_
                refine x_gR (pc' := 119) (r := (some 4)) rfl rfl rfl (Eq.trans (b := sR t 774 0) rfl (kR_774_0 hc)) ?_
                refine x_iload_n (pc' := 120) rfl rfl rfl ?_
                refine x_dup2 (pc' := 121) rfl rfl rfl rfl ?_
                refine x_iald (pc' := 122) (N := 6) (x := (mA M 4 m)) rfl rfl rfl (Eq.trans rdNI (kN_21_4 hc)) (io_in (p := m) (N := 6) hm (by decide)) (Eq.trans (congrArg (sA (sIw t 768 0 0) 21 4) (nn_io (p := m) (Nat.lt_trans hm (by decide)))) (Eq.trans (b := sA t 21 4 m) rfl (gA hM rfl))) ?_
                refine x_iload_n (pc' := 123) rfl rfl rfl ?_
                refine x_iadd (pc' := 124) (z := ((mA M 4 m) + p)) rfl rfl rfl ?_
                refine x_iast (pc' := 125) (N := 6) (p := m) rfl rfl rfl (Eq.trans rdNI (kN_21_4 hc)) (io_in (p := m) (N := 6) hm (by decide)) (nn_io (p := m) (Nat.lt_trans hm (by decide))) ?_
                refine x_aload_n (pc' := 126) rfl rfl rfl rfl rfl ?_
                refine x_gR (pc' := 129) (r := (some 4)) rfl rfl rfl (Eq.trans (b := sR t 774 0) rfl (kR_774_0 hc)) ?_
                refine x_iload_n (pc' := 130) rfl rfl rfl ?_
                refine x_iald (pc' := 131) (N := 6) (x := ((mA M 4 m) + p)) rfl rfl rfl (Eq.trans rdNA (Eq.trans rdNI (kN_21_4 hc))) (io_in (p := m) (N := 6) hm (by decide)) (Eq.trans (congrArg (sA (sAw (sIw t 768 0 0) 21 4 m ((mA M 4 m) + p)) 21 4) (nn_io (p := m) (Nat.lt_trans hm (by decide)))) sA_s) ?_
                refine x_reti rfl rfl ?_
                exact k7 (of_decide_eq_false q3) (of_decide_eq_false q10) q19 (of_decide_eq_false q25) (of_decide_eq_false q32) (of_decide_eq_true q40) (of_decide_eq_false q46)
set_option maxHeartbeats 4000000 in
set_option maxRecDepth 10000 in
theorem r195_x0 {t : sT} {Q : sRs → sT → Prop} {M : sM} {n : Nat} {x : Int32} {p : Int32}
    (hV : Vr t M n)
    (hp : ixo x 6 = none)
    (k0 : p < (-1000000) → Q (.inl (some (.inl 0))) (sIw t 768 0 1))
    (k1 : ¬ (p < (-1000000)) → 1000000 < p → Q (.inl (some (.inl 0))) (sIw t 768 0 1))
    (k2 : ¬ (p < (-1000000)) → ¬ (1000000 < p) → Q (.inl (some (.inl 0))) (sIw t 768 0 1)) :
    X 195 0 [.inr (.inr (12, (some 0))), .inl x, .inl p, sJk, sJk, sJk] [] t Q := by
  obtain ⟨hM, hc, hR⟩ := hV
  refine x_iload_n (pc' := 1) rfl rfl rfl ?_
  refine x_cs (ls0 := [_]) (rest := []) rfl rfl rfl rfl ?_
  refine x_iload_n (pc' := 1) rfl rfl rfl ?_
  refine x_iconst (pc' := 2) rfl rfl ?_
  refine x_iconst (pc' := 3) rfl rfl ?_
  refine x_cs (ls0 := [_, _, _]) (rest := []) rfl rfl rfl rfl ?_
  refine r145_xg (ixo_c6 hp) ?_
  refine sK_i (pc' := 6) rfl ?_
  refine x_retz (z := false) rfl rfl ?_
  refine sK_i (pc' := 4) rfl ?_
  refine x_istore_n (pc' := 5) (ls' := [_, _, _, _, _, _]) rfl rfl rfl rfl ?_
  refine x_iload_n (pc' := 6) rfl rfl rfl ?_
  refine x_ldc_w (pc' := 9) rfl rfl ?_
  refine x_ldc_w (pc' := 12) rfl rfl ?_
  refine x_cs (ls0 := [_, _, _]) (rest := []) rfl rfl rfl rfl ?_
  refine x_iload_n (pc' := 1) rfl rfl rfl ?_
  refine x_iload_n (pc' := 2) rfl rfl rfl ?_
  refine x_icmp (a' := 14) (pc' := 5) (z := decide (p < (-1000000))) rfl rfl rfl rfl (fun q1 => ?_) (fun q1 => ?_)
  · refine x_iconst (pc' := 15) rfl rfl ?_
    refine x_retz (z := false) rfl rfl ?_
    refine sK_i (pc' := 15) rfl ?_
    refine x_istore (pc' := 17) (ls' := [_, _, _, _, _, _]) rfl rfl rfl rfl ?_
    refine x_iload_n (pc' := 18) rfl rfl rfl ?_
    refine x_if (a' := 76) (pc' := 21) (z := true) rfl rfl rfl (by decide) (fun _ => ?_) (fun h => by cases h)
    refine x_iconst (pc' := 77) rfl rfl ?_
    refine x_istore (pc' := 79) (ls' := [_, _, _, _, _, _]) rfl rfl rfl rfl ?_
    refine x_aload_n (pc' := 80) rfl rfl rfl rfl rfl ?_
    refine x_iload_n (pc' := 81) rfl rfl rfl ?_
    refine x_if (a' := 88) (pc' := 84) (z := false) rfl rfl rfl (by decide) (fun h => by cases h) (fun _ => ?_)
    refine x_iconst (pc' := 85) rfl rfl ?_
    refine x_goto (pc' := 107) rfl rfl ?_
    refine x_cv (ls0 := [_, _]) (rest := []) rfl rfl rfl rfl rfl ?_
    refine x_aload_n (pc' := 1) rfl rfl rfl rfl rfl ?_
    refine x_iload_n (pc' := 2) rfl rfl rfl ?_
    refine x_pI (pc' := 5) rfl rfl rfl ?_
    refine x_iload_n (pc' := 6) rfl rfl rfl ?_
    refine x_if (a' := 13) (pc' := 9) (z := true) rfl rfl rfl (by decide) (fun _ => ?_) (fun h => by cases h)
    refine x_iconst (pc' := 14) rfl rfl ?_
    refine x_retz (z := false) rfl rfl ?_
    refine sK_i (pc' := 110) rfl ?_
    refine x_if (a' := 115) (pc' := 113) (z := false) rfl rfl rfl (by decide) (fun h => by cases h) (fun _ => ?_)
    refine x_iconst (pc' := 114) rfl rfl ?_
    refine x_reti rfl rfl ?_
    exact k0 (of_decide_eq_true q1)
  · refine x_iload_n (pc' := 6) rfl rfl rfl ?_
    refine x_iload_n (pc' := 7) rfl rfl rfl ?_
    refine x_icmp (a' := 14) (pc' := 10) (z := decide (1000000 < p)) rfl rfl rfl rfl (fun q6 => ?_) (fun q6 => ?_)
    · refine x_iconst (pc' := 15) rfl rfl ?_
      refine x_retz (z := false) rfl rfl ?_
      refine sK_i (pc' := 15) rfl ?_
      refine x_istore (pc' := 17) (ls' := [_, _, _, _, _, _]) rfl rfl rfl rfl ?_
      refine x_iload_n (pc' := 18) rfl rfl rfl ?_
      refine x_if (a' := 76) (pc' := 21) (z := true) rfl rfl rfl (by decide) (fun _ => ?_) (fun h => by cases h)
      refine x_iconst (pc' := 77) rfl rfl ?_
      refine x_istore (pc' := 79) (ls' := [_, _, _, _, _, _]) rfl rfl rfl rfl ?_
      refine x_aload_n (pc' := 80) rfl rfl rfl rfl rfl ?_
      refine x_iload_n (pc' := 81) rfl rfl rfl ?_
      refine x_if (a' := 88) (pc' := 84) (z := false) rfl rfl rfl (by decide) (fun h => by cases h) (fun _ => ?_)
      refine x_iconst (pc' := 85) rfl rfl ?_
      refine x_goto (pc' := 107) rfl rfl ?_
      refine x_cv (ls0 := [_, _]) (rest := []) rfl rfl rfl rfl rfl ?_
      refine x_aload_n (pc' := 1) rfl rfl rfl rfl rfl ?_
      refine x_iload_n (pc' := 2) rfl rfl rfl ?_
      refine x_pI (pc' := 5) rfl rfl rfl ?_
      refine x_iload_n (pc' := 6) rfl rfl rfl ?_
      refine x_if (a' := 13) (pc' := 9) (z := true) rfl rfl rfl (by decide) (fun _ => ?_) (fun h => by cases h)
      refine x_iconst (pc' := 14) rfl rfl ?_
      refine x_retz (z := false) rfl rfl ?_
      refine sK_i (pc' := 110) rfl ?_
      refine x_if (a' := 115) (pc' := 113) (z := false) rfl rfl rfl (by decide) (fun h => by cases h) (fun _ => ?_)
      refine x_iconst (pc' := 114) rfl rfl ?_
      refine x_reti rfl rfl ?_
      exact k1 (of_decide_eq_false q1) (of_decide_eq_true q6)
    · refine x_iconst (pc' := 11) rfl rfl ?_
      refine x_goto (pc' := 15) rfl rfl ?_
      refine x_retz (z := true) rfl rfl ?_
      refine sK_i (pc' := 15) rfl ?_
      refine x_istore (pc' := 17) (ls' := [_, _, _, _, _, _]) rfl rfl rfl rfl ?_
      refine x_iload_n (pc' := 18) rfl rfl rfl ?_
      refine x_if (a' := 76) (pc' := 21) (z := true) rfl rfl rfl (by decide) (fun _ => ?_) (fun h => by cases h)
      refine x_iconst (pc' := 77) rfl rfl ?_
      refine x_istore (pc' := 79) (ls' := [_, _, _, _, _, _]) rfl rfl rfl rfl ?_
      refine x_aload_n (pc' := 80) rfl rfl rfl rfl rfl ?_
      refine x_iload_n (pc' := 81) rfl rfl rfl ?_
      refine x_if (a' := 88) (pc' := 84) (z := false) rfl rfl rfl (by decide) (fun h => by cases h) (fun _ => ?_)
      refine x_iconst (pc' := 85) rfl rfl ?_
      refine x_goto (pc' := 107) rfl rfl ?_
      refine x_cv (ls0 := [_, _]) (rest := []) rfl rfl rfl rfl rfl ?_
      refine x_aload_n (pc' := 1) rfl rfl rfl rfl rfl ?_
      refine x_iload_n (pc' := 2) rfl rfl rfl ?_
      refine x_pI (pc' := 5) rfl rfl rfl ?_
      refine x_iload_n (pc' := 6) rfl rfl rfl ?_
      refine x_if (a' := 13) (pc' := 9) (z := true) rfl rfl rfl (by decide) (fun _ => ?_) (fun h => by cases h)
      refine x_iconst (pc' := 14) rfl rfl ?_
      refine x_retz (z := false) rfl rfl ?_
      refine sK_i (pc' := 110) rfl ?_
      refine x_if (a' := 115) (pc' := 113) (z := false) rfl rfl rfl (by decide) (fun h => by cases h) (fun _ => ?_)
      refine x_iconst (pc' := 114) rfl rfl ?_
      refine x_reti rfl rfl ?_
      exact k2 (of_decide_eq_false q1) (of_decide_eq_false q6)
set_option maxHeartbeats 4000000 in
set_option maxRecDepth 10000 in
theorem r196 {t : sT} {Q : sRs → sT → Prop} {M : sM} {n : Nat} {m : Nat} {p : Int32}
    (hV : Vr t M n)
    (hm : m < 6)
    (k0 : p < 0 → Q (.inl (some (.inl 0))) (sIw t 768 0 2))
    (k1 : ¬ (p < 0) → 1000000 < p → Q (.inl (some (.inl 0))) (sIw t 768 0 2))
    (k2 : ¬ (p < 0) → ¬ (1000000 < p) → (mB M 2 m) = false → Q (.inl (some (.inl (mA M 7 m)))) (sAw (sIw t 768 0 0) 21 7 m p))
    (k3 : ¬ (p < 0) → ¬ (1000000 < p) → (mB M 2 m) = true → Q (.inl (some (.inl 0))) (sIw t 768 0 3)) :
    X 196 0 [.inr (.inr (12, (some 0))), .inl (io m), .inl p, sJk, sJk] [] t Q := by
  obtain ⟨hM, hc, hR⟩ := hV
  refine x_iload_n (pc' := 1) rfl rfl rfl ?_
  refine x_cs (ls0 := [_]) (rest := []) rfl rfl rfl rfl ?_
  refine x_iload_n (pc' := 1) rfl rfl rfl ?_
  refine x_iconst (pc' := 2) rfl rfl ?_
  refine x_iconst (pc' := 3) rfl rfl ?_
  refine x_cs (ls0 := [_, _, _]) (rest := []) rfl rfl rfl rfl ?_
  refine x_iload_n (pc' := 1) rfl rfl rfl ?_
  refine x_iload_n (pc' := 2) rfl rfl rfl ?_
  refine x_icmp (a' := 14) (pc' := 5) (z := decide (m < 0)) rfl rfl rfl (ic_lt (p := m) (q := 0) (gm31 hm) (by decide)) (fun h => absurd (of_decide_eq_true h) (by first | decide | omega | simp)) (fun _ => ?_)
  refine x_iload_n (pc' := 6) rfl rfl rfl ?_
  refine x_iload_n (pc' := 7) rfl rfl rfl ?_
  refine x_icmp (a' := 14) (pc' := 10) (z := decide (5 < m)) rfl rfl rfl (ic_gt (p := m) (q := 5) (gm31 hm) (by decide)) (fun h => absurd (of_decide_eq_true h) (show ¬ 5 < m by omega)) (fun _ => ?_)
  refine x_iconst (pc' := 11) rfl rfl ?_
  refine x_goto (pc' := 15) rfl rfl ?_
  refine x_retz (z := true) rfl rfl ?_
  refine sK_i (pc' := 6) rfl ?_
  refine x_retz (z := true) rfl rfl ?_
  refine sK_i (pc' := 4) rfl ?_
  refine x_istore_n (pc' := 5) (ls' := [_, _, _, _, _]) rfl rfl rfl rfl ?_
  refine x_aload_n (pc' := 6) rfl rfl rfl rfl rfl ?_
  refine x_iload_n (pc' := 7) rfl rfl rfl ?_
  refine x_if (a' := 14) (pc' := 10) (z := true) rfl rfl rfl (by decide) (fun _ => ?_) (fun h => by cases h)
  refine x_iload_n (pc' := 15) rfl rfl rfl ?_
  refine x_iconst (pc' := 16) rfl rfl ?_
  refine x_ldc_w (pc' := 19) rfl rfl ?_
  refine x_cs (ls0 := [_, _, _]) (rest := [_]) rfl rfl rfl rfl ?_
  refine x_iload_n (pc' := 1) rfl rfl rfl ?_
  refine x_iload_n (pc' := 2) rfl rfl rfl ?_
  refine x_icmp (a' := 14) (pc' := 5) (z := decide (p < 0)) rfl rfl rfl rfl (fun q4 => ?_) (fun q4 => ?_)
  · refine x_iconst (pc' := 15) rfl rfl ?_
    refine x_retz (z := false) rfl rfl ?_
    refine sK_i (pc' := 22) rfl ?_
    refine x_if (a' := 29) (pc' := 25) (z := false) rfl rfl rfl (by decide) (fun h => by cases h) (fun _ => ?_)
    refine x_iconst (pc' := 26) rfl rfl ?_
    refine x_goto (pc' := 43) rfl rfl ?_
    refine x_cv (ls0 := [_, _]) (rest := []) rfl rfl rfl rfl rfl ?_
    refine x_aload_n (pc' := 1) rfl rfl rfl rfl rfl ?_
    refine x_iload_n (pc' := 2) rfl rfl rfl ?_
    refine x_pI (pc' := 5) rfl rfl rfl ?_
    refine x_iload_n (pc' := 6) rfl rfl rfl ?_
    refine x_if (a' := 13) (pc' := 9) (z := true) rfl rfl rfl (by decide) (fun _ => ?_) (fun h => by cases h)
    refine x_iconst (pc' := 14) rfl rfl ?_
    refine x_retz (z := false) rfl rfl ?_
    refine sK_i (pc' := 46) rfl ?_
    refine x_if (a' := 51) (pc' := 49) (z := false) rfl rfl rfl (by decide) (fun h => by cases h) (fun _ => ?_)
    refine x_iconst (pc' := 50) rfl rfl ?_
    refine x_reti rfl rfl ?_
    exact k0 (of_decide_eq_true q4)
  · refine x_iload_n (pc' := 6) rfl rfl rfl ?_
    refine x_iload_n (pc' := 7) rfl rfl rfl ?_
    refine x_icmp (a' := 14) (pc' := 10) (z := decide (1000000 < p)) rfl rfl rfl rfl (fun q8 => ?_) (fun q8 => ?_)
    · refine x_iconst (pc' := 15) rfl rfl ?_
      refine x_retz (z := false) rfl rfl ?_
      refine sK_i (pc' := 22) rfl ?_
      refine x_if (a' := 29) (pc' := 25) (z := false) rfl rfl rfl (by decide) (fun h => by cases h) (fun _ => ?_)
      refine x_iconst (pc' := 26) rfl rfl ?_
      refine x_goto (pc' := 43) rfl rfl ?_
      refine x_cv (ls0 := [_, _]) (rest := []) rfl rfl rfl rfl rfl ?_
      refine x_aload_n (pc' := 1) rfl rfl rfl rfl rfl ?_
      refine x_iload_n (pc' := 2) rfl rfl rfl ?_
      refine x_pI (pc' := 5) rfl rfl rfl ?_
      refine x_iload_n (pc' := 6) rfl rfl rfl ?_
      refine x_if (a' := 13) (pc' := 9) (z := true) rfl rfl rfl (by decide) (fun _ => ?_) (fun h => by cases h)
      refine x_iconst (pc' := 14) rfl rfl ?_
      refine x_retz (z := false) rfl rfl ?_
      refine sK_i (pc' := 46) rfl ?_
      refine x_if (a' := 51) (pc' := 49) (z := false) rfl rfl rfl (by decide) (fun h => by cases h) (fun _ => ?_)
      refine x_iconst (pc' := 50) rfl rfl ?_
      refine x_reti rfl rfl ?_
      exact k1 (of_decide_eq_false q4) (of_decide_eq_true q8)
    · refine x_iconst (pc' := 11) rfl rfl ?_
      refine x_goto (pc' := 15) rfl rfl ?_
      refine x_retz (z := true) rfl rfl ?_
      refine sK_i (pc' := 22) rfl ?_
      refine x_if (a' := 29) (pc' := 25) (z := true) rfl rfl rfl (by decide) (fun _ => ?_) (fun h => by cases h)
      refine x_aload_n (pc' := 30) rfl rfl rfl rfl rfl ?_
      refine x_gR (pc' := 33) (r := (some 2)) rfl rfl rfl (kR_781_0 hc) ?_
      refine x_iload_n (pc' := 34) rfl rfl rfl ?_
      refine x_bald (pc' := 35) (N := 6) (z := (mB M 2 m)) rfl rfl (kN_22_2 hc) (io_in (p := m) (N := 6) hm (by decide)) (Eq.trans (congrArg (sB t 22 2) (nn_io (p := m) (Nat.lt_trans hm (by decide)))) (gB hM)) ?_
      refine x_ifeq_z (a' := 42) (pc' := 38) (z := (mB M 2 m)) rfl rfl rfl (fun q13 => ?_) (fun q13 => ?_)
      · refine x_iconst (pc' := 43) rfl rfl ?_
        refine x_cv (ls0 := [_, _]) (rest := []) rfl rfl rfl rfl rfl ?_
        refine x_aload_n (pc' := 1) rfl rfl rfl rfl rfl ?_
        refine x_iload_n (pc' := 2) rfl rfl rfl ?_
        refine x_pI (pc' := 5) rfl rfl rfl ?_
        refine x_iload_n (pc' := 6) rfl rfl rfl ?_
        refine x_if (a' := 13) (pc' := 9) (z := false) rfl rfl rfl (by decide) (fun h => by cases h) (fun _ => ?_)
        refine x_iconst (pc' := 10) rfl rfl ?_
        refine x_goto (pc' := 14) rfl rfl ?_
        refine x_retz (z := true) rfl rfl ?_
        refine sK_i (pc' := 46) rfl ?_
        refine x_if (a' := 51) (pc' := 49) (z := true) rfl rfl rfl (by decide) (fun _ => ?_) (fun h => by cases h)
        refine x_aload_n (pc' := 52) rfl rfl rfl rfl rfl ?_
        refine x_gR (pc' := 55) (r := (some 7)) rfl rfl rfl (Eq.trans (b := sR t 777 0) rfl (kR_777_0 hc)) ?_
        refine x_iload_n (pc' := 56) rfl rfl rfl ?_
        refine x_iald (pc' := 57) (N := 6) (x := (mA M 7 m)) rfl rfl rfl (Eq.trans rdNI (kN_21_7 hc)) (io_in (p := m) (N := 6) hm (by decide)) (Eq.trans (congrArg (sA (sIw t 768 0 0) 21 7) (nn_io (p := m) (Nat.lt_trans hm (by decide)))) (Eq.trans (b := sA t 21 7 m) rfl (gA hM rfl))) ?_
        refine x_istore (pc' := 59) (ls' := [_, _, _, _, _]) rfl rfl rfl rfl ?_
        refine x_aload_n (pc' := 60) rfl rfl rfl rfl rfl ?_
        refine x_gR (pc' := 63) (r := (some 7)) rfl rfl rfl (Eq.trans (b := sR t 777 0) rfl (kR_777_0 hc)) ?_
        refine x_iload_n (pc' := 64) rfl rfl rfl ?_
        refine x_iload_n (pc' := 65) rfl rfl rfl ?_
        refine x_iast (pc' := 66) (N := 6) (p := m) rfl rfl rfl (Eq.trans rdNI (kN_21_7 hc)) (io_in (p := m) (N := 6) hm (by decide)) (nn_io (p := m) (Nat.lt_trans hm (by decide))) ?_
        refine x_iload (pc' := 68) rfl rfl rfl ?_
        refine x_reti rfl rfl ?_
        exact k2 (of_decide_eq_false q4) (of_decide_eq_false q8) q13
      · refine x_iconst (pc' := 39) rfl rfl ?_
        refine x_goto (pc' := 43) rfl rfl ?_
        refine x_cv (ls0 := [_, _]) (rest := []) rfl rfl rfl rfl rfl ?_
        refine x_aload_n (pc' := 1) rfl rfl rfl rfl rfl ?_
        refine x_iload_n (pc' := 2) rfl rfl rfl ?_
        refine x_pI (pc' := 5) rfl rfl rfl ?_
        refine x_iload_n (pc' := 6) rfl rfl rfl ?_
        refine x_if (a' := 13) (pc' := 9) (z := true) rfl rfl rfl (by decide) (fun _ => ?_) (fun h => by cases h)
        refine x_iconst (pc' := 14) rfl rfl ?_
        refine x_retz (z := false) rfl rfl ?_
        refine sK_i (pc' := 46) rfl ?_
        refine x_if (a' := 51) (pc' := 49) (z := false) rfl rfl rfl (by decide) (fun h => by cases h) (fun _ => ?_)
        refine x_iconst (pc' := 50) rfl rfl ?_
        refine x_reti rfl rfl ?_
        exact k3 (of_decide_eq_false q4) (of_decide_eq_false q8) q13
set_option maxHeartbeats 4000000 in
set_option maxRecDepth 10000 in
theorem r196_x0 {t : sT} {Q : sRs → sT → Prop} {M : sM} {n : Nat} {x : Int32} {p : Int32}
    (hV : Vr t M n)
    (hp : ixo x 6 = none)
    (k0 : Q (.inl (some (.inl 0))) (sIw t 768 0 1)) :
    X 196 0 [.inr (.inr (12, (some 0))), .inl x, .inl p, sJk, sJk] [] t Q := by
  obtain ⟨hM, hc, hR⟩ := hV
  refine x_iload_n (pc' := 1) rfl rfl rfl ?_
  refine x_cs (ls0 := [_]) (rest := []) rfl rfl rfl rfl ?_
  refine x_iload_n (pc' := 1) rfl rfl rfl ?_
  refine x_iconst (pc' := 2) rfl rfl ?_
  refine x_iconst (pc' := 3) rfl rfl ?_
  refine x_cs (ls0 := [_, _, _]) (rest := []) rfl rfl rfl rfl ?_
  refine r145_xg (ixo_c6 hp) ?_
  refine sK_i (pc' := 6) rfl ?_
  refine x_retz (z := false) rfl rfl ?_
  refine sK_i (pc' := 4) rfl ?_
  refine x_istore_n (pc' := 5) (ls' := [_, _, _, _, _]) rfl rfl rfl rfl ?_
  refine x_aload_n (pc' := 6) rfl rfl rfl rfl rfl ?_
  refine x_iload_n (pc' := 7) rfl rfl rfl ?_
  refine x_if (a' := 14) (pc' := 10) (z := false) rfl rfl rfl (by decide) (fun h => by cases h) (fun _ => ?_)
  refine x_iconst (pc' := 11) rfl rfl ?_
  refine x_goto (pc' := 43) rfl rfl ?_
  refine x_cv (ls0 := [_, _]) (rest := []) rfl rfl rfl rfl rfl ?_
  refine x_aload_n (pc' := 1) rfl rfl rfl rfl rfl ?_
  refine x_iload_n (pc' := 2) rfl rfl rfl ?_
  refine x_pI (pc' := 5) rfl rfl rfl ?_
  refine x_iload_n (pc' := 6) rfl rfl rfl ?_
  refine x_if (a' := 13) (pc' := 9) (z := true) rfl rfl rfl (by decide) (fun _ => ?_) (fun h => by cases h)
  refine x_iconst (pc' := 14) rfl rfl ?_
  refine x_retz (z := false) rfl rfl ?_
  refine sK_i (pc' := 46) rfl ?_
  refine x_if (a' := 51) (pc' := 49) (z := false) rfl rfl rfl (by decide) (fun h => by cases h) (fun _ => ?_)
  refine x_iconst (pc' := 50) rfl rfl ?_
  refine x_reti rfl rfl ?_
  exact k0
set_option maxHeartbeats 4000000 in
set_option maxRecDepth 10000 in
theorem r197 {t : sT} {Q : sRs → sT → Prop} {M : sM} {n : Nat} {p : Int32}
    (hV : Vr t M n)
    (k0 : p < 0 → Q (.inl (some (.inl 0))) (sIw t 768 0 1))
    (k1 : ¬ (p < 0) → 1000000 < p → Q (.inl (some (.inl 0))) (sIw t 768 0 1))
    (k2 : ¬ (p < 0) → ¬ (1000000 < p) → Q (.inl (some (.inl (mI M 784)))) (sIw (sIw t 768 0 0) 784 0 p)) :
    X 197 0 [.inr (.inr (12, (some 0))), .inl p, sJk] [] t Q := by
  obtain ⟨hM, hc, hR⟩ := hV
  refine x_aload_n (pc' := 1) rfl rfl rfl rfl rfl ?_
  refine x_iload_n (pc' := 2) rfl rfl rfl ?_
  refine x_iconst (pc' := 3) rfl rfl ?_
  refine x_ldc_w (pc' := 6) rfl rfl ?_
  refine x_cs (ls0 := [_, _, _]) (rest := [_]) rfl rfl rfl rfl ?_
  refine x_iload_n (pc' := 1) rfl rfl rfl ?_
  refine x_iload_n (pc' := 2) rfl rfl rfl ?_
  refine x_icmp (a' := 14) (pc' := 5) (z := decide (p < 0)) rfl rfl rfl rfl (fun q1 => ?_) (fun q1 => ?_)
  · refine x_iconst (pc' := 15) rfl rfl ?_
    refine x_retz (z := false) rfl rfl ?_
    refine sK_i (pc' := 9) rfl ?_
    refine x_if (a' := 16) (pc' := 12) (z := true) rfl rfl rfl (by decide) (fun _ => ?_) (fun h => by cases h)
    refine x_iconst (pc' := 17) rfl rfl ?_
    refine x_cv (ls0 := [_, _]) (rest := []) rfl rfl rfl rfl rfl ?_
    refine x_aload_n (pc' := 1) rfl rfl rfl rfl rfl ?_
    refine x_iload_n (pc' := 2) rfl rfl rfl ?_
    refine x_pI (pc' := 5) rfl rfl rfl ?_
    refine x_iload_n (pc' := 6) rfl rfl rfl ?_
    refine x_if (a' := 13) (pc' := 9) (z := true) rfl rfl rfl (by decide) (fun _ => ?_) (fun h => by cases h)
    refine x_iconst (pc' := 14) rfl rfl ?_
    refine x_retz (z := false) rfl rfl ?_
    refine sK_i (pc' := 20) rfl ?_
    refine x_if (a' := 25) (pc' := 23) (z := false) rfl rfl rfl (by decide) (fun h => by cases h) (fun _ => ?_)
    refine x_iconst (pc' := 24) rfl rfl ?_
    refine x_reti rfl rfl ?_
    exact k0 (of_decide_eq_true q1)
  · refine x_iload_n (pc' := 6) rfl rfl rfl ?_
    refine x_iload_n (pc' := 7) rfl rfl rfl ?_
    refine x_icmp (a' := 14) (pc' := 10) (z := decide (1000000 < p)) rfl rfl rfl rfl (fun q5 => ?_) (fun q5 => ?_)
    · refine x_iconst (pc' := 15) rfl rfl ?_
      refine x_retz (z := false) rfl rfl ?_
      refine sK_i (pc' := 9) rfl ?_
      refine x_if (a' := 16) (pc' := 12) (z := true) rfl rfl rfl (by decide) (fun _ => ?_) (fun h => by cases h)
      refine x_iconst (pc' := 17) rfl rfl ?_
      refine x_cv (ls0 := [_, _]) (rest := []) rfl rfl rfl rfl rfl ?_
      refine x_aload_n (pc' := 1) rfl rfl rfl rfl rfl ?_
      refine x_iload_n (pc' := 2) rfl rfl rfl ?_
      refine x_pI (pc' := 5) rfl rfl rfl ?_
      refine x_iload_n (pc' := 6) rfl rfl rfl ?_
      refine x_if (a' := 13) (pc' := 9) (z := true) rfl rfl rfl (by decide) (fun _ => ?_) (fun h => by cases h)
      refine x_iconst (pc' := 14) rfl rfl ?_
      refine x_retz (z := false) rfl rfl ?_
      refine sK_i (pc' := 20) rfl ?_
      refine x_if (a' := 25) (pc' := 23) (z := false) rfl rfl rfl (by decide) (fun h => by cases h) (fun _ => ?_)
      refine x_iconst (pc' := 24) rfl rfl ?_
      refine x_reti rfl rfl ?_
      exact k1 (of_decide_eq_false q1) (of_decide_eq_true q5)
    · refine x_iconst (pc' := 11) rfl rfl ?_
      refine x_goto (pc' := 15) rfl rfl ?_
      refine x_retz (z := true) rfl rfl ?_
      refine sK_i (pc' := 9) rfl ?_
      refine x_if (a' := 16) (pc' := 12) (z := false) rfl rfl rfl (by decide) (fun h => by cases h) (fun _ => ?_)
      refine x_iconst (pc' := 13) rfl rfl ?_
      refine x_goto (pc' := 17) rfl rfl ?_
      refine x_cv (ls0 := [_, _]) (rest := []) rfl rfl rfl rfl rfl ?_
      refine x_aload_n (pc' := 1) rfl rfl rfl rfl rfl ?_
      refine x_iload_n (pc' := 2) rfl rfl rfl ?_
      refine x_pI (pc' := 5) rfl rfl rfl ?_
      refine x_iload_n (pc' := 6) rfl rfl rfl ?_
      refine x_if (a' := 13) (pc' := 9) (z := false) rfl rfl rfl (by decide) (fun h => by cases h) (fun _ => ?_)
      refine x_iconst (pc' := 10) rfl rfl ?_
      refine x_goto (pc' := 14) rfl rfl ?_
      refine x_retz (z := true) rfl rfl ?_
      refine sK_i (pc' := 20) rfl ?_
      refine x_if (a' := 25) (pc' := 23) (z := true) rfl rfl rfl (by decide) (fun _ => ?_) (fun h => by cases h)
      refine x_aload_n (pc' := 26) rfl rfl rfl rfl rfl ?_
      refine x_gI (pc' := 29) (x := (mI M 784)) rfl rfl rfl (Eq.trans (b := sI t 784 0) rfl (gI hM rfl)) ?_
      refine x_istore_n (pc' := 30) (ls' := [_, _, _]) rfl rfl rfl rfl ?_
      refine x_aload_n (pc' := 31) rfl rfl rfl rfl rfl ?_
      refine x_iload_n (pc' := 32) rfl rfl rfl ?_
      refine x_pI (pc' := 35) rfl rfl rfl ?_
      refine x_iload_n (pc' := 36) rfl rfl rfl ?_
      refine x_reti rfl rfl ?_
      exact k2 (of_decide_eq_false q1) (of_decide_eq_false q5)
set_option maxHeartbeats 4000000 in
set_option maxRecDepth 10000 in
theorem r198 {t : sT} {Q : sRs → sT → Prop} {M : sM} {n : Nat} {m : Nat} {p : Int32}
    (hV : Vr t M n)
    (hm : m < 6)
    (k0 : p < 0 → Q (.inl (some (.inl 0))) (sIw t 768 0 2))
    (k1 : ¬ (p < 0) → 1000 < p → Q (.inl (some (.inl 0))) (sIw t 768 0 2))
    (k2 : ¬ (p < 0) → ¬ (1000 < p) → Q (.inl (some (.inl (mA M 8 m)))) (sAw (sIw t 768 0 0) 21 8 m p)) :
    X 198 0 [.inr (.inr (12, (some 0))), .inl (io m), .inl p, sJk] [] t Q := by
  obtain ⟨hM, hc, hR⟩ := hV
  refine x_aload_n (pc' := 1) rfl rfl rfl rfl rfl ?_
  refine x_iload_n (pc' := 2) rfl rfl rfl ?_
  refine x_cs (ls0 := [_]) (rest := [_]) rfl rfl rfl rfl ?_
  refine x_iload_n (pc' := 1) rfl rfl rfl ?_
  refine x_iconst (pc' := 2) rfl rfl ?_
  refine x_iconst (pc' := 3) rfl rfl ?_
  refine x_cs (ls0 := [_, _, _]) (rest := []) rfl rfl rfl rfl ?_
  refine x_iload_n (pc' := 1) rfl rfl rfl ?_
  refine x_iload_n (pc' := 2) rfl rfl rfl ?_
  refine x_icmp (a' := 14) (pc' := 5) (z := decide (m < 0)) rfl rfl rfl (ic_lt (p := m) (q := 0) (gm31 hm) (by decide)) (fun h => absurd (of_decide_eq_true h) (by first | decide | omega | simp)) (fun _ => ?_)
  refine x_iload_n (pc' := 6) rfl rfl rfl ?_
  refine x_iload_n (pc' := 7) rfl rfl rfl ?_
  refine x_icmp (a' := 14) (pc' := 10) (z := decide (5 < m)) rfl rfl rfl (ic_gt (p := m) (q := 5) (gm31 hm) (by decide)) (fun h => absurd (of_decide_eq_true h) (show ¬ 5 < m by omega)) (fun _ => ?_)
  refine x_iconst (pc' := 11) rfl rfl ?_
  refine x_goto (pc' := 15) rfl rfl ?_
  refine x_retz (z := true) rfl rfl ?_
  refine sK_i (pc' := 6) rfl ?_
  refine x_retz (z := true) rfl rfl ?_
  refine sK_i (pc' := 5) rfl ?_
  refine x_if (a' := 12) (pc' := 8) (z := true) rfl rfl rfl (by decide) (fun _ => ?_) (fun h => by cases h)
  refine x_iload_n (pc' := 13) rfl rfl rfl ?_
  refine x_iconst (pc' := 14) rfl rfl ?_
  refine x_sipush (pc' := 17) rfl rfl ?_
  refine x_cs (ls0 := [_, _, _]) (rest := [_]) rfl rfl rfl rfl ?_
  refine x_iload_n (pc' := 1) rfl rfl rfl ?_
  refine x_iload_n (pc' := 2) rfl rfl rfl ?_
  refine x_icmp (a' := 14) (pc' := 5) (z := decide (p < 0)) rfl rfl rfl rfl (fun q4 => ?_) (fun q4 => ?_)
  · refine x_iconst (pc' := 15) rfl rfl ?_
    refine x_retz (z := false) rfl rfl ?_
    refine sK_i (pc' := 20) rfl ?_
    refine x_if (a' := 27) (pc' := 23) (z := true) rfl rfl rfl (by decide) (fun _ => ?_) (fun h => by cases h)
    refine x_iconst (pc' := 28) rfl rfl ?_
    refine x_cv (ls0 := [_, _]) (rest := []) rfl rfl rfl rfl rfl ?_
    refine x_aload_n (pc' := 1) rfl rfl rfl rfl rfl ?_
    refine x_iload_n (pc' := 2) rfl rfl rfl ?_
    refine x_pI (pc' := 5) rfl rfl rfl ?_
    refine x_iload_n (pc' := 6) rfl rfl rfl ?_
    refine x_if (a' := 13) (pc' := 9) (z := true) rfl rfl rfl (by decide) (fun _ => ?_) (fun h => by cases h)
    refine x_iconst (pc' := 14) rfl rfl ?_
    refine x_retz (z := false) rfl rfl ?_
    refine sK_i (pc' := 31) rfl ?_
    refine x_if (a' := 36) (pc' := 34) (z := false) rfl rfl rfl (by decide) (fun h => by cases h) (fun _ => ?_)
    refine x_iconst (pc' := 35) rfl rfl ?_
    refine x_reti rfl rfl ?_
    exact k0 (of_decide_eq_true q4)
  · refine x_iload_n (pc' := 6) rfl rfl rfl ?_
    refine x_iload_n (pc' := 7) rfl rfl rfl ?_
    refine x_icmp (a' := 14) (pc' := 10) (z := decide (1000 < p)) rfl rfl rfl rfl (fun q8 => ?_) (fun q8 => ?_)
    · refine x_iconst (pc' := 15) rfl rfl ?_
      refine x_retz (z := false) rfl rfl ?_
      refine sK_i (pc' := 20) rfl ?_
      refine x_if (a' := 27) (pc' := 23) (z := true) rfl rfl rfl (by decide) (fun _ => ?_) (fun h => by cases h)
      refine x_iconst (pc' := 28) rfl rfl ?_
      refine x_cv (ls0 := [_, _]) (rest := []) rfl rfl rfl rfl rfl ?_
      refine x_aload_n (pc' := 1) rfl rfl rfl rfl rfl ?_
      refine x_iload_n (pc' := 2) rfl rfl rfl ?_
      refine x_pI (pc' := 5) rfl rfl rfl ?_
      refine x_iload_n (pc' := 6) rfl rfl rfl ?_
      refine x_if (a' := 13) (pc' := 9) (z := true) rfl rfl rfl (by decide) (fun _ => ?_) (fun h => by cases h)
      refine x_iconst (pc' := 14) rfl rfl ?_
      refine x_retz (z := false) rfl rfl ?_
      refine sK_i (pc' := 31) rfl ?_
      refine x_if (a' := 36) (pc' := 34) (z := false) rfl rfl rfl (by decide) (fun h => by cases h) (fun _ => ?_)
      refine x_iconst (pc' := 35) rfl rfl ?_
      refine x_reti rfl rfl ?_
      exact k1 (of_decide_eq_false q4) (of_decide_eq_true q8)
    · refine x_iconst (pc' := 11) rfl rfl ?_
      refine x_goto (pc' := 15) rfl rfl ?_
      refine x_retz (z := true) rfl rfl ?_
      refine sK_i (pc' := 20) rfl ?_
      refine x_if (a' := 27) (pc' := 23) (z := false) rfl rfl rfl (by decide) (fun h => by cases h) (fun _ => ?_)
      refine x_iconst (pc' := 24) rfl rfl ?_
      refine x_goto (pc' := 28) rfl rfl ?_
      refine x_cv (ls0 := [_, _]) (rest := []) rfl rfl rfl rfl rfl ?_
      refine x_aload_n (pc' := 1) rfl rfl rfl rfl rfl ?_
      refine x_iload_n (pc' := 2) rfl rfl rfl ?_
      refine x_pI (pc' := 5) rfl rfl rfl ?_
      refine x_iload_n (pc' := 6) rfl rfl rfl ?_
      refine x_if (a' := 13) (pc' := 9) (z := false) rfl rfl rfl (by decide) (fun h => by cases h) (fun _ => ?_)
      refine x_iconst (pc' := 10) rfl rfl ?_
      refine x_goto (pc' := 14) rfl rfl ?_
      refine x_retz (z := true) rfl rfl ?_
      refine sK_i (pc' := 31) rfl ?_
      refine x_if (a' := 36) (pc' := 34) (z := true) rfl rfl rfl (by decide) (fun _ => ?_) (fun h => by cases h)
      refine x_aload_n (pc' := 37) rfl rfl rfl rfl rfl ?_
      refine x_gR (pc' := 40) (r := (some 8)) rfl rfl rfl (Eq.trans (b := sR t 778 0) rfl (kR_778_0 hc)) ?_
      refine x_iload_n (pc' := 41) rfl rfl rfl ?_
      refine x_iald (pc' := 42) (N := 6) (x := (mA M 8 m)) rfl rfl rfl (Eq.trans rdNI (kN_21_8 hc)) (io_in (p := m) (N := 6) hm (by decide)) (Eq.trans (congrArg (sA (sIw t 768 0 0) 21 8) (nn_io (p := m) (Nat.lt_trans hm (by decide)))) (Eq.trans (b := sA t 21 8 m) rfl (gA hM rfl))) ?_
      refine x_istore_n (pc' := 43) (ls' := [_, _, _, _]) rfl rfl rfl rfl ?_
      refine x_aload_n (pc' := 44) rfl rfl rfl rfl rfl ?_
      refine x_gR (pc' := 47) (r := (some 8)) rfl rfl rfl (Eq.trans (b := sR t 778 0) rfl (kR_778_0 hc)) ?_
      refine x_iload_n (pc' := 48) rfl rfl rfl ?_
      refine x_iload_n (pc' := 49) rfl rfl rfl ?_
      refine x_iast (pc' := 50) (N := 6) (p := m) rfl rfl rfl (Eq.trans rdNI (kN_21_8 hc)) (io_in (p := m) (N := 6) hm (by decide)) (nn_io (p := m) (Nat.lt_trans hm (by decide))) ?_
      refine x_iload_n (pc' := 51) rfl rfl rfl ?_
      refine x_reti rfl rfl ?_
      exact k2 (of_decide_eq_false q4) (of_decide_eq_false q8)
set_option maxHeartbeats 4000000 in
set_option maxRecDepth 10000 in
theorem r198_x0 {t : sT} {Q : sRs → sT → Prop} {M : sM} {n : Nat} {x : Int32} {p : Int32}
    (hV : Vr t M n)
    (hp : ixo x 6 = none)
    (k0 : Q (.inl (some (.inl 0))) (sIw t 768 0 1)) :
    X 198 0 [.inr (.inr (12, (some 0))), .inl x, .inl p, sJk] [] t Q := by
  obtain ⟨hM, hc, hR⟩ := hV
  refine x_aload_n (pc' := 1) rfl rfl rfl rfl rfl ?_
  refine x_iload_n (pc' := 2) rfl rfl rfl ?_
  refine x_cs (ls0 := [_]) (rest := [_]) rfl rfl rfl rfl ?_
  refine x_iload_n (pc' := 1) rfl rfl rfl ?_
  refine x_iconst (pc' := 2) rfl rfl ?_
  refine x_iconst (pc' := 3) rfl rfl ?_
  refine x_cs (ls0 := [_, _, _]) (rest := []) rfl rfl rfl rfl ?_
  refine r145_xg (ixo_c6 hp) ?_
  refine sK_i (pc' := 6) rfl ?_
  refine x_retz (z := false) rfl rfl ?_
  refine sK_i (pc' := 5) rfl ?_
  refine x_if (a' := 12) (pc' := 8) (z := false) rfl rfl rfl (by decide) (fun h => by cases h) (fun _ => ?_)
  refine x_iconst (pc' := 9) rfl rfl ?_
  refine x_goto (pc' := 28) rfl rfl ?_
  refine x_cv (ls0 := [_, _]) (rest := []) rfl rfl rfl rfl rfl ?_
  refine x_aload_n (pc' := 1) rfl rfl rfl rfl rfl ?_
  refine x_iload_n (pc' := 2) rfl rfl rfl ?_
  refine x_pI (pc' := 5) rfl rfl rfl ?_
  refine x_iload_n (pc' := 6) rfl rfl rfl ?_
  refine x_if (a' := 13) (pc' := 9) (z := true) rfl rfl rfl (by decide) (fun _ => ?_) (fun h => by cases h)
  refine x_iconst (pc' := 14) rfl rfl ?_
  refine x_retz (z := false) rfl rfl ?_
  refine sK_i (pc' := 31) rfl ?_
  refine x_if (a' := 36) (pc' := 34) (z := false) rfl rfl rfl (by decide) (fun h => by cases h) (fun _ => ?_)
  refine x_iconst (pc' := 35) rfl rfl ?_
  refine x_reti rfl rfl ?_
  exact k0
set_option maxHeartbeats 4000000 in
set_option maxRecDepth 10000 in
theorem r199 {t : sT} {Q : sRs → sT → Prop} {M : sM} {n : Nat} {k : Nat} {c : Nat} {p : Int32}
    (hV : Vr t M n)
    (hk : k < 6)
    (hc3 : c < 3)
    (k0 : p < (-500) → Q (.inl (some (.inl 0))) (sIw t 768 0 2))
    (k1 : ¬ (p < (-500)) → 500 < p → Q (.inl (some (.inl 0))) (sIw t 768 0 2))
    (k2 : ¬ (p < (-500)) → ¬ (500 < p) → Q (.inl (some (.inl (mA M 11 ((3 * k) + c))))) (sAw (sIw t 768 0 0) 21 11 ((3 * k) + c) p)) :
    X 199 0 [.inr (.inr (12, (some 0))), .inl (io k), .inl (io c), .inl p, sJk, sJk] [] t Q := by
  obtain ⟨hM, hc, hR⟩ := hV
  refine x_iload_n (pc' := 1) rfl rfl rfl ?_
  refine x_iconst (pc' := 2) rfl rfl ?_
  refine x_iconst (pc' := 3) rfl rfl ?_
  refine x_cs (ls0 := [_, _, _]) (rest := []) rfl rfl rfl rfl ?_
  refine x_iload_n (pc' := 1) rfl rfl rfl ?_
  refine x_iload_n (pc' := 2) rfl rfl rfl ?_
  refine x_icmp (a' := 14) (pc' := 5) (z := decide (k < 0)) rfl rfl rfl (ic_lt (p := k) (q := 0) (gm31 hk) (by decide)) (fun h => absurd (of_decide_eq_true h) (by first | decide | omega | simp)) (fun _ => ?_)
  refine x_iload_n (pc' := 6) rfl rfl rfl ?_
  refine x_iload_n (pc' := 7) rfl rfl rfl ?_
  refine x_icmp (a' := 14) (pc' := 10) (z := decide (5 < k)) rfl rfl rfl (ic_gt (p := k) (q := 5) (gm31 hk) (by decide)) (fun h => absurd (of_decide_eq_true h) (show ¬ 5 < k by omega)) (fun _ => ?_)
  refine x_iconst (pc' := 11) rfl rfl ?_
  refine x_goto (pc' := 15) rfl rfl ?_
  refine x_retz (z := true) rfl rfl ?_
  refine sK_i (pc' := 6) rfl ?_
  refine x_if (a' := 20) (pc' := 9) (z := false) rfl rfl rfl (by decide) (fun h => by cases h) (fun _ => ?_)
  refine x_iload_n (pc' := 10) rfl rfl rfl ?_
  refine x_cs (ls0 := [_]) (rest := []) rfl rfl rfl rfl ?_
  refine x_iload_n (pc' := 1) rfl rfl rfl ?_
  refine x_iconst (pc' := 2) rfl rfl ?_
  refine x_iconst (pc' := 3) rfl rfl ?_
  refine x_cs (ls0 := [_, _, _]) (rest := []) rfl rfl rfl rfl ?_
  refine x_iload_n (pc' := 1) rfl rfl rfl ?_
  refine x_iload_n (pc' := 2) rfl rfl rfl ?_
  refine x_icmp (a' := 14) (pc' := 5) (z := decide (c < 0)) rfl rfl rfl (ic_lt (p := c) (q := 0) (gc31 hc3) (by decide)) (fun h => absurd (of_decide_eq_true h) (by first | decide | omega | simp)) (fun _ => ?_)
  refine x_iload_n (pc' := 6) rfl rfl rfl ?_
  refine x_iload_n (pc' := 7) rfl rfl rfl ?_
  refine x_icmp (a' := 14) (pc' := 10) (z := decide (2 < c)) rfl rfl rfl (ic_gt (p := c) (q := 2) (gc31 hc3) (by decide)) (fun h => absurd (of_decide_eq_true h) (show ¬ 2 < c by omega)) (fun _ => ?_)
  refine x_iconst (pc' := 11) rfl rfl ?_
  refine x_goto (pc' := 15) rfl rfl ?_
  refine x_retz (z := true) rfl rfl ?_
  refine sK_i (pc' := 6) rfl ?_
  refine x_retz (z := true) rfl rfl ?_
  refine sK_i (pc' := 13) rfl ?_
  refine x_if (a' := 20) (pc' := 16) (z := false) rfl rfl rfl (by decide) (fun h => by cases h) (fun _ => ?_)
  refine x_iconst (pc' := 17) rfl rfl ?_
  refine x_goto (pc' := 21) rfl rfl ?_
  refine x_istore (pc' := 23) (ls' := [_, _, _, _, _, _]) rfl rfl rfl rfl ?_
  refine x_aload_n (pc' := 24) rfl rfl rfl rfl rfl ?_
  refine x_iload (pc' := 26) rfl rfl rfl ?_
  refine x_if (a' := 33) (pc' := 29) (z := true) rfl rfl rfl (by decide) (fun _ => ?_) (fun h => by cases h)
  refine x_iload_n (pc' := 34) rfl rfl rfl ?_
  refine x_sipush (pc' := 37) rfl rfl ?_
  refine x_sipush (pc' := 40) rfl rfl ?_
  refine x_cs (ls0 := [_, _, _]) (rest := [_]) rfl rfl rfl rfl ?_
  refine x_iload_n (pc' := 1) rfl rfl rfl ?_
  refine x_iload_n (pc' := 2) rfl rfl rfl ?_
  refine x_icmp (a' := 14) (pc' := 5) (z := decide (p < (-500))) rfl rfl rfl rfl (fun q8 => ?_) (fun q8 => ?_)
  · refine x_iconst (pc' := 15) rfl rfl ?_
    refine x_retz (z := false) rfl rfl ?_
    refine sK_i (pc' := 43) rfl ?_
    refine x_if (a' := 50) (pc' := 46) (z := true) rfl rfl rfl (by decide) (fun _ => ?_) (fun h => by cases h)
    refine x_iconst (pc' := 51) rfl rfl ?_
    refine x_cv (ls0 := [_, _]) (rest := []) rfl rfl rfl rfl rfl ?_
    refine x_aload_n (pc' := 1) rfl rfl rfl rfl rfl ?_
    refine x_iload_n (pc' := 2) rfl rfl rfl ?_
    refine x_pI (pc' := 5) rfl rfl rfl ?_
    refine x_iload_n (pc' := 6) rfl rfl rfl ?_
    refine x_if (a' := 13) (pc' := 9) (z := true) rfl rfl rfl (by decide) (fun _ => ?_) (fun h => by cases h)
    refine x_iconst (pc' := 14) rfl rfl ?_
    refine x_retz (z := false) rfl rfl ?_
    refine sK_i (pc' := 54) rfl ?_
    refine x_if (a' := 59) (pc' := 57) (z := false) rfl rfl rfl (by decide) (fun h => by cases h) (fun _ => ?_)
    refine x_iconst (pc' := 58) rfl rfl ?_
    refine x_reti rfl rfl ?_
    exact k0 (of_decide_eq_true q8)
  · refine x_iload_n (pc' := 6) rfl rfl rfl ?_
    refine x_iload_n (pc' := 7) rfl rfl rfl ?_
    refine x_icmp (a' := 14) (pc' := 10) (z := decide (500 < p)) rfl rfl rfl rfl (fun q12 => ?_) (fun q12 => ?_)
    · refine x_iconst (pc' := 15) rfl rfl ?_
      refine x_retz (z := false) rfl rfl ?_
      refine sK_i (pc' := 43) rfl ?_
      refine x_if (a' := 50) (pc' := 46) (z := true) rfl rfl rfl (by decide) (fun _ => ?_) (fun h => by cases h)
      refine x_iconst (pc' := 51) rfl rfl ?_
      refine x_cv (ls0 := [_, _]) (rest := []) rfl rfl rfl rfl rfl ?_
      refine x_aload_n (pc' := 1) rfl rfl rfl rfl rfl ?_
      refine x_iload_n (pc' := 2) rfl rfl rfl ?_
      refine x_pI (pc' := 5) rfl rfl rfl ?_
      refine x_iload_n (pc' := 6) rfl rfl rfl ?_
      refine x_if (a' := 13) (pc' := 9) (z := true) rfl rfl rfl (by decide) (fun _ => ?_) (fun h => by cases h)
      refine x_iconst (pc' := 14) rfl rfl ?_
      refine x_retz (z := false) rfl rfl ?_
      refine sK_i (pc' := 54) rfl ?_
      refine x_if (a' := 59) (pc' := 57) (z := false) rfl rfl rfl (by decide) (fun h => by cases h) (fun _ => ?_)
      refine x_iconst (pc' := 58) rfl rfl ?_
      refine x_reti rfl rfl ?_
      exact k1 (of_decide_eq_false q8) (of_decide_eq_true q12)
    · refine x_iconst (pc' := 11) rfl rfl ?_
      refine x_goto (pc' := 15) rfl rfl ?_
      refine x_retz (z := true) rfl rfl ?_
      refine sK_i (pc' := 43) rfl ?_
      refine x_if (a' := 50) (pc' := 46) (z := false) rfl rfl rfl (by decide) (fun h => by cases h) (fun _ => ?_)
      refine x_iconst (pc' := 47) rfl rfl ?_
      refine x_goto (pc' := 51) rfl rfl ?_
      refine x_cv (ls0 := [_, _]) (rest := []) rfl rfl rfl rfl rfl ?_
      refine x_aload_n (pc' := 1) rfl rfl rfl rfl rfl ?_
      refine x_iload_n (pc' := 2) rfl rfl rfl ?_
      refine x_pI (pc' := 5) rfl rfl rfl ?_
      refine x_iload_n (pc' := 6) rfl rfl rfl ?_
      refine x_if (a' := 13) (pc' := 9) (z := false) rfl rfl rfl (by decide) (fun h => by cases h) (fun _ => ?_)
      refine x_iconst (pc' := 10) rfl rfl ?_
      refine x_goto (pc' := 14) rfl rfl ?_
      refine x_retz (z := true) rfl rfl ?_
      refine sK_i (pc' := 54) rfl ?_
      refine x_if (a' := 59) (pc' := 57) (z := true) rfl rfl rfl (by decide) (fun _ => ?_) (fun h => by cases h)
      refine x_aload_n (pc' := 60) rfl rfl rfl rfl rfl ?_
      refine x_gR (pc' := 63) (r := (some 11)) rfl rfl rfl (Eq.trans (b := sR t 783 0) rfl (kR_783_0 hc)) ?_
      refine x_iconst (pc' := 64) rfl rfl ?_
      refine x_iload_n (pc' := 65) rfl rfl rfl ?_
      refine x_imul (pc' := 66) (z := (io (3 * k))) rfl rfl (io_mul 3 k) ?_
      refine x_iload_n (pc' := 67) rfl rfl rfl ?_
      refine x_iadd (pc' := 68) (z := (io ((3 * k) + c))) rfl rfl (io_add (3 * k) c) ?_
      refine x_iald (pc' := 69) (N := 18) (x := (mA M 11 ((3 * k) + c))) rfl rfl rfl (Eq.trans rdNI (kN_21_11 hc)) (io_in (p := ((3 * k) + c)) (N := 18) (show 3 * k + c < 18 by omega) (by decide)) (Eq.trans (congrArg (sA (sIw t 768 0 0) 21 11) (nn_io (p := ((3 * k) + c)) (Nat.lt_trans (show 3 * k + c < 18 by omega) (by decide)))) (Eq.trans (b := sA t 21 11 ((3 * k) + c)) rfl (gA hM rfl))) ?_
      refine x_istore (pc' := 71) (ls' := [_, _, _, _, _, _]) rfl rfl rfl rfl ?_
      refine x_aload_n (pc' := 72) rfl rfl rfl rfl rfl ?_
      refine x_gR (pc' := 75) (r := (some 11)) rfl rfl rfl (Eq.trans (b := sR t 783 0) rfl (kR_783_0 hc)) ?_
      refine x_iconst (pc' := 76) rfl rfl ?_
      refine x_iload_n (pc' := 77) rfl rfl rfl ?_
      refine x_imul (pc' := 78) (z := (io (3 * k))) rfl rfl (io_mul 3 k) ?_
      refine x_iload_n (pc' := 79) rfl rfl rfl ?_
      refine x_iadd (pc' := 80) (z := (io ((3 * k) + c))) rfl rfl (io_add (3 * k) c) ?_
      refine x_iload_n (pc' := 81) rfl rfl rfl ?_
      refine x_iast (pc' := 82) (N := 18) (p := ((3 * k) + c)) rfl rfl rfl (Eq.trans rdNI (kN_21_11 hc)) (io_in (p := ((3 * k) + c)) (N := 18) (show 3 * k + c < 18 by omega) (by decide)) (nn_io (p := ((3 * k) + c)) (Nat.lt_trans (show 3 * k + c < 18 by omega) (by decide))) ?_
      refine x_iload (pc' := 84) rfl rfl rfl ?_
      refine x_reti rfl rfl ?_
      exact k2 (of_decide_eq_false q8) (of_decide_eq_false q12)
set_option maxHeartbeats 4000000 in
set_option maxRecDepth 10000 in
theorem r199_x0 {t : sT} {Q : sRs → sT → Prop} {M : sM} {n : Nat} {x : Int32} {v1 : Int32} {p : Int32}
    (hV : Vr t M n)
    (hp : ixo x 6 = none)
    (k0 : Q (.inl (some (.inl 0))) (sIw t 768 0 1)) :
    X 199 0 [.inr (.inr (12, (some 0))), .inl x, .inl v1, .inl p, sJk, sJk] [] t Q := by
  obtain ⟨hM, hc, hR⟩ := hV
  refine x_iload_n (pc' := 1) rfl rfl rfl ?_
  refine x_iconst (pc' := 2) rfl rfl ?_
  refine x_iconst (pc' := 3) rfl rfl ?_
  refine x_cs (ls0 := [_, _, _]) (rest := []) rfl rfl rfl rfl ?_
  refine r145_xg (ixo_c6 hp) ?_
  refine sK_i (pc' := 6) rfl ?_
  refine x_if (a' := 20) (pc' := 9) (z := true) rfl rfl rfl (by decide) (fun _ => ?_) (fun h => by cases h)
  refine x_iconst (pc' := 21) rfl rfl ?_
  refine x_istore (pc' := 23) (ls' := [_, _, _, _, _, _]) rfl rfl rfl rfl ?_
  refine x_aload_n (pc' := 24) rfl rfl rfl rfl rfl ?_
  refine x_iload (pc' := 26) rfl rfl rfl ?_
  refine x_if (a' := 33) (pc' := 29) (z := false) rfl rfl rfl (by decide) (fun h => by cases h) (fun _ => ?_)
  refine x_iconst (pc' := 30) rfl rfl ?_
  refine x_goto (pc' := 51) rfl rfl ?_
  refine x_cv (ls0 := [_, _]) (rest := []) rfl rfl rfl rfl rfl ?_
  refine x_aload_n (pc' := 1) rfl rfl rfl rfl rfl ?_
  refine x_iload_n (pc' := 2) rfl rfl rfl ?_
  refine x_pI (pc' := 5) rfl rfl rfl ?_
  refine x_iload_n (pc' := 6) rfl rfl rfl ?_
  refine x_if (a' := 13) (pc' := 9) (z := true) rfl rfl rfl (by decide) (fun _ => ?_) (fun h => by cases h)
  refine x_iconst (pc' := 14) rfl rfl ?_
  refine x_retz (z := false) rfl rfl ?_
  refine sK_i (pc' := 54) rfl ?_
  refine x_if (a' := 59) (pc' := 57) (z := false) rfl rfl rfl (by decide) (fun h => by cases h) (fun _ => ?_)
  refine x_iconst (pc' := 58) rfl rfl ?_
  refine x_reti rfl rfl ?_
  exact k0
set_option maxHeartbeats 4000000 in
set_option maxRecDepth 10000 in
theorem r199_x1 {t : sT} {Q : sRs → sT → Prop} {M : sM} {n : Nat} {k : Nat} {x : Int32} {p : Int32}
    (hV : Vr t M n)
    (hk : k < 6)
    (hp : ixo x 3 = none)
    (k0 : Q (.inl (some (.inl 0))) (sIw t 768 0 1)) :
    X 199 0 [.inr (.inr (12, (some 0))), .inl (io k), .inl x, .inl p, sJk, sJk] [] t Q := by
  obtain ⟨hM, hc, hR⟩ := hV
  refine x_iload_n (pc' := 1) rfl rfl rfl ?_
  refine x_iconst (pc' := 2) rfl rfl ?_
  refine x_iconst (pc' := 3) rfl rfl ?_
  refine x_cs (ls0 := [_, _, _]) (rest := []) rfl rfl rfl rfl ?_
  refine x_iload_n (pc' := 1) rfl rfl rfl ?_
  refine x_iload_n (pc' := 2) rfl rfl rfl ?_
  refine x_icmp (a' := 14) (pc' := 5) (z := decide (k < 0)) rfl rfl rfl (ic_lt (p := k) (q := 0) (gm31 hk) (by decide)) (fun h => absurd (of_decide_eq_true h) (by first | decide | omega | simp)) (fun _ => ?_)
  refine x_iload_n (pc' := 6) rfl rfl rfl ?_
  refine x_iload_n (pc' := 7) rfl rfl rfl ?_
  refine x_icmp (a' := 14) (pc' := 10) (z := decide (5 < k)) rfl rfl rfl (ic_gt (p := k) (q := 5) (gm31 hk) (by decide)) (fun h => absurd (of_decide_eq_true h) (show ¬ 5 < k by omega)) (fun _ => ?_)
  refine x_iconst (pc' := 11) rfl rfl ?_
  refine x_goto (pc' := 15) rfl rfl ?_
  refine x_retz (z := true) rfl rfl ?_
  refine sK_i (pc' := 6) rfl ?_
  refine x_if (a' := 20) (pc' := 9) (z := false) rfl rfl rfl (by decide) (fun h => by cases h) (fun _ => ?_)
  refine x_iload_n (pc' := 10) rfl rfl rfl ?_
  refine x_cs (ls0 := [_]) (rest := []) rfl rfl rfl rfl ?_
  refine x_iload_n (pc' := 1) rfl rfl rfl ?_
  refine x_iconst (pc' := 2) rfl rfl ?_
  refine x_iconst (pc' := 3) rfl rfl ?_
  refine x_cs (ls0 := [_, _, _]) (rest := []) rfl rfl rfl rfl ?_
  refine r145_xg (ixo_c3 hp) ?_
  refine sK_i (pc' := 6) rfl ?_
  refine x_retz (z := false) rfl rfl ?_
  refine sK_i (pc' := 13) rfl ?_
  refine x_if (a' := 20) (pc' := 16) (z := true) rfl rfl rfl (by decide) (fun _ => ?_) (fun h => by cases h)
  refine x_iconst (pc' := 21) rfl rfl ?_
  refine x_istore (pc' := 23) (ls' := [_, _, _, _, _, _]) rfl rfl rfl rfl ?_
  refine x_aload_n (pc' := 24) rfl rfl rfl rfl rfl ?_
  refine x_iload (pc' := 26) rfl rfl rfl ?_
  refine x_if (a' := 33) (pc' := 29) (z := false) rfl rfl rfl (by decide) (fun h => by cases h) (fun _ => ?_)
  refine x_iconst (pc' := 30) rfl rfl ?_
  refine x_goto (pc' := 51) rfl rfl ?_
  refine x_cv (ls0 := [_, _]) (rest := []) rfl rfl rfl rfl rfl ?_
  refine x_aload_n (pc' := 1) rfl rfl rfl rfl rfl ?_
  refine x_iload_n (pc' := 2) rfl rfl rfl ?_
  refine x_pI (pc' := 5) rfl rfl rfl ?_
  refine x_iload_n (pc' := 6) rfl rfl rfl ?_
  refine x_if (a' := 13) (pc' := 9) (z := true) rfl rfl rfl (by decide) (fun _ => ?_) (fun h => by cases h)
  refine x_iconst (pc' := 14) rfl rfl ?_
  refine x_retz (z := false) rfl rfl ?_
  refine sK_i (pc' := 54) rfl ?_
  refine x_if (a' := 59) (pc' := 57) (z := false) rfl rfl rfl (by decide) (fun h => by cases h) (fun _ => ?_)
  refine x_iconst (pc' := 58) rfl rfl ?_
  refine x_reti rfl rfl ?_
  exact k0
set_option maxHeartbeats 4000000 in
set_option maxRecDepth 10000 in
theorem r209 {t : sT} {Q : sRs → sT → Prop} {M : sM} {n : Nat} {o : Nat}
    (hV : Vr t M n)
    (ho : o < n)
    (k0 : (mA M 19 o) = 0 → X 156 0 [.inr (.inr (12, (some 0))), .inl (io o)] [] (sIw t 768 0 0) (sK 156 209 38 [.inr (.inr (12, (some 0))), .inl (io o), .inl (bz true)] [] Q))
    (k1 : ¬ ((mA M 19 o) = 0) → ¬ ((mA M 19 o) = 1) → Q (.inl (some (.inl 0))) (sIw t 768 0 2))
    (k2 : ¬ ((mA M 19 o) = 0) → (mA M 19 o) = 1 → X 156 0 [.inr (.inr (12, (some 0))), .inl (io o)] [] (sIw t 768 0 0) (sK 156 209 38 [.inr (.inr (12, (some 0))), .inl (io o), .inl (bz true)] [] Q)) :
    X 209 0 [.inr (.inr (12, (some 0))), .inl (io o), sJk] [] t Q := by
  obtain ⟨hM, hc, hR⟩ := hV
  refine x_aload_n (pc' := 1) rfl rfl rfl rfl rfl ?_
  refine x_iload_n (pc' := 2) rfl rfl rfl ?_
  refine x_cv (ls0 := [_, _]) (rest := []) rfl rfl rfl rfl rfl ?_
  refine x_iload_n (pc' := 1) rfl rfl rfl ?_
  refine x_iconst (pc' := 2) rfl rfl ?_
  refine x_aload_n (pc' := 3) rfl rfl rfl rfl rfl ?_
  refine x_gI (pc' := 6) (x := (io n)) rfl rfl rfl (gFn hM (Fr.refl _) hR) ?_
  refine x_iconst (pc' := 7) rfl rfl ?_
  refine x_isub (pc' := 8) (z := ((io n) - 1)) rfl rfl rfl ?_
  refine x_cs (ls0 := [_, _, _]) (rest := []) rfl rfl rfl rfl ?_
  refine x_iload_n (pc' := 1) rfl rfl rfl ?_
  refine x_iload_n (pc' := 2) rfl rfl rfl ?_
  refine x_icmp (a' := 14) (pc' := 5) (z := decide (o < 0)) rfl rfl rfl (ic_lt (p := o) (q := 0) (Nat.lt_trans ho (gn31 hR)) (by decide)) (fun h => absurd (of_decide_eq_true h) (by first | decide | omega | simp)) (fun _ => ?_)
  refine x_iload_n (pc' := 6) rfl rfl rfl ?_
  refine x_iload_n (pc' := 7) rfl rfl rfl ?_
  refine x_icmp (a' := 14) (pc' := 10) (z := decide (((io n) - 1) < (io o))) rfl rfl rfl rfl (fun h => absurd (of_decide_eq_true h) (io_pre ho (gn31 hR))) (fun _ => ?_)
  refine x_iconst (pc' := 11) rfl rfl ?_
  refine x_goto (pc' := 15) rfl rfl ?_
  refine x_retz (z := true) rfl rfl ?_
  refine sK_i (pc' := 11) rfl ?_
  refine x_retz (z := true) rfl rfl ?_
  refine sK_i (pc' := 5) rfl ?_
  refine x_istore_n (pc' := 6) (ls' := [_, _, _]) rfl rfl rfl rfl ?_
  refine x_aload_n (pc' := 7) rfl rfl rfl rfl rfl ?_
  refine x_iload_n (pc' := 8) rfl rfl rfl ?_
  refine x_if (a' := 15) (pc' := 11) (z := true) rfl rfl rfl (by decide) (fun _ => ?_) (fun h => by cases h)
  refine x_aload_n (pc' := 16) rfl rfl rfl rfl rfl ?_
  refine x_iload_n (pc' := 17) rfl rfl rfl ?_
  refine x_cv (ls0 := [_, _]) (rest := [_]) rfl rfl rfl rfl rfl ?_
  refine x_aload_n (pc' := 1) rfl rfl rfl rfl rfl ?_
  refine x_gR (pc' := 4) (r := (some 19)) rfl rfl rfl (kR_795_0 hc) ?_
  refine x_iload_n (pc' := 5) rfl rfl rfl ?_
  refine x_iald (pc' := 6) (N := 200) (x := (mA M 19 o)) rfl rfl rfl (kN_21_19 hc) (io_in (p := o) (N := 200) (Nat.lt_of_lt_of_le ho (gn200 hR)) (by decide)) (Eq.trans (congrArg (sA t 21 19) (nn_io (p := o) (Nat.lt_trans (Nat.lt_of_lt_of_le ho (gn200 hR)) (by decide)))) (gA hM rfl)) ?_
  refine x_if (a' := 19) (pc' := 9) (z := decide ((mA M 19 o) = 0)) rfl rfl rfl rfl (fun q4 => ?_) (fun q4 => ?_)
  · refine x_iconst (pc' := 20) rfl rfl ?_
    refine x_goto (pc' := 24) rfl rfl ?_
    refine x_retz (z := true) rfl rfl ?_
    refine sK_i (pc' := 20) rfl ?_
    refine x_if (a' := 27) (pc' := 23) (z := false) rfl rfl rfl (by decide) (fun h => by cases h) (fun _ => ?_)
    refine x_iconst (pc' := 24) rfl rfl ?_
    refine x_goto (pc' := 28) rfl rfl ?_
    refine x_cv (ls0 := [_, _]) (rest := []) rfl rfl rfl rfl rfl ?_
    refine x_aload_n (pc' := 1) rfl rfl rfl rfl rfl ?_
    refine x_iload_n (pc' := 2) rfl rfl rfl ?_
    refine x_pI (pc' := 5) rfl rfl rfl ?_
    refine x_iload_n (pc' := 6) rfl rfl rfl ?_
    refine x_if (a' := 13) (pc' := 9) (z := false) rfl rfl rfl (by decide) (fun h => by cases h) (fun _ => ?_)
    refine x_iconst (pc' := 10) rfl rfl ?_
    refine x_goto (pc' := 14) rfl rfl ?_
    refine x_retz (z := true) rfl rfl ?_
    refine sK_i (pc' := 31) rfl ?_
    refine x_if (a' := 36) (pc' := 34) (z := true) rfl rfl rfl (by decide) (fun _ => ?_) (fun h => by cases h)
    refine x_aload_n (pc' := 37) rfl rfl rfl rfl rfl ?_
    refine x_iload_n (pc' := 38) rfl rfl rfl ?_
    refine x_cv (ls0 := [_, _]) (rest := []) rfl rfl rfl rfl rfl ?_
    exact k0 (of_decide_eq_true q4)
  · refine x_aload_n (pc' := 10) rfl rfl rfl rfl rfl ?_
    refine x_gR (pc' := 13) (r := (some 19)) rfl rfl rfl (kR_795_0 hc) ?_
    refine x_iload_n (pc' := 14) rfl rfl rfl ?_
    refine x_iald (pc' := 15) (N := 200) (x := (mA M 19 o)) rfl rfl rfl (kN_21_19 hc) (io_in (p := o) (N := 200) (Nat.lt_of_lt_of_le ho (gn200 hR)) (by decide)) (Eq.trans (congrArg (sA t 21 19) (nn_io (p := o) (Nat.lt_trans (Nat.lt_of_lt_of_le ho (gn200 hR)) (by decide)))) (gA hM rfl)) ?_
    refine x_iconst (pc' := 16) rfl rfl ?_
    refine x_icmp_n (a' := 23) (pc' := 19) (z := decide ((mA M 19 o) = 1)) rfl rfl rfl (ik_ne _ _) (fun q8 => ?_) (fun q8 => ?_)
    · refine x_iconst (pc' := 24) rfl rfl ?_
      refine x_retz (z := false) rfl rfl ?_
      refine sK_i (pc' := 20) rfl ?_
      refine x_if (a' := 27) (pc' := 23) (z := true) rfl rfl rfl (by decide) (fun _ => ?_) (fun h => by cases h)
      refine x_iconst (pc' := 28) rfl rfl ?_
      refine x_cv (ls0 := [_, _]) (rest := []) rfl rfl rfl rfl rfl ?_
      refine x_aload_n (pc' := 1) rfl rfl rfl rfl rfl ?_
      refine x_iload_n (pc' := 2) rfl rfl rfl ?_
      refine x_pI (pc' := 5) rfl rfl rfl ?_
      refine x_iload_n (pc' := 6) rfl rfl rfl ?_
      refine x_if (a' := 13) (pc' := 9) (z := true) rfl rfl rfl (by decide) (fun _ => ?_) (fun h => by cases h)
      refine x_iconst (pc' := 14) rfl rfl ?_
      refine x_retz (z := false) rfl rfl ?_
      refine sK_i (pc' := 31) rfl ?_
      refine x_if (a' := 36) (pc' := 34) (z := false) rfl rfl rfl (by decide) (fun h => by cases h) (fun _ => ?_)
      refine x_iconst (pc' := 35) rfl rfl ?_
      refine x_reti rfl rfl ?_
      exact k1 (of_decide_eq_false q4) (of_decide_eq_false q8)
    · refine x_iconst (pc' := 20) rfl rfl ?_
      refine x_goto (pc' := 24) rfl rfl ?_
      refine x_retz (z := true) rfl rfl ?_
      refine sK_i (pc' := 20) rfl ?_
      refine x_if (a' := 27) (pc' := 23) (z := false) rfl rfl rfl (by decide) (fun h => by cases h) (fun _ => ?_)
      refine x_iconst (pc' := 24) rfl rfl ?_
      refine x_goto (pc' := 28) rfl rfl ?_
      refine x_cv (ls0 := [_, _]) (rest := []) rfl rfl rfl rfl rfl ?_
      refine x_aload_n (pc' := 1) rfl rfl rfl rfl rfl ?_
      refine x_iload_n (pc' := 2) rfl rfl rfl ?_
      refine x_pI (pc' := 5) rfl rfl rfl ?_
      refine x_iload_n (pc' := 6) rfl rfl rfl ?_
      refine x_if (a' := 13) (pc' := 9) (z := false) rfl rfl rfl (by decide) (fun h => by cases h) (fun _ => ?_)
      refine x_iconst (pc' := 10) rfl rfl ?_
      refine x_goto (pc' := 14) rfl rfl ?_
      refine x_retz (z := true) rfl rfl ?_
      refine sK_i (pc' := 31) rfl ?_
      refine x_if (a' := 36) (pc' := 34) (z := true) rfl rfl rfl (by decide) (fun _ => ?_) (fun h => by cases h)
      refine x_aload_n (pc' := 37) rfl rfl rfl rfl rfl ?_
      refine x_iload_n (pc' := 38) rfl rfl rfl ?_
      refine x_cv (ls0 := [_, _]) (rest := []) rfl rfl rfl rfl rfl ?_
      exact k2 (of_decide_eq_false q4) (of_decide_eq_true q8)
set_option maxHeartbeats 4000000 in
set_option maxRecDepth 10000 in
theorem r209_x0 {t : sT} {Q : sRs → sT → Prop} {M : sM} {n : Nat} {x : Int32}
    (hV : Vr t M n)
    (hp : ixo x n = none)
    (k0 : Q (.inl (some (.inl 0))) (sIw t 768 0 1)) :
    X 209 0 [.inr (.inr (12, (some 0))), .inl x, sJk] [] t Q := by
  obtain ⟨hM, hc, hR⟩ := hV
  refine x_aload_n (pc' := 1) rfl rfl rfl rfl rfl ?_
  refine x_iload_n (pc' := 2) rfl rfl rfl ?_
  refine x_cv (ls0 := [_, _]) (rest := []) rfl rfl rfl rfl rfl ?_
  refine x_iload_n (pc' := 1) rfl rfl rfl ?_
  refine x_iconst (pc' := 2) rfl rfl ?_
  refine x_aload_n (pc' := 3) rfl rfl rfl rfl rfl ?_
  refine x_gI (pc' := 6) (x := (io n)) rfl rfl rfl (gFn hM (Fr.refl _) hR) ?_
  refine x_iconst (pc' := 7) rfl rfl ?_
  refine x_isub (pc' := 8) (z := ((io n) - 1)) rfl rfl rfl ?_
  refine x_cs (ls0 := [_, _, _]) (rest := []) rfl rfl rfl rfl ?_
  refine r145_xg (ixo_x1 (gn31 hR) hp) ?_
  refine sK_i (pc' := 11) rfl ?_
  refine x_retz (z := false) rfl rfl ?_
  refine sK_i (pc' := 5) rfl ?_
  refine x_istore_n (pc' := 6) (ls' := [_, _, _]) rfl rfl rfl rfl ?_
  refine x_aload_n (pc' := 7) rfl rfl rfl rfl rfl ?_
  refine x_iload_n (pc' := 8) rfl rfl rfl ?_
  refine x_if (a' := 15) (pc' := 11) (z := false) rfl rfl rfl (by decide) (fun h => by cases h) (fun _ => ?_)
  refine x_iconst (pc' := 12) rfl rfl ?_
  refine x_goto (pc' := 28) rfl rfl ?_
  refine x_cv (ls0 := [_, _]) (rest := []) rfl rfl rfl rfl rfl ?_
  refine x_aload_n (pc' := 1) rfl rfl rfl rfl rfl ?_
  refine x_iload_n (pc' := 2) rfl rfl rfl ?_
  refine x_pI (pc' := 5) rfl rfl rfl ?_
  refine x_iload_n (pc' := 6) rfl rfl rfl ?_
  refine x_if (a' := 13) (pc' := 9) (z := true) rfl rfl rfl (by decide) (fun _ => ?_) (fun h => by cases h)
  refine x_iconst (pc' := 14) rfl rfl ?_
  refine x_retz (z := false) rfl rfl ?_
  refine sK_i (pc' := 31) rfl ?_
  refine x_if (a' := 36) (pc' := 34) (z := false) rfl rfl rfl (by decide) (fun h => by cases h) (fun _ => ?_)
  refine x_iconst (pc' := 35) rfl rfl ?_
  refine x_reti rfl rfl ?_
  exact k0
set_option maxHeartbeats 4000000 in
set_option maxRecDepth 10000 in
theorem r211 {t : sT} {Q : sRs → sT → Prop} {M : sM} {n : Nat} {T : Nat} {o : Nat}
    (hV : Vr t M n)
    (hT : mI M 801 = io T)
    (hT4 : T < 4096)
    (ho : o < T)
    (hTi : Ti M T)
    (k0 : (mB M 7 o) = true → Q (.inl (some (.inl 0))) (sIw t 768 0 2))
    (k1 : (mB M 7 o) = false → (mB M 2 (tB M o)) = true → Q (.inl (some (.inl 0))) (sIw t 768 0 2))
    (k2 : (mB M 7 o) = false → (mB M 2 (tB M o)) = false → (mB M 2 (tS M o)) = true → Q (.inl (some (.inl 0))) (sIw t 768 0 2))
    (k3 : (mB M 7 o) = false → (mB M 2 (tB M o)) = false → (mB M 2 (tS M o)) = false → X 163 0 [.inr (.inr (12, (some 0))), .inl (io (tK M o)), .inl (io (tB M o)), .inl (io (tS M o)), .inl (mA M 24 o), .inl (-(mA M 25 o))] [] (sBw (sIw t 768 0 0) 22 7 o true) (sK 163 211 118 [.inr (.inr (12, (some 0))), .inl (io o), .inl (bz true), .inl 1] [] Q)) :
    X 211 0 [.inr (.inr (12, (some 0))), .inl (io o), sJk, sJk] [] t Q := by
  obtain ⟨hM, hc, hR⟩ := hV
  refine x_aload_n (pc' := 1) rfl rfl rfl rfl rfl ?_
  refine x_iload_n (pc' := 2) rfl rfl rfl ?_
  refine x_cv (ls0 := [_, _]) (rest := []) rfl rfl rfl rfl rfl ?_
  refine x_iload_n (pc' := 1) rfl rfl rfl ?_
  refine x_iconst (pc' := 2) rfl rfl ?_
  refine x_aload_n (pc' := 3) rfl rfl rfl rfl rfl ?_
  refine x_gI (pc' := 6) (x := (io T)) rfl rfl rfl ((gI hM rfl).trans hT) ?_
  refine x_iconst (pc' := 7) rfl rfl ?_
  refine x_isub (pc' := 8) (z := ((io T) - 1)) rfl rfl rfl ?_
  refine x_cs (ls0 := [_, _, _]) (rest := []) rfl rfl rfl rfl ?_
  refine x_iload_n (pc' := 1) rfl rfl rfl ?_
  refine x_iload_n (pc' := 2) rfl rfl rfl ?_
  refine x_icmp (a' := 14) (pc' := 5) (z := decide (o < 0)) rfl rfl rfl (ic_lt (p := o) (q := 0) (Nat.lt_trans ho (Nat.lt_trans hT4 (by decide))) (by decide)) (fun h => absurd (of_decide_eq_true h) (by first | decide | omega | simp)) (fun _ => ?_)
  refine x_iload_n (pc' := 6) rfl rfl rfl ?_
  refine x_iload_n (pc' := 7) rfl rfl rfl ?_
  refine x_icmp (a' := 14) (pc' := 10) (z := decide (((io T) - 1) < (io o))) rfl rfl rfl rfl (fun h => absurd (of_decide_eq_true h) (io_pre ho (Nat.lt_trans hT4 (by decide)))) (fun _ => ?_)
  refine x_iconst (pc' := 11) rfl rfl ?_
  refine x_goto (pc' := 15) rfl rfl ?_
  refine x_retz (z := true) rfl rfl ?_
  refine sK_i (pc' := 11) rfl ?_
  refine x_retz (z := true) rfl rfl ?_
  refine sK_i (pc' := 5) rfl ?_
  refine x_istore_n (pc' := 6) (ls' := [_, _, _, _]) rfl rfl rfl rfl ?_
  refine x_iload_n (pc' := 7) rfl rfl rfl ?_
  refine x_if (a' := 51) (pc' := 10) (z := false) rfl rfl rfl (by decide) (fun h => by cases h) (fun _ => ?_)
  refine x_aload_n (pc' := 11) rfl rfl rfl rfl rfl ?_
  refine x_gR (pc' := 14) (r := (some 7)) rfl rfl rfl (kR_807_0 hc) ?_
  refine x_iload_n (pc' := 15) rfl rfl rfl ?_
  refine x_bald (pc' := 16) (N := 4096) (z := (mB M 7 o)) rfl rfl (kN_22_7 hc) (io_in (p := o) (N := 4096) (Nat.lt_trans ho hT4) (by decide)) (Eq.trans (congrArg (sB t 22 7) (nn_io (p := o) (Nat.lt_trans (Nat.lt_trans ho hT4) (by decide)))) (gB hM)) ?_
  refine x_ifne_z (a' := 51) (pc' := 19) (z := (mB M 7 o)) rfl rfl rfl (fun q4 => ?_) (fun q4 => ?_)
  · refine x_iconst (pc' := 52) rfl rfl ?_
    refine x_istore_n (pc' := 53) (ls' := [_, _, _, _]) rfl rfl rfl rfl ?_
    refine x_aload_n (pc' := 54) rfl rfl rfl rfl rfl ?_
    refine x_iload_n (pc' := 55) rfl rfl rfl ?_
    refine x_if (a' := 62) (pc' := 58) (z := true) rfl rfl rfl (by decide) (fun _ => ?_) (fun h => by cases h)
    refine x_iload_n (pc' := 63) rfl rfl rfl ?_
    refine x_if (a' := 70) (pc' := 66) (z := true) rfl rfl rfl (by decide) (fun _ => ?_) (fun h => by cases h)
    refine x_iconst (pc' := 71) rfl rfl ?_
    refine x_cv (ls0 := [_, _]) (rest := []) rfl rfl rfl rfl rfl ?_
    refine x_aload_n (pc' := 1) rfl rfl rfl rfl rfl ?_
    refine x_iload_n (pc' := 2) rfl rfl rfl ?_
    refine x_pI (pc' := 5) rfl rfl rfl ?_
    refine x_iload_n (pc' := 6) rfl rfl rfl ?_
    refine x_if (a' := 13) (pc' := 9) (z := true) rfl rfl rfl (by decide) (fun _ => ?_) (fun h => by cases h)
    refine x_iconst (pc' := 14) rfl rfl ?_
    refine x_retz (z := false) rfl rfl ?_
    refine sK_i (pc' := 74) rfl ?_
    refine x_if (a' := 79) (pc' := 77) (z := false) rfl rfl rfl (by decide) (fun h => by cases h) (fun _ => ?_)
    refine x_iconst (pc' := 78) rfl rfl ?_
    refine x_reti rfl rfl ?_
    exact k0 q4
  · refine x_aload_n (pc' := 20) rfl rfl rfl rfl rfl ?_
    refine x_gR (pc' := 23) (r := (some 2)) rfl rfl rfl (kR_781_0 hc) ?_
    refine x_aload_n (pc' := 24) rfl rfl rfl rfl rfl ?_
    refine x_gR (pc' := 27) (r := (some 22)) rfl rfl rfl (kR_803_0 hc) ?_
    refine x_iload_n (pc' := 28) rfl rfl rfl ?_
    refine x_iald (pc' := 29) (N := 4096) (x := (io (tB M o))) rfl rfl rfl (kN_21_22 hc) (io_in (p := o) (N := 4096) (Nat.lt_trans ho hT4) (by decide)) (Eq.trans (congrArg (sA t 21 22) (nn_io (p := o) (Nat.lt_trans (Nat.lt_trans ho hT4) (by decide)))) ((gA hM rfl).trans (hTi.2.2 _ ho).2.1.1)) ?_
    refine x_bald (pc' := 30) (N := 6) (z := (mB M 2 (tB M o))) rfl rfl (kN_22_2 hc) (io_in (p := (tB M o)) (N := 6) (hTi.2.2 _ ho).2.1.2 (by decide)) (Eq.trans (congrArg (sB t 22 2) (nn_io (p := (tB M o)) (Nat.lt_trans (hTi.2.2 _ ho).2.1.2 (by decide)))) (gB hM)) ?_
    refine x_ifne_z (a' := 51) (pc' := 33) (z := (mB M 2 (tB M o))) rfl rfl rfl (fun q9 => ?_) (fun q9 => ?_)
    · refine x_iconst (pc' := 52) rfl rfl ?_
      refine x_istore_n (pc' := 53) (ls' := [_, _, _, _]) rfl rfl rfl rfl ?_
      refine x_aload_n (pc' := 54) rfl rfl rfl rfl rfl ?_
      refine x_iload_n (pc' := 55) rfl rfl rfl ?_
      refine x_if (a' := 62) (pc' := 58) (z := true) rfl rfl rfl (by decide) (fun _ => ?_) (fun h => by cases h)
      refine x_iload_n (pc' := 63) rfl rfl rfl ?_
      refine x_if (a' := 70) (pc' := 66) (z := true) rfl rfl rfl (by decide) (fun _ => ?_) (fun h => by cases h)
      refine x_iconst (pc' := 71) rfl rfl ?_
      refine x_cv (ls0 := [_, _]) (rest := []) rfl rfl rfl rfl rfl ?_
      refine x_aload_n (pc' := 1) rfl rfl rfl rfl rfl ?_
      refine x_iload_n (pc' := 2) rfl rfl rfl ?_
      refine x_pI (pc' := 5) rfl rfl rfl ?_
      refine x_iload_n (pc' := 6) rfl rfl rfl ?_
      refine x_if (a' := 13) (pc' := 9) (z := true) rfl rfl rfl (by decide) (fun _ => ?_) (fun h => by cases h)
      refine x_iconst (pc' := 14) rfl rfl ?_
      refine x_retz (z := false) rfl rfl ?_
      refine sK_i (pc' := 74) rfl ?_
      refine x_if (a' := 79) (pc' := 77) (z := false) rfl rfl rfl (by decide) (fun h => by cases h) (fun _ => ?_)
      refine x_iconst (pc' := 78) rfl rfl ?_
      refine x_reti rfl rfl ?_
      exact k1 q4 q9
    · refine x_aload_n (pc' := 34) rfl rfl rfl rfl rfl ?_
      refine x_gR (pc' := 37) (r := (some 2)) rfl rfl rfl (kR_781_0 hc) ?_
      refine x_aload_n (pc' := 38) rfl rfl rfl rfl rfl ?_
      refine x_gR (pc' := 41) (r := (some 23)) rfl rfl rfl (kR_804_0 hc) ?_
      refine x_iload_n (pc' := 42) rfl rfl rfl ?_
      refine x_iald (pc' := 43) (N := 4096) (x := (io (tS M o))) rfl rfl rfl (kN_21_23 hc) (io_in (p := o) (N := 4096) (Nat.lt_trans ho hT4) (by decide)) (Eq.trans (congrArg (sA t 21 23) (nn_io (p := o) (Nat.lt_trans (Nat.lt_trans ho hT4) (by decide)))) ((gA hM rfl).trans (hTi.2.2 _ ho).2.2.1)) ?_
      refine x_bald (pc' := 44) (N := 6) (z := (mB M 2 (tS M o))) rfl rfl (kN_22_2 hc) (io_in (p := (tS M o)) (N := 6) (hTi.2.2 _ ho).2.2.2 (by decide)) (Eq.trans (congrArg (sB t 22 2) (nn_io (p := (tS M o)) (Nat.lt_trans (hTi.2.2 _ ho).2.2.2 (by decide)))) (gB hM)) ?_
      refine x_ifne_z (a' := 51) (pc' := 47) (z := (mB M 2 (tS M o))) rfl rfl rfl (fun q14 => ?_) (fun q14 => ?_)
      · refine x_iconst (pc' := 52) rfl rfl ?_
        refine x_istore_n (pc' := 53) (ls' := [_, _, _, _]) rfl rfl rfl rfl ?_
        refine x_aload_n (pc' := 54) rfl rfl rfl rfl rfl ?_
        refine x_iload_n (pc' := 55) rfl rfl rfl ?_
        refine x_if (a' := 62) (pc' := 58) (z := true) rfl rfl rfl (by decide) (fun _ => ?_) (fun h => by cases h)
        refine x_iload_n (pc' := 63) rfl rfl rfl ?_
        refine x_if (a' := 70) (pc' := 66) (z := true) rfl rfl rfl (by decide) (fun _ => ?_) (fun h => by cases h)
        refine x_iconst (pc' := 71) rfl rfl ?_
        refine x_cv (ls0 := [_, _]) (rest := []) rfl rfl rfl rfl rfl ?_
        refine x_aload_n (pc' := 1) rfl rfl rfl rfl rfl ?_
        refine x_iload_n (pc' := 2) rfl rfl rfl ?_
        refine x_pI (pc' := 5) rfl rfl rfl ?_
        refine x_iload_n (pc' := 6) rfl rfl rfl ?_
        refine x_if (a' := 13) (pc' := 9) (z := true) rfl rfl rfl (by decide) (fun _ => ?_) (fun h => by cases h)
        refine x_iconst (pc' := 14) rfl rfl ?_
        refine x_retz (z := false) rfl rfl ?_
        refine sK_i (pc' := 74) rfl ?_
        refine x_if (a' := 79) (pc' := 77) (z := false) rfl rfl rfl (by decide) (fun h => by cases h) (fun _ => ?_)
        refine x_iconst (pc' := 78) rfl rfl ?_
        refine x_reti rfl rfl ?_
        exact k2 q4 q9 q14
      · refine x_iconst (pc' := 48) rfl rfl ?_
        refine x_goto (pc' := 52) rfl rfl ?_
        refine x_istore_n (pc' := 53) (ls' := [_, _, _, _]) rfl rfl rfl rfl ?_
        refine x_aload_n (pc' := 54) rfl rfl rfl rfl rfl ?_
        refine x_iload_n (pc' := 55) rfl rfl rfl ?_
        refine x_if (a' := 62) (pc' := 58) (z := true) rfl rfl rfl (by decide) (fun _ => ?_) (fun h => by cases h)
        refine x_iload_n (pc' := 63) rfl rfl rfl ?_
        refine x_if (a' := 70) (pc' := 66) (z := false) rfl rfl rfl (by decide) (fun h => by cases h) (fun _ => ?_)
        refine x_iconst (pc' := 67) rfl rfl ?_
        refine x_goto (pc' := 71) rfl rfl ?_
        refine x_cv (ls0 := [_, _]) (rest := []) rfl rfl rfl rfl rfl ?_
        refine x_aload_n (pc' := 1) rfl rfl rfl rfl rfl ?_
        refine x_iload_n (pc' := 2) rfl rfl rfl ?_
        refine x_pI (pc' := 5) rfl rfl rfl ?_
        refine x_iload_n (pc' := 6) rfl rfl rfl ?_
        refine x_if (a' := 13) (pc' := 9) (z := false) rfl rfl rfl (by decide) (fun h => by cases h) (fun _ => ?_)
        refine x_iconst (pc' := 10) rfl rfl ?_
        refine x_goto (pc' := 14) rfl rfl ?_
        refine x_retz (z := true) rfl rfl ?_
        refine sK_i (pc' := 74) rfl ?_
        refine x_if (a' := 79) (pc' := 77) (z := true) rfl rfl rfl (by decide) (fun _ => ?_) (fun h => by cases h)
        refine x_aload_n (pc' := 80) rfl rfl rfl rfl rfl ?_
        refine x_gR (pc' := 83) (r := (some 7)) rfl rfl rfl (Eq.trans (b := sR t 807 0) rfl (kR_807_0 hc)) ?_
        refine x_iload_n (pc' := 84) rfl rfl rfl ?_
        refine x_iconst (pc' := 85) rfl rfl ?_
        refine x_bast (pc' := 86) (N := 4096) (p := o) (z := true) rfl rfl (Eq.trans rdNI (kN_22_7 hc)) (io_in (p := o) (N := 4096) (Nat.lt_trans ho hT4) (by decide)) (nn_io (p := o) (Nat.lt_trans (Nat.lt_trans ho hT4) (by decide))) rfl ?_
        refine x_aload_n (pc' := 87) rfl rfl rfl rfl rfl ?_
        refine x_aload_n (pc' := 88) rfl rfl rfl rfl rfl ?_
        refine x_gR (pc' := 91) (r := (some 21)) rfl rfl rfl (Eq.trans (b := sR t 802 0) rfl (kR_802_0 hc)) ?_
        refine x_iload_n (pc' := 92) rfl rfl rfl ?_
        refine x_iald (pc' := 93) (N := 4096) (x := (io (tK M o))) rfl rfl rfl (Eq.trans rdNB (Eq.trans rdNI (kN_21_21 hc))) (io_in (p := o) (N := 4096) (Nat.lt_trans ho hT4) (by decide)) (Eq.trans (congrArg (sA (sBw (sIw t 768 0 0) 22 7 o true) 21 21) (nn_io (p := o) (Nat.lt_trans (Nat.lt_trans ho hT4) (by decide)))) (Eq.trans (b := sA t 21 21 o) rfl ((gA hM rfl).trans (hTi.2.2 _ ho).1.1))) ?_
        refine x_aload_n (pc' := 94) rfl rfl rfl rfl rfl ?_
        refine x_gR (pc' := 97) (r := (some 22)) rfl rfl rfl (Eq.trans (b := sR t 803 0) rfl (kR_803_0 hc)) ?_
        refine x_iload_n (pc' := 98) rfl rfl rfl ?_
        refine x_iald (pc' := 99) (N := 4096) (x := (io (tB M o))) rfl rfl rfl (Eq.trans rdNB (Eq.trans rdNI (kN_21_22 hc))) (io_in (p := o) (N := 4096) (Nat.lt_trans ho hT4) (by decide)) (Eq.trans (congrArg (sA (sBw (sIw t 768 0 0) 22 7 o true) 21 22) (nn_io (p := o) (Nat.lt_trans (Nat.lt_trans ho hT4) (by decide)))) (Eq.trans (b := sA t 21 22 o) rfl ((gA hM rfl).trans (hTi.2.2 _ ho).2.1.1))) ?_
        refine x_aload_n (pc' := 100) rfl rfl rfl rfl rfl ?_
        refine x_gR (pc' := 103) (r := (some 23)) rfl rfl rfl (Eq.trans (b := sR t 804 0) rfl (kR_804_0 hc)) ?_
        refine x_iload_n (pc' := 104) rfl rfl rfl ?_
        refine x_iald (pc' := 105) (N := 4096) (x := (io (tS M o))) rfl rfl rfl (Eq.trans rdNB (Eq.trans rdNI (kN_21_23 hc))) (io_in (p := o) (N := 4096) (Nat.lt_trans ho hT4) (by decide)) (Eq.trans (congrArg (sA (sBw (sIw t 768 0 0) 22 7 o true) 21 23) (nn_io (p := o) (Nat.lt_trans (Nat.lt_trans ho hT4) (by decide)))) (Eq.trans (b := sA t 21 23 o) rfl ((gA hM rfl).trans (hTi.2.2 _ ho).2.2.1))) ?_
        refine x_aload_n (pc' := 106) rfl rfl rfl rfl rfl ?_
        refine x_gR (pc' := 109) (r := (some 24)) rfl rfl rfl (Eq.trans (b := sR t 805 0) rfl (kR_805_0 hc)) ?_
        refine x_iload_n (pc' := 110) rfl rfl rfl ?_
        refine x_iald (pc' := 111) (N := 4096) (x := (mA M 24 o)) rfl rfl rfl (Eq.trans rdNB (Eq.trans rdNI (kN_21_24 hc))) (io_in (p := o) (N := 4096) (Nat.lt_trans ho hT4) (by decide)) (Eq.trans (congrArg (sA (sBw (sIw t 768 0 0) 22 7 o true) 21 24) (nn_io (p := o) (Nat.lt_trans (Nat.lt_trans ho hT4) (by decide)))) (Eq.trans (b := sA t 21 24 o) rfl (gA hM rfl))) ?_
        refine x_aload_n (pc' := 112) rfl rfl rfl rfl rfl ?_
        refine x_gR (pc' := 115) (r := (some 25)) rfl rfl rfl (Eq.trans (b := sR t 806 0) rfl (kR_806_0 hc)) ?_
        refine x_iload_n (pc' := 116) rfl rfl rfl ?_
        refine x_iald (pc' := 117) (N := 4096) (x := (mA M 25 o)) rfl rfl rfl (Eq.trans rdNB (Eq.trans rdNI (kN_21_25 hc))) (io_in (p := o) (N := 4096) (Nat.lt_trans ho hT4) (by decide)) (Eq.trans (congrArg (sA (sBw (sIw t 768 0 0) 22 7 o true) 21 25) (nn_io (p := o) (Nat.lt_trans (Nat.lt_trans ho hT4) (by decide)))) (Eq.trans (b := sA t 21 25 o) rfl (gA hM rfl))) ?_
        refine x_ineg (pc' := 118) rfl rfl rfl ?_
        refine x_cv (ls0 := [_, _, _, _, _, _]) (rest := []) rfl rfl rfl rfl rfl ?_
        exact k3 q4 q9 q14
set_option maxHeartbeats 4000000 in
set_option maxRecDepth 10000 in
theorem r211_x0 {t : sT} {Q : sRs → sT → Prop} {M : sM} {n : Nat} {T : Nat} {x : Int32}
    (hV : Vr t M n)
    (hT : mI M 801 = io T)
    (hT4 : T < 4096)
    (hp : ixo x T = none)
    (k0 : Q (.inl (some (.inl 0))) (sIw t 768 0 1)) :
    X 211 0 [.inr (.inr (12, (some 0))), .inl x, sJk, sJk] [] t Q := by
  obtain ⟨hM, hc, hR⟩ := hV
  refine x_aload_n (pc' := 1) rfl rfl rfl rfl rfl ?_
  refine x_iload_n (pc' := 2) rfl rfl rfl ?_
  refine x_cv (ls0 := [_, _]) (rest := []) rfl rfl rfl rfl rfl ?_
  refine x_iload_n (pc' := 1) rfl rfl rfl ?_
  refine x_iconst (pc' := 2) rfl rfl ?_
  refine x_aload_n (pc' := 3) rfl rfl rfl rfl rfl ?_
  refine x_gI (pc' := 6) (x := (io T)) rfl rfl rfl ((gI hM rfl).trans hT) ?_
  refine x_iconst (pc' := 7) rfl rfl ?_
  refine x_isub (pc' := 8) (z := ((io T) - 1)) rfl rfl rfl ?_
  refine x_cs (ls0 := [_, _, _]) (rest := []) rfl rfl rfl rfl ?_
  refine r145_xg (ixo_x1 (Nat.lt_trans hT4 (by decide)) hp) ?_
  refine sK_i (pc' := 11) rfl ?_
  refine x_retz (z := false) rfl rfl ?_
  refine sK_i (pc' := 5) rfl ?_
  refine x_istore_n (pc' := 6) (ls' := [_, _, _, _]) rfl rfl rfl rfl ?_
  refine x_iload_n (pc' := 7) rfl rfl rfl ?_
  refine x_if (a' := 51) (pc' := 10) (z := true) rfl rfl rfl (by decide) (fun _ => ?_) (fun h => by cases h)
  refine x_iconst (pc' := 52) rfl rfl ?_
  refine x_istore_n (pc' := 53) (ls' := [_, _, _, _]) rfl rfl rfl rfl ?_
  refine x_aload_n (pc' := 54) rfl rfl rfl rfl rfl ?_
  refine x_iload_n (pc' := 55) rfl rfl rfl ?_
  refine x_if (a' := 62) (pc' := 58) (z := false) rfl rfl rfl (by decide) (fun h => by cases h) (fun _ => ?_)
  refine x_iconst (pc' := 59) rfl rfl ?_
  refine x_goto (pc' := 71) rfl rfl ?_
  refine x_cv (ls0 := [_, _]) (rest := []) rfl rfl rfl rfl rfl ?_
  refine x_aload_n (pc' := 1) rfl rfl rfl rfl rfl ?_
  refine x_iload_n (pc' := 2) rfl rfl rfl ?_
  refine x_pI (pc' := 5) rfl rfl rfl ?_
  refine x_iload_n (pc' := 6) rfl rfl rfl ?_
  refine x_if (a' := 13) (pc' := 9) (z := true) rfl rfl rfl (by decide) (fun _ => ?_) (fun h => by cases h)
  refine x_iconst (pc' := 14) rfl rfl ?_
  refine x_retz (z := false) rfl rfl ?_
  refine sK_i (pc' := 74) rfl ?_
  refine x_if (a' := 79) (pc' := 77) (z := false) rfl rfl rfl (by decide) (fun h => by cases h) (fun _ => ?_)
  refine x_iconst (pc' := 78) rfl rfl ?_
  refine x_reti rfl rfl ?_
  exact k0
set_option maxHeartbeats 4000000 in
set_option maxRecDepth 10000 in
theorem r212 {t : sT} {Q : sRs → sT → Prop} {M : sM} {n : Nat} {m : Nat} {p : Int32}
    (hV : Vr t M n)
    (hm : m < 6)
    (k0 : (!(!(!(decide (p < (-1000000))) && (!(decide (1000000 < p)))) || (mB M 2 m))) = true → Q (.inl (some (.inl ((((((0 + (bz (mB (mBw (mAw (mIw M 768 (bif (!(decide (p < (-1000000))) && (!(decide (1000000 < p)))) then (bif (mB M 2 m) then 3 else 0) else 2)) 9 m p) 1 m true) 1 0))) + (bz (mB (mBw (mAw (mIw M 768 (bif (!(decide (p < (-1000000))) && (!(decide (1000000 < p)))) then (bif (mB M 2 m) then 3 else 0) else 2)) 9 m p) 1 m true) 1 1))) + (bz (mB (mBw (mAw (mIw M 768 (bif (!(decide (p < (-1000000))) && (!(decide (1000000 < p)))) then (bif (mB M 2 m) then 3 else 0) else 2)) 9 m p) 1 m true) 1 2))) + (bz (mB (mBw (mAw (mIw M 768 (bif (!(decide (p < (-1000000))) && (!(decide (1000000 < p)))) then (bif (mB M 2 m) then 3 else 0) else 2)) 9 m p) 1 m true) 1 3))) + (bz (mB (mBw (mAw (mIw M 768 (bif (!(decide (p < (-1000000))) && (!(decide (1000000 < p)))) then (bif (mB M 2 m) then 3 else 0) else 2)) 9 m p) 1 m true) 1 4))) + (bz (mB (mBw (mAw (mIw M 768 (bif (!(decide (p < (-1000000))) && (!(decide (1000000 < p)))) then (bif (mB M 2 m) then 3 else 0) else 2)) 9 m p) 1 m true) 1 5)))))) (sBw (sAw (sIw t 768 0 (bif (!(decide (p < (-1000000))) && (!(decide (1000000 < p)))) then (bif (mB M 2 m) then 3 else 0) else 2)) 21 9 m p) 22 1 m true))
    (k1 : (!(!(!(decide (p < (-1000000))) && (!(decide (1000000 < p)))) || (mB M 2 m))) = false → Q (.inl (some (.inl 0))) (sIw t 768 0 (bif (!(decide (p < (-1000000))) && (!(decide (1000000 < p)))) then (bif (mB M 2 m) then 3 else 0) else 2))) :
    X 212 0 [.inr (.inr (12, (some 0))), .inl (io m), .inl p, sJk, sJk, sJk] [] t Q := by
  obtain ⟨hM, hc, hR⟩ := hV
  refine x_iload_n (pc' := 1) rfl rfl rfl ?_
  refine x_cs (ls0 := [_]) (rest := []) rfl rfl rfl rfl ?_
  refine x_iload_n (pc' := 1) rfl rfl rfl ?_
  refine x_iconst (pc' := 2) rfl rfl ?_
  refine x_iconst (pc' := 3) rfl rfl ?_
  refine x_cs (ls0 := [_, _, _]) (rest := []) rfl rfl rfl rfl ?_
  refine x_iload_n (pc' := 1) rfl rfl rfl ?_
  refine x_iload_n (pc' := 2) rfl rfl rfl ?_
  refine x_icmp (a' := 14) (pc' := 5) (z := decide (m < 0)) rfl rfl rfl (ic_lt (p := m) (q := 0) (gm31 hm) (by decide)) (fun h => absurd (of_decide_eq_true h) (by first | decide | omega | simp)) (fun _ => ?_)
  refine x_iload_n (pc' := 6) rfl rfl rfl ?_
  refine x_iload_n (pc' := 7) rfl rfl rfl ?_
  refine x_icmp (a' := 14) (pc' := 10) (z := decide (5 < m)) rfl rfl rfl (ic_gt (p := m) (q := 5) (gm31 hm) (by decide)) (fun h => absurd (of_decide_eq_true h) (show ¬ 5 < m by omega)) (fun _ => ?_)
  refine x_iconst (pc' := 11) rfl rfl ?_
  refine x_goto (pc' := 15) rfl rfl ?_
  refine x_retz (z := true) rfl rfl ?_
  refine sK_i (pc' := 6) rfl ?_
  refine x_retz (z := true) rfl rfl ?_
  refine sK_i (pc' := 4) rfl ?_
  refine x_istore_n (pc' := 5) (ls' := [_, _, _, _, _, _]) rfl rfl rfl rfl ?_
  refine x_aload_n (pc' := 6) rfl rfl rfl rfl rfl ?_
  refine x_iload_n (pc' := 7) rfl rfl rfl ?_
  refine x_if (a' := 14) (pc' := 10) (z := true) rfl rfl rfl (by decide) (fun _ => ?_) (fun h => by cases h)
  refine x_iload_n (pc' := 15) rfl rfl rfl ?_
  refine x_ldc_w (pc' := 18) rfl rfl ?_
  refine x_ldc_w (pc' := 21) rfl rfl ?_
  refine x_cs (ls0 := [_, _, _]) (rest := [_]) rfl rfl rfl rfl ?_
  refine x_iload_n (pc' := 1) rfl rfl rfl ?_
  refine x_iload_n (pc' := 2) rfl rfl rfl ?_
  have J5 : X 145 15 [.inl p, .inl (-1000000), .inl 1000000] [.inl (bz (!(decide (p < (-1000000))) && (!(decide (1000000 < p)))))] t (sK 145 212 21 [.inr (.inr (12, (some 0))), .inl (io m), .inl p, .inl (bz true), sJk, sJk] [.inr (.inr (12, (some 0)))] Q) := by
    refine x_retz (z := (!(decide (p < (-1000000))) && (!(decide (1000000 < p))))) rfl rfl ?_
    refine sK_i (pc' := 24) rfl ?_
    have J8 : X 212 45 [.inr (.inr (12, (some 0))), .inl (io m), .inl p, .inl (bz true), sJk, sJk] [.inl (bif (!(decide (p < (-1000000))) && (!(decide (1000000 < p)))) then (bif (mB M 2 m) then 3 else 0) else 2), .inr (.inr (12, (some 0)))] t Q := by
      refine x_cv (ls0 := [_, _]) (rest := []) rfl rfl rfl rfl rfl ?_
      refine x_aload_n (pc' := 1) rfl rfl rfl rfl rfl ?_
      refine x_iload_n (pc' := 2) rfl rfl rfl ?_
      refine x_pI (pc' := 5) rfl rfl rfl ?_
      refine x_iload_n (pc' := 6) rfl rfl rfl ?_
      have J10 : X 144 14 [.inr (.inr (12, (some 0))), .inl (bif (!(decide (p < (-1000000))) && (!(decide (1000000 < p)))) then (bif (mB M 2 m) then 3 else 0) else 2)] [.inl (bz (!(!(!(decide (p < (-1000000))) && (!(decide (1000000 < p)))) || (mB M 2 m))))] (sIw t 768 0 (bif (!(decide (p < (-1000000))) && (!(decide (1000000 < p)))) then (bif (mB M 2 m) then 3 else 0) else 2)) (sK 144 212 45 [.inr (.inr (12, (some 0))), .inl (io m), .inl p, .inl (bz true), sJk, sJk] [] Q) := by
        refine x_retz (z := (!(!(!(decide (p < (-1000000))) && (!(decide (1000000 < p)))) || (mB M 2 m)))) rfl rfl ?_
        refine sK_i (pc' := 48) rfl ?_
        refine x_ifne_z (a' := 53) (pc' := 51) (z := (!(!(!(decide (p < (-1000000))) && (!(decide (1000000 < p)))) || (mB M 2 m)))) rfl rfl rfl (fun q12 => ?_) (fun q12 => ?_)
        · refine x_aload_n (pc' := 54) rfl rfl rfl rfl rfl ?_
          refine x_gR (pc' := 57) (r := (some 9)) rfl rfl rfl (Eq.trans (b := sR t 779 0) rfl (kR_779_0 hc)) ?_
          refine x_iload_n (pc' := 58) rfl rfl rfl ?_
          refine x_iload_n (pc' := 59) rfl rfl rfl ?_
          refine x_iast (pc' := 60) (N := 6) (p := m) rfl rfl rfl (Eq.trans rdNI (kN_21_9 hc)) (io_in (p := m) (N := 6) hm (by decide)) (nn_io (p := m) (Nat.lt_trans hm (by decide))) ?_
          refine x_aload_n (pc' := 61) rfl rfl rfl rfl rfl ?_
          refine x_gR (pc' := 64) (r := (some 1)) rfl rfl rfl (Eq.trans (b := sR t 780 0) rfl (kR_780_0 hc)) ?_
          refine x_iload_n (pc' := 65) rfl rfl rfl ?_
          refine x_iconst (pc' := 66) rfl rfl ?_
          refine x_bast (pc' := 67) (N := 6) (p := m) (z := true) rfl rfl (Eq.trans rdNA (Eq.trans rdNI (kN_22_1 hc))) (io_in (p := m) (N := 6) hm (by decide)) (nn_io (p := m) (Nat.lt_trans hm (by decide))) rfl ?_
          refine x_iconst (pc' := 68) rfl rfl ?_
          refine x_istore (pc' := 70) (ls' := [_, _, _, _, _, _]) rfl rfl rfl rfl ?_
          refine x_iconst (pc' := 71) rfl rfl ?_
          refine x_istore (pc' := 73) (ls' := [_, _, _, _, _, _]) rfl rfl rfl rfl ?_
          refine x_iload (pc' := 75) rfl rfl rfl ?_
          refine x_bipush (pc' := 77) rfl rfl ?_
          refine x_icmp (a' := 106) (pc' := 80) (z := false) rfl rfl rfl (by decide) (fun h => by cases h) (fun _ => ?_)
          refine x_iload (pc' := 82) rfl rfl rfl ?_
          refine x_aload_n (pc' := 83) rfl rfl rfl rfl rfl ?_
          refine x_gR (pc' := 86) (r := (some 1)) rfl rfl rfl (Eq.trans (b := sR t 780 0) rfl (kR_780_0 hc)) ?_
          refine x_iload (pc' := 88) rfl rfl rfl ?_
          refine x_bald (pc' := 89) (N := 6) (z := (mB (mBw (mAw (mIw M 768 (bif (!(decide (p < (-1000000))) && (!(decide (1000000 < p)))) then (bif (mB M 2 m) then 3 else 0) else 2)) 9 m p) 1 m true) 1 0)) rfl rfl (Eq.trans rdNB (Eq.trans rdNA (Eq.trans rdNI (kN_22_1 hc)))) (io_in (p := 0) (N := 6) (by decide) (by decide)) (Eq.trans (congrArg (sB (sBw (sAw (sIw t 768 0 (bif (!(decide (p < (-1000000))) && (!(decide (1000000 < p)))) then (bif (mB M 2 m) then 3 else 0) else 2)) 21 9 m p) 22 1 m true) 22 1) (nn_io (p := 0) (by decide))) (gB (rp_B.trans (congrArg (fun z => mBw z 1 m true) ((rp_A rfl).trans (congrArg (fun z => mAw z 9 m p) ((rp_I rfl).trans (congrArg (fun z => mIw z 768 (bif (!(decide (p < (-1000000))) && (!(decide (1000000 < p)))) then (bif (mB M 2 m) then 3 else 0) else 2)) hM)))))))) ?_
          have J14 : X 212 97 [.inr (.inr (12, (some 0))), .inl (io m), .inl p, .inl (bz true), .inl 0, .inl 0] [.inl (bz (mB (mBw (mAw (mIw M 768 (bif (!(decide (p < (-1000000))) && (!(decide (1000000 < p)))) then (bif (mB M 2 m) then 3 else 0) else 2)) 9 m p) 1 m true) 1 0)), .inl 0] (sBw (sAw (sIw t 768 0 (bif (!(decide (p < (-1000000))) && (!(decide (1000000 < p)))) then (bif (mB M 2 m) then 3 else 0) else 2)) 21 9 m p) 22 1 m true) Q := by
            refine x_iadd (pc' := 98) (z := (0 + (bz (mB (mBw (mAw (mIw M 768 (bif (!(decide (p < (-1000000))) && (!(decide (1000000 < p)))) then (bif (mB M 2 m) then 3 else 0) else 2)) 9 m p) 1 m true) 1 0)))) rfl rfl rfl ?_
            refine x_istore (pc' := 100) (ls' := [_, _, _, _, _, _]) rfl rfl rfl rfl ?_
            refine x_iinc (pc' := 103) (y := 1) (ls' := [_, _, _, _, _, _]) rfl rfl rfl rfl rfl ?_
            refine x_goto (pc' := 73) rfl rfl ?_
            refine x_iload (pc' := 75) rfl rfl rfl ?_
            refine x_bipush (pc' := 77) rfl rfl ?_
            refine x_icmp (a' := 106) (pc' := 80) (z := false) rfl rfl rfl (by decide) (fun h => by cases h) (fun _ => ?_)
            refine x_iload (pc' := 82) rfl rfl rfl ?_
            refine x_aload_n (pc' := 83) rfl rfl rfl rfl rfl ?_
            refine x_gR (pc' := 86) (r := (some 1)) rfl rfl rfl (Eq.trans (b := sR t 780 0) rfl (kR_780_0 hc)) ?_
            refine x_iload (pc' := 88) rfl rfl rfl ?_
            refine x_bald (pc' := 89) (N := 6) (z := (mB (mBw (mAw (mIw M 768 (bif (!(decide (p < (-1000000))) && (!(decide (1000000 < p)))) then (bif (mB M 2 m) then 3 else 0) else 2)) 9 m p) 1 m true) 1 1)) rfl rfl (Eq.trans rdNB (Eq.trans rdNA (Eq.trans rdNI (kN_22_1 hc)))) (io_in (p := 1) (N := 6) (by decide) (by decide)) (Eq.trans (congrArg (sB (sBw (sAw (sIw t 768 0 (bif (!(decide (p < (-1000000))) && (!(decide (1000000 < p)))) then (bif (mB M 2 m) then 3 else 0) else 2)) 21 9 m p) 22 1 m true) 22 1) (nn_io (p := 1) (by decide))) (gB (rp_B.trans (congrArg (fun z => mBw z 1 m true) ((rp_A rfl).trans (congrArg (fun z => mAw z 9 m p) ((rp_I rfl).trans (congrArg (fun z => mIw z 768 (bif (!(decide (p < (-1000000))) && (!(decide (1000000 < p)))) then (bif (mB M 2 m) then 3 else 0) else 2)) hM)))))))) ?_
            have J17 : X 212 97 [.inr (.inr (12, (some 0))), .inl (io m), .inl p, .inl (bz true), .inl (0 + (bz (mB (mBw (mAw (mIw M 768 (bif (!(decide (p < (-1000000))) && (!(decide (1000000 < p)))) then (bif (mB M 2 m) then 3 else 0) else 2)) 9 m p) 1 m true) 1 0))), .inl 1] [.inl (bz (mB (mBw (mAw (mIw M 768 (bif (!(decide (p < (-1000000))) && (!(decide (1000000 < p)))) then (bif (mB M 2 m) then 3 else 0) else 2)) 9 m p) 1 m true) 1 1)), .inl (0 + (bz (mB (mBw (mAw (mIw M 768 (bif (!(decide (p < (-1000000))) && (!(decide (1000000 < p)))) then (bif (mB M 2 m) then 3 else 0) else 2)) 9 m p) 1 m true) 1 0)))] (sBw (sAw (sIw t 768 0 (bif (!(decide (p < (-1000000))) && (!(decide (1000000 < p)))) then (bif (mB M 2 m) then 3 else 0) else 2)) 21 9 m p) 22 1 m true) Q := by
              refine x_iadd (pc' := 98) (z := ((0 + (bz (mB (mBw (mAw (mIw M 768 (bif (!(decide (p < (-1000000))) && (!(decide (1000000 < p)))) then (bif (mB M 2 m) then 3 else 0) else 2)) 9 m p) 1 m true) 1 0))) + (bz (mB (mBw (mAw (mIw M 768 (bif (!(decide (p < (-1000000))) && (!(decide (1000000 < p)))) then (bif (mB M 2 m) then 3 else 0) else 2)) 9 m p) 1 m true) 1 1)))) rfl rfl rfl ?_
              refine x_istore (pc' := 100) (ls' := [_, _, _, _, _, _]) rfl rfl rfl rfl ?_
              refine x_iinc (pc' := 103) (y := 2) (ls' := [_, _, _, _, _, _]) rfl rfl rfl rfl rfl ?_
              refine x_goto (pc' := 73) rfl rfl ?_
              refine x_iload (pc' := 75) rfl rfl rfl ?_
              refine x_bipush (pc' := 77) rfl rfl ?_
              refine x_icmp (a' := 106) (pc' := 80) (z := false) rfl rfl rfl (by decide) (fun h => by cases h) (fun _ => ?_)
              refine x_iload (pc' := 82) rfl rfl rfl ?_
              refine x_aload_n (pc' := 83) rfl rfl rfl rfl rfl ?_
              refine x_gR (pc' := 86) (r := (some 1)) rfl rfl rfl (Eq.trans (b := sR t 780 0) rfl (kR_780_0 hc)) ?_
              refine x_iload (pc' := 88) rfl rfl rfl ?_
              refine x_bald (pc' := 89) (N := 6) (z := (mB (mBw (mAw (mIw M 768 (bif (!(decide (p < (-1000000))) && (!(decide (1000000 < p)))) then (bif (mB M 2 m) then 3 else 0) else 2)) 9 m p) 1 m true) 1 2)) rfl rfl (Eq.trans rdNB (Eq.trans rdNA (Eq.trans rdNI (kN_22_1 hc)))) (io_in (p := 2) (N := 6) (by decide) (by decide)) (Eq.trans (congrArg (sB (sBw (sAw (sIw t 768 0 (bif (!(decide (p < (-1000000))) && (!(decide (1000000 < p)))) then (bif (mB M 2 m) then 3 else 0) else 2)) 21 9 m p) 22 1 m true) 22 1) (nn_io (p := 2) (by decide))) (gB (rp_B.trans (congrArg (fun z => mBw z 1 m true) ((rp_A rfl).trans (congrArg (fun z => mAw z 9 m p) ((rp_I rfl).trans (congrArg (fun z => mIw z 768 (bif (!(decide (p < (-1000000))) && (!(decide (1000000 < p)))) then (bif (mB M 2 m) then 3 else 0) else 2)) hM)))))))) ?_
              have J20 : X 212 97 [.inr (.inr (12, (some 0))), .inl (io m), .inl p, .inl (bz true), .inl ((0 + (bz (mB (mBw (mAw (mIw M 768 (bif (!(decide (p < (-1000000))) && (!(decide (1000000 < p)))) then (bif (mB M 2 m) then 3 else 0) else 2)) 9 m p) 1 m true) 1 0))) + (bz (mB (mBw (mAw (mIw M 768 (bif (!(decide (p < (-1000000))) && (!(decide (1000000 < p)))) then (bif (mB M 2 m) then 3 else 0) else 2)) 9 m p) 1 m true) 1 1))), .inl 2] [.inl (bz (mB (mBw (mAw (mIw M 768 (bif (!(decide (p < (-1000000))) && (!(decide (1000000 < p)))) then (bif (mB M 2 m) then 3 else 0) else 2)) 9 m p) 1 m true) 1 2)), .inl ((0 + (bz (mB (mBw (mAw (mIw M 768 (bif (!(decide (p < (-1000000))) && (!(decide (1000000 < p)))) then (bif (mB M 2 m) then 3 else 0) else 2)) 9 m p) 1 m true) 1 0))) + (bz (mB (mBw (mAw (mIw M 768 (bif (!(decide (p < (-1000000))) && (!(decide (1000000 < p)))) then (bif (mB M 2 m) then 3 else 0) else 2)) 9 m p) 1 m true) 1 1)))] (sBw (sAw (sIw t 768 0 (bif (!(decide (p < (-1000000))) && (!(decide (1000000 < p)))) then (bif (mB M 2 m) then 3 else 0) else 2)) 21 9 m p) 22 1 m true) Q := by
                refine x_iadd (pc' := 98) (z := (((0 + (bz (mB (mBw (mAw (mIw M 768 (bif (!(decide (p < (-1000000))) && (!(decide (1000000 < p)))) then (bif (mB M 2 m) then 3 else 0) else 2)) 9 m p) 1 m true) 1 0))) + (bz (mB (mBw (mAw (mIw M 768 (bif (!(decide (p < (-1000000))) && (!(decide (1000000 < p)))) then (bif (mB M 2 m) then 3 else 0) else 2)) 9 m p) 1 m true) 1 1))) + (bz (mB (mBw (mAw (mIw M 768 (bif (!(decide (p < (-1000000))) && (!(decide (1000000 < p)))) then (bif (mB M 2 m) then 3 else 0) else 2)) 9 m p) 1 m true) 1 2)))) rfl rfl rfl ?_
                refine x_istore (pc' := 100) (ls' := [_, _, _, _, _, _]) rfl rfl rfl rfl ?_
                refine x_iinc (pc' := 103) (y := 3) (ls' := [_, _, _, _, _, _]) rfl rfl rfl rfl rfl ?_
                refine x_goto (pc' := 73) rfl rfl ?_
                refine x_iload (pc' := 75) rfl rfl rfl ?_
                refine x_bipush (pc' := 77) rfl rfl ?_
                refine x_icmp (a' := 106) (pc' := 80) (z := false) rfl rfl rfl (by decide) (fun h => by cases h) (fun _ => ?_)
                refine x_iload (pc' := 82) rfl rfl rfl ?_
                refine x_aload_n (pc' := 83) rfl rfl rfl rfl rfl ?_
                refine x_gR (pc' := 86) (r := (some 1)) rfl rfl rfl (Eq.trans (b := sR t 780 0) rfl (kR_780_0 hc)) ?_
                refine x_iload (pc' := 88) rfl rfl rfl ?_
                refine x_bald (pc' := 89) (N := 6) (z := (mB (mBw (mAw (mIw M 768 (bif (!(decide (p < (-1000000))) && (!(decide (1000000 < p)))) then (bif (mB M 2 m) then 3 else 0) else 2)) 9 m p) 1 m true) 1 3)) rfl rfl (Eq.trans rdNB (Eq.trans rdNA (Eq.trans rdNI (kN_22_1 hc)))) (io_in (p := 3) (N := 6) (by decide) (by decide)) (Eq.trans (congrArg (sB (sBw (sAw (sIw t 768 0 (bif (!(decide (p < (-1000000))) && (!(decide (1000000 < p)))) then (bif (mB M 2 m) then 3 else 0) else 2)) 21 9 m p) 22 1 m true) 22 1) (nn_io (p := 3) (by decide))) (gB (rp_B.trans (congrArg (fun z => mBw z 1 m true) ((rp_A rfl).trans (congrArg (fun z => mAw z 9 m p) ((rp_I rfl).trans (congrArg (fun z => mIw z 768 (bif (!(decide (p < (-1000000))) && (!(decide (1000000 < p)))) then (bif (mB M 2 m) then 3 else 0) else 2)) hM)))))))) ?_
                have J23 : X 212 97 [.inr (.inr (12, (some 0))), .inl (io m), .inl p, .inl (bz true), .inl (((0 + (bz (mB (mBw (mAw (mIw M 768 (bif (!(decide (p < (-1000000))) && (!(decide (1000000 < p)))) then (bif (mB M 2 m) then 3 else 0) else 2)) 9 m p) 1 m true) 1 0))) + (bz (mB (mBw (mAw (mIw M 768 (bif (!(decide (p < (-1000000))) && (!(decide (1000000 < p)))) then (bif (mB M 2 m) then 3 else 0) else 2)) 9 m p) 1 m true) 1 1))) + (bz (mB (mBw (mAw (mIw M 768 (bif (!(decide (p < (-1000000))) && (!(decide (1000000 < p)))) then (bif (mB M 2 m) then 3 else 0) else 2)) 9 m p) 1 m true) 1 2))), .inl 3] [.inl (bz (mB (mBw (mAw (mIw M 768 (bif (!(decide (p < (-1000000))) && (!(decide (1000000 < p)))) then (bif (mB M 2 m) then 3 else 0) else 2)) 9 m p) 1 m true) 1 3)), .inl (((0 + (bz (mB (mBw (mAw (mIw M 768 (bif (!(decide (p < (-1000000))) && (!(decide (1000000 < p)))) then (bif (mB M 2 m) then 3 else 0) else 2)) 9 m p) 1 m true) 1 0))) + (bz (mB (mBw (mAw (mIw M 768 (bif (!(decide (p < (-1000000))) && (!(decide (1000000 < p)))) then (bif (mB M 2 m) then 3 else 0) else 2)) 9 m p) 1 m true) 1 1))) + (bz (mB (mBw (mAw (mIw M 768 (bif (!(decide (p < (-1000000))) && (!(decide (1000000 < p)))) then (bif (mB M 2 m) then 3 else 0) else 2)) 9 m p) 1 m true) 1 2)))] (sBw (sAw (sIw t 768 0 (bif (!(decide (p < (-1000000))) && (!(decide (1000000 < p)))) then (bif (mB M 2 m) then 3 else 0) else 2)) 21 9 m p) 22 1 m true) Q := by
                  refine x_iadd (pc' := 98) (z := ((((0 + (bz (mB (mBw (mAw (mIw M 768 (bif (!(decide (p < (-1000000))) && (!(decide (1000000 < p)))) then (bif (mB M 2 m) then 3 else 0) else 2)) 9 m p) 1 m true) 1 0))) + (bz (mB (mBw (mAw (mIw M 768 (bif (!(decide (p < (-1000000))) && (!(decide (1000000 < p)))) then (bif (mB M 2 m) then 3 else 0) else 2)) 9 m p) 1 m true) 1 1))) + (bz (mB (mBw (mAw (mIw M 768 (bif (!(decide (p < (-1000000))) && (!(decide (1000000 < p)))) then (bif (mB M 2 m) then 3 else 0) else 2)) 9 m p) 1 m true) 1 2))) + (bz (mB (mBw (mAw (mIw M 768 (bif (!(decide (p < (-1000000))) && (!(decide (1000000 < p)))) then (bif (mB M 2 m) then 3 else 0) else 2)) 9 m p) 1 m true) 1 3)))) rfl rfl rfl ?_
                  refine x_istore (pc' := 100) (ls' := [_, _, _, _, _, _]) rfl rfl rfl rfl ?_
                  refine x_iinc (pc' := 103) (y := 4) (ls' := [_, _, _, _, _, _]) rfl rfl rfl rfl rfl ?_
                  refine x_goto (pc' := 73) rfl rfl ?_
                  refine x_iload (pc' := 75) rfl rfl rfl ?_
                  refine x_bipush (pc' := 77) rfl rfl ?_
                  refine x_icmp (a' := 106) (pc' := 80) (z := false) rfl rfl rfl (by decide) (fun h => by cases h) (fun _ => ?_)
                  refine x_iload (pc' := 82) rfl rfl rfl ?_
                  refine x_aload_n (pc' := 83) rfl rfl rfl rfl rfl ?_
                  refine x_gR (pc' := 86) (r := (some 1)) rfl rfl rfl (Eq.trans (b := sR t 780 0) rfl (kR_780_0 hc)) ?_
                  refine x_iload (pc' := 88) rfl rfl rfl ?_
                  refine x_bald (pc' := 89) (N := 6) (z := (mB (mBw (mAw (mIw M 768 (bif (!(decide (p < (-1000000))) && (!(decide (1000000 < p)))) then (bif (mB M 2 m) then 3 else 0) else 2)) 9 m p) 1 m true) 1 4)) rfl rfl (Eq.trans rdNB (Eq.trans rdNA (Eq.trans rdNI (kN_22_1 hc)))) (io_in (p := 4) (N := 6) (by decide) (by decide)) (Eq.trans (congrArg (sB (sBw (sAw (sIw t 768 0 (bif (!(decide (p < (-1000000))) && (!(decide (1000000 < p)))) then (bif (mB M 2 m) then 3 else 0) else 2)) 21 9 m p) 22 1 m true) 22 1) (nn_io (p := 4) (by decide))) (gB (rp_B.trans (congrArg (fun z => mBw z 1 m true) ((rp_A rfl).trans (congrArg (fun z => mAw z 9 m p) ((rp_I rfl).trans (congrArg (fun z => mIw z 768 (bif (!(decide (p < (-1000000))) && (!(decide (1000000 < p)))) then (bif (mB M 2 m) then 3 else 0) else 2)) hM)))))))) ?_
                  have J26 : X 212 97 [.inr (.inr (12, (some 0))), .inl (io m), .inl p, .inl (bz true), .inl ((((0 + (bz (mB (mBw (mAw (mIw M 768 (bif (!(decide (p < (-1000000))) && (!(decide (1000000 < p)))) then (bif (mB M 2 m) then 3 else 0) else 2)) 9 m p) 1 m true) 1 0))) + (bz (mB (mBw (mAw (mIw M 768 (bif (!(decide (p < (-1000000))) && (!(decide (1000000 < p)))) then (bif (mB M 2 m) then 3 else 0) else 2)) 9 m p) 1 m true) 1 1))) + (bz (mB (mBw (mAw (mIw M 768 (bif (!(decide (p < (-1000000))) && (!(decide (1000000 < p)))) then (bif (mB M 2 m) then 3 else 0) else 2)) 9 m p) 1 m true) 1 2))) + (bz (mB (mBw (mAw (mIw M 768 (bif (!(decide (p < (-1000000))) && (!(decide (1000000 < p)))) then (bif (mB M 2 m) then 3 else 0) else 2)) 9 m p) 1 m true) 1 3))), .inl 4] [.inl (bz (mB (mBw (mAw (mIw M 768 (bif (!(decide (p < (-1000000))) && (!(decide (1000000 < p)))) then (bif (mB M 2 m) then 3 else 0) else 2)) 9 m p) 1 m true) 1 4)), .inl ((((0 + (bz (mB (mBw (mAw (mIw M 768 (bif (!(decide (p < (-1000000))) && (!(decide (1000000 < p)))) then (bif (mB M 2 m) then 3 else 0) else 2)) 9 m p) 1 m true) 1 0))) + (bz (mB (mBw (mAw (mIw M 768 (bif (!(decide (p < (-1000000))) && (!(decide (1000000 < p)))) then (bif (mB M 2 m) then 3 else 0) else 2)) 9 m p) 1 m true) 1 1))) + (bz (mB (mBw (mAw (mIw M 768 (bif (!(decide (p < (-1000000))) && (!(decide (1000000 < p)))) then (bif (mB M 2 m) then 3 else 0) else 2)) 9 m p) 1 m true) 1 2))) + (bz (mB (mBw (mAw (mIw M 768 (bif (!(decide (p < (-1000000))) && (!(decide (1000000 < p)))) then (bif (mB M 2 m) then 3 else 0) else 2)) 9 m p) 1 m true) 1 3)))] (sBw (sAw (sIw t 768 0 (bif (!(decide (p < (-1000000))) && (!(decide (1000000 < p)))) then (bif (mB M 2 m) then 3 else 0) else 2)) 21 9 m p) 22 1 m true) Q := by
                    refine x_iadd (pc' := 98) (z := (((((0 + (bz (mB (mBw (mAw (mIw M 768 (bif (!(decide (p < (-1000000))) && (!(decide (1000000 < p)))) then (bif (mB M 2 m) then 3 else 0) else 2)) 9 m p) 1 m true) 1 0))) + (bz (mB (mBw (mAw (mIw M 768 (bif (!(decide (p < (-1000000))) && (!(decide (1000000 < p)))) then (bif (mB M 2 m) then 3 else 0) else 2)) 9 m p) 1 m true) 1 1))) + (bz (mB (mBw (mAw (mIw M 768 (bif (!(decide (p < (-1000000))) && (!(decide (1000000 < p)))) then (bif (mB M 2 m) then 3 else 0) else 2)) 9 m p) 1 m true) 1 2))) + (bz (mB (mBw (mAw (mIw M 768 (bif (!(decide (p < (-1000000))) && (!(decide (1000000 < p)))) then (bif (mB M 2 m) then 3 else 0) else 2)) 9 m p) 1 m true) 1 3))) + (bz (mB (mBw (mAw (mIw M 768 (bif (!(decide (p < (-1000000))) && (!(decide (1000000 < p)))) then (bif (mB M 2 m) then 3 else 0) else 2)) 9 m p) 1 m true) 1 4)))) rfl rfl rfl ?_
                    refine x_istore (pc' := 100) (ls' := [_, _, _, _, _, _]) rfl rfl rfl rfl ?_
                    refine x_iinc (pc' := 103) (y := 5) (ls' := [_, _, _, _, _, _]) rfl rfl rfl rfl rfl ?_
                    refine x_goto (pc' := 73) rfl rfl ?_
                    refine x_iload (pc' := 75) rfl rfl rfl ?_
                    refine x_bipush (pc' := 77) rfl rfl ?_
                    refine x_icmp (a' := 106) (pc' := 80) (z := false) rfl rfl rfl (by decide) (fun h => by cases h) (fun _ => ?_)
                    refine x_iload (pc' := 82) rfl rfl rfl ?_
                    refine x_aload_n (pc' := 83) rfl rfl rfl rfl rfl ?_
                    refine x_gR (pc' := 86) (r := (some 1)) rfl rfl rfl (Eq.trans (b := sR t 780 0) rfl (kR_780_0 hc)) ?_
                    refine x_iload (pc' := 88) rfl rfl rfl ?_
                    refine x_bald (pc' := 89) (N := 6) (z := (mB (mBw (mAw (mIw M 768 (bif (!(decide (p < (-1000000))) && (!(decide (1000000 < p)))) then (bif (mB M 2 m) then 3 else 0) else 2)) 9 m p) 1 m true) 1 5)) rfl rfl (Eq.trans rdNB (Eq.trans rdNA (Eq.trans rdNI (kN_22_1 hc)))) (io_in (p := 5) (N := 6) (by decide) (by decide)) (Eq.trans (congrArg (sB (sBw (sAw (sIw t 768 0 (bif (!(decide (p < (-1000000))) && (!(decide (1000000 < p)))) then (bif (mB M 2 m) then 3 else 0) else 2)) 21 9 m p) 22 1 m true) 22 1) (nn_io (p := 5) (by decide))) (gB (rp_B.trans (congrArg (fun z => mBw z 1 m true) ((rp_A rfl).trans (congrArg (fun z => mAw z 9 m p) ((rp_I rfl).trans (congrArg (fun z => mIw z 768 (bif (!(decide (p < (-1000000))) && (!(decide (1000000 < p)))) then (bif (mB M 2 m) then 3 else 0) else 2)) hM)))))))) ?_
                    have J29 : X 212 97 [.inr (.inr (12, (some 0))), .inl (io m), .inl p, .inl (bz true), .inl (((((0 + (bz (mB (mBw (mAw (mIw M 768 (bif (!(decide (p < (-1000000))) && (!(decide (1000000 < p)))) then (bif (mB M 2 m) then 3 else 0) else 2)) 9 m p) 1 m true) 1 0))) + (bz (mB (mBw (mAw (mIw M 768 (bif (!(decide (p < (-1000000))) && (!(decide (1000000 < p)))) then (bif (mB M 2 m) then 3 else 0) else 2)) 9 m p) 1 m true) 1 1))) + (bz (mB (mBw (mAw (mIw M 768 (bif (!(decide (p < (-1000000))) && (!(decide (1000000 < p)))) then (bif (mB M 2 m) then 3 else 0) else 2)) 9 m p) 1 m true) 1 2))) + (bz (mB (mBw (mAw (mIw M 768 (bif (!(decide (p < (-1000000))) && (!(decide (1000000 < p)))) then (bif (mB M 2 m) then 3 else 0) else 2)) 9 m p) 1 m true) 1 3))) + (bz (mB (mBw (mAw (mIw M 768 (bif (!(decide (p < (-1000000))) && (!(decide (1000000 < p)))) then (bif (mB M 2 m) then 3 else 0) else 2)) 9 m p) 1 m true) 1 4))), .inl 5] [.inl (bz (mB (mBw (mAw (mIw M 768 (bif (!(decide (p < (-1000000))) && (!(decide (1000000 < p)))) then (bif (mB M 2 m) then 3 else 0) else 2)) 9 m p) 1 m true) 1 5)), .inl (((((0 + (bz (mB (mBw (mAw (mIw M 768 (bif (!(decide (p < (-1000000))) && (!(decide (1000000 < p)))) then (bif (mB M 2 m) then 3 else 0) else 2)) 9 m p) 1 m true) 1 0))) + (bz (mB (mBw (mAw (mIw M 768 (bif (!(decide (p < (-1000000))) && (!(decide (1000000 < p)))) then (bif (mB M 2 m) then 3 else 0) else 2)) 9 m p) 1 m true) 1 1))) + (bz (mB (mBw (mAw (mIw M 768 (bif (!(decide (p < (-1000000))) && (!(decide (1000000 < p)))) then (bif (mB M 2 m) then 3 else 0) else 2)) 9 m p) 1 m true) 1 2))) + (bz (mB (mBw (mAw (mIw M 768 (bif (!(decide (p < (-1000000))) && (!(decide (1000000 < p)))) then (bif (mB M 2 m) then 3 else 0) else 2)) 9 m p) 1 m true) 1 3))) + (bz (mB (mBw (mAw (mIw M 768 (bif (!(decide (p < (-1000000))) && (!(decide (1000000 < p)))) then (bif (mB M 2 m) then 3 else 0) else 2)) 9 m p) 1 m true) 1 4)))] (sBw (sAw (sIw t 768 0 (bif (!(decide (p < (-1000000))) && (!(decide (1000000 < p)))) then (bif (mB M 2 m) then 3 else 0) else 2)) 21 9 m p) 22 1 m true) Q := by
                      refine x_iadd (pc' := 98) (z := ((((((0 + (bz (mB (mBw (mAw (mIw M 768 (bif (!(decide (p < (-1000000))) && (!(decide (1000000 < p)))) then (bif (mB M 2 m) then 3 else 0) else 2)) 9 m p) 1 m true) 1 0))) + (bz (mB (mBw (mAw (mIw M 768 (bif (!(decide (p < (-1000000))) && (!(decide (1000000 < p)))) then (bif (mB M 2 m) then 3 else 0) else 2)) 9 m p) 1 m true) 1 1))) + (bz (mB (mBw (mAw (mIw M 768 (bif (!(decide (p < (-1000000))) && (!(decide (1000000 < p)))) then (bif (mB M 2 m) then 3 else 0) else 2)) 9 m p) 1 m true) 1 2))) + (bz (mB (mBw (mAw (mIw M 768 (bif (!(decide (p < (-1000000))) && (!(decide (1000000 < p)))) then (bif (mB M 2 m) then 3 else 0) else 2)) 9 m p) 1 m true) 1 3))) + (bz (mB (mBw (mAw (mIw M 768 (bif (!(decide (p < (-1000000))) && (!(decide (1000000 < p)))) then (bif (mB M 2 m) then 3 else 0) else 2)) 9 m p) 1 m true) 1 4))) + (bz (mB (mBw (mAw (mIw M 768 (bif (!(decide (p < (-1000000))) && (!(decide (1000000 < p)))) then (bif (mB M 2 m) then 3 else 0) else 2)) 9 m p) 1 m true) 1 5)))) rfl rfl rfl ?_
                      refine x_istore (pc' := 100) (ls' := [_, _, _, _, _, _]) rfl rfl rfl rfl ?_
                      refine x_iinc (pc' := 103) (y := 6) (ls' := [_, _, _, _, _, _]) rfl rfl rfl rfl rfl ?_
                      refine x_goto (pc' := 73) rfl rfl ?_
                      refine x_iload (pc' := 75) rfl rfl rfl ?_
                      refine x_bipush (pc' := 77) rfl rfl ?_
                      refine x_icmp (a' := 106) (pc' := 80) (z := true) rfl rfl rfl (by decide) (fun _ => ?_) (fun h => by cases h)
                      refine x_iload (pc' := 108) rfl rfl rfl ?_
                      refine x_reti rfl rfl ?_
                      exact k0 q12
                    refine x_ifeq_z (a' := 96) (pc' := 92) (z := (mB (mBw (mAw (mIw M 768 (bif (!(decide (p < (-1000000))) && (!(decide (1000000 < p)))) then (bif (mB M 2 m) then 3 else 0) else 2)) 9 m p) 1 m true) 1 5)) rfl rfl rfl (fun q29 => ?_) (fun q29 => ?_)
                    · refine x_iconst (pc' := 97) rfl rfl ?_
                      ((try rw [q29] at J29); (try rw [q29]); (try simp only [cd_t, cd_f, nt_t, nt_f, an_t, an_f, or_t, or_f] at J29); (try simp only [cd_t, cd_f, nt_t, nt_f, an_t, an_f, or_t, or_f]); exact J29)
                    · refine x_iconst (pc' := 93) rfl rfl ?_
                      refine x_goto (pc' := 97) rfl rfl ?_
                      ((try rw [q29] at J29); (try rw [q29]); (try simp only [cd_t, cd_f, nt_t, nt_f, an_t, an_f, or_t, or_f] at J29); (try simp only [cd_t, cd_f, nt_t, nt_f, an_t, an_f, or_t, or_f]); exact J29)
                  refine x_ifeq_z (a' := 96) (pc' := 92) (z := (mB (mBw (mAw (mIw M 768 (bif (!(decide (p < (-1000000))) && (!(decide (1000000 < p)))) then (bif (mB M 2 m) then 3 else 0) else 2)) 9 m p) 1 m true) 1 4)) rfl rfl rfl (fun q26 => ?_) (fun q26 => ?_)
                  · refine x_iconst (pc' := 97) rfl rfl ?_
                    ((try rw [q26] at J26); (try rw [q26]); (try simp only [cd_t, cd_f, nt_t, nt_f, an_t, an_f, or_t, or_f] at J26); (try simp only [cd_t, cd_f, nt_t, nt_f, an_t, an_f, or_t, or_f]); exact J26)
                  · refine x_iconst (pc' := 93) rfl rfl ?_
                    refine x_goto (pc' := 97) rfl rfl ?_
                    ((try rw [q26] at J26); (try rw [q26]); (try simp only [cd_t, cd_f, nt_t, nt_f, an_t, an_f, or_t, or_f] at J26); (try simp only [cd_t, cd_f, nt_t, nt_f, an_t, an_f, or_t, or_f]); exact J26)
                refine x_ifeq_z (a' := 96) (pc' := 92) (z := (mB (mBw (mAw (mIw M 768 (bif (!(decide (p < (-1000000))) && (!(decide (1000000 < p)))) then (bif (mB M 2 m) then 3 else 0) else 2)) 9 m p) 1 m true) 1 3)) rfl rfl rfl (fun q23 => ?_) (fun q23 => ?_)
                · refine x_iconst (pc' := 97) rfl rfl ?_
                  ((try rw [q23] at J23); (try rw [q23]); (try simp only [cd_t, cd_f, nt_t, nt_f, an_t, an_f, or_t, or_f] at J23); (try simp only [cd_t, cd_f, nt_t, nt_f, an_t, an_f, or_t, or_f]); exact J23)
                · refine x_iconst (pc' := 93) rfl rfl ?_
                  refine x_goto (pc' := 97) rfl rfl ?_
                  ((try rw [q23] at J23); (try rw [q23]); (try simp only [cd_t, cd_f, nt_t, nt_f, an_t, an_f, or_t, or_f] at J23); (try simp only [cd_t, cd_f, nt_t, nt_f, an_t, an_f, or_t, or_f]); exact J23)
              refine x_ifeq_z (a' := 96) (pc' := 92) (z := (mB (mBw (mAw (mIw M 768 (bif (!(decide (p < (-1000000))) && (!(decide (1000000 < p)))) then (bif (mB M 2 m) then 3 else 0) else 2)) 9 m p) 1 m true) 1 2)) rfl rfl rfl (fun q20 => ?_) (fun q20 => ?_)
              · refine x_iconst (pc' := 97) rfl rfl ?_
                ((try rw [q20] at J20); (try rw [q20]); (try simp only [cd_t, cd_f, nt_t, nt_f, an_t, an_f, or_t, or_f] at J20); (try simp only [cd_t, cd_f, nt_t, nt_f, an_t, an_f, or_t, or_f]); exact J20)
              · refine x_iconst (pc' := 93) rfl rfl ?_
                refine x_goto (pc' := 97) rfl rfl ?_
                ((try rw [q20] at J20); (try rw [q20]); (try simp only [cd_t, cd_f, nt_t, nt_f, an_t, an_f, or_t, or_f] at J20); (try simp only [cd_t, cd_f, nt_t, nt_f, an_t, an_f, or_t, or_f]); exact J20)
            refine x_ifeq_z (a' := 96) (pc' := 92) (z := (mB (mBw (mAw (mIw M 768 (bif (!(decide (p < (-1000000))) && (!(decide (1000000 < p)))) then (bif (mB M 2 m) then 3 else 0) else 2)) 9 m p) 1 m true) 1 1)) rfl rfl rfl (fun q17 => ?_) (fun q17 => ?_)
            · refine x_iconst (pc' := 97) rfl rfl ?_
              ((try rw [q17] at J17); (try rw [q17]); (try simp only [cd_t, cd_f, nt_t, nt_f, an_t, an_f, or_t, or_f] at J17); (try simp only [cd_t, cd_f, nt_t, nt_f, an_t, an_f, or_t, or_f]); exact J17)
            · refine x_iconst (pc' := 93) rfl rfl ?_
              refine x_goto (pc' := 97) rfl rfl ?_
              ((try rw [q17] at J17); (try rw [q17]); (try simp only [cd_t, cd_f, nt_t, nt_f, an_t, an_f, or_t, or_f] at J17); (try simp only [cd_t, cd_f, nt_t, nt_f, an_t, an_f, or_t, or_f]); exact J17)
          refine x_ifeq_z (a' := 96) (pc' := 92) (z := (mB (mBw (mAw (mIw M 768 (bif (!(decide (p < (-1000000))) && (!(decide (1000000 < p)))) then (bif (mB M 2 m) then 3 else 0) else 2)) 9 m p) 1 m true) 1 0)) rfl rfl rfl (fun q14 => ?_) (fun q14 => ?_)
          · refine x_iconst (pc' := 97) rfl rfl ?_
            ((try rw [q14] at J14); (try rw [q14]); (try simp only [cd_t, cd_f, nt_t, nt_f, an_t, an_f, or_t, or_f] at J14); (try simp only [cd_t, cd_f, nt_t, nt_f, an_t, an_f, or_t, or_f]); exact J14)
          · refine x_iconst (pc' := 93) rfl rfl ?_
            refine x_goto (pc' := 97) rfl rfl ?_
            ((try rw [q14] at J14); (try rw [q14]); (try simp only [cd_t, cd_f, nt_t, nt_f, an_t, an_f, or_t, or_f] at J14); (try simp only [cd_t, cd_f, nt_t, nt_f, an_t, an_f, or_t, or_f]); exact J14)
        · refine x_iconst (pc' := 52) rfl rfl ?_
          refine x_reti rfl rfl ?_
          exact k1 q12
      refine x_if (a' := 13) (pc' := 9) (z := (!(!(decide (p < (-1000000))) && (!(decide (1000000 < p)))) || (mB M 2 m))) rfl rfl rfl (bq_xt (bq_tf (by decide) (by decide)) (by decide)) (fun q10 => ?_) (fun q10 => ?_)
      · refine x_iconst (pc' := 14) rfl rfl ?_
        ((try rw [q10] at J10); (try rw [q10]); (try simp only [cd_t, cd_f, nt_t, nt_f, an_t, an_f, or_t, or_f] at J10); (try simp only [cd_t, cd_f, nt_t, nt_f, an_t, an_f, or_t, or_f]); exact J10)
      · refine x_iconst (pc' := 10) rfl rfl ?_
        refine x_goto (pc' := 14) rfl rfl ?_
        ((try rw [q10] at J10); (try rw [q10]); (try simp only [cd_t, cd_f, nt_t, nt_f, an_t, an_f, or_t, or_f] at J10); (try simp only [cd_t, cd_f, nt_t, nt_f, an_t, an_f, or_t, or_f]); exact J10)
    refine x_ifne_z (a' := 31) (pc' := 27) (z := (!(decide (p < (-1000000))) && (!(decide (1000000 < p))))) rfl rfl rfl (fun q7 => ?_) (fun q7 => ?_)
    · refine x_aload_n (pc' := 32) rfl rfl rfl rfl rfl ?_
      refine x_gR (pc' := 35) (r := (some 2)) rfl rfl rfl (kR_781_0 hc) ?_
      refine x_iload_n (pc' := 36) rfl rfl rfl ?_
      refine x_bald (pc' := 37) (N := 6) (z := (mB M 2 m)) rfl rfl (kN_22_2 hc) (io_in (p := m) (N := 6) hm (by decide)) (Eq.trans (congrArg (sB t 22 2) (nn_io (p := m) (Nat.lt_trans hm (by decide)))) (gB hM)) ?_
      refine x_ifeq_z (a' := 44) (pc' := 40) (z := (mB M 2 m)) rfl rfl rfl (fun q8 => ?_) (fun q8 => ?_)
      · refine x_iconst (pc' := 45) rfl rfl ?_
        ((try rw [q8] at J8); (try rw [q8]); (try rw [q7] at J8); (try rw [q7]); (try simp only [cd_t, cd_f, nt_t, nt_f, an_t, an_f, or_t, or_f] at J8); (try simp only [cd_t, cd_f, nt_t, nt_f, an_t, an_f, or_t, or_f]); exact J8)
      · refine x_iconst (pc' := 41) rfl rfl ?_
        refine x_goto (pc' := 45) rfl rfl ?_
        ((try rw [q8] at J8); (try rw [q8]); (try rw [q7] at J8); (try rw [q7]); (try simp only [cd_t, cd_f, nt_t, nt_f, an_t, an_f, or_t, or_f] at J8); (try simp only [cd_t, cd_f, nt_t, nt_f, an_t, an_f, or_t, or_f]); exact J8)
    · refine x_iconst (pc' := 28) rfl rfl ?_
      refine x_goto (pc' := 45) rfl rfl ?_
      ((try rw [q7] at J8); (try rw [q7]); (try simp only [cd_t, cd_f, nt_t, nt_f, an_t, an_f, or_t, or_f] at J8); (try simp only [cd_t, cd_f, nt_t, nt_f, an_t, an_f, or_t, or_f]); exact J8)
  refine x_icmp (a' := 14) (pc' := 5) (z := decide (p < (-1000000))) rfl rfl rfl rfl (fun q4 => ?_) (fun q4 => ?_)
  · refine x_iconst (pc' := 15) rfl rfl ?_
    ((try rw [q4] at J5); (try rw [q4]); (try simp only [cd_t, cd_f, nt_t, nt_f, an_t, an_f, or_t, or_f] at J5); (try simp only [cd_t, cd_f, nt_t, nt_f, an_t, an_f, or_t, or_f]); exact J5)
  · refine x_iload_n (pc' := 6) rfl rfl rfl ?_
    refine x_iload_n (pc' := 7) rfl rfl rfl ?_
    refine x_icmp (a' := 14) (pc' := 10) (z := decide (1000000 < p)) rfl rfl rfl rfl (fun q5 => ?_) (fun q5 => ?_)
    · refine x_iconst (pc' := 15) rfl rfl ?_
      ((try rw [q5] at J5); (try rw [q5]); (try rw [q4] at J5); (try rw [q4]); (try simp only [cd_t, cd_f, nt_t, nt_f, an_t, an_f, or_t, or_f] at J5); (try simp only [cd_t, cd_f, nt_t, nt_f, an_t, an_f, or_t, or_f]); exact J5)
    · refine x_iconst (pc' := 11) rfl rfl ?_
      refine x_goto (pc' := 15) rfl rfl ?_
      ((try rw [q5] at J5); (try rw [q5]); (try rw [q4] at J5); (try rw [q4]); (try simp only [cd_t, cd_f, nt_t, nt_f, an_t, an_f, or_t, or_f] at J5); (try simp only [cd_t, cd_f, nt_t, nt_f, an_t, an_f, or_t, or_f]); exact J5)
set_option maxHeartbeats 4000000 in
set_option maxRecDepth 10000 in
theorem r212_x0 {t : sT} {Q : sRs → sT → Prop} {M : sM} {n : Nat} {x : Int32} {p : Int32}
    (hV : Vr t M n)
    (hp : ixo x 6 = none)
    (k0 : Q (.inl (some (.inl 0))) (sIw t 768 0 1)) :
    X 212 0 [.inr (.inr (12, (some 0))), .inl x, .inl p, sJk, sJk, sJk] [] t Q := by
  obtain ⟨hM, hc, hR⟩ := hV
  refine x_iload_n (pc' := 1) rfl rfl rfl ?_
  refine x_cs (ls0 := [_]) (rest := []) rfl rfl rfl rfl ?_
  refine x_iload_n (pc' := 1) rfl rfl rfl ?_
  refine x_iconst (pc' := 2) rfl rfl ?_
  refine x_iconst (pc' := 3) rfl rfl ?_
  refine x_cs (ls0 := [_, _, _]) (rest := []) rfl rfl rfl rfl ?_
  refine r145_xg (ixo_c6 hp) ?_
  refine sK_i (pc' := 6) rfl ?_
  refine x_retz (z := false) rfl rfl ?_
  refine sK_i (pc' := 4) rfl ?_
  refine x_istore_n (pc' := 5) (ls' := [_, _, _, _, _, _]) rfl rfl rfl rfl ?_
  refine x_aload_n (pc' := 6) rfl rfl rfl rfl rfl ?_
  refine x_iload_n (pc' := 7) rfl rfl rfl ?_
  refine x_if (a' := 14) (pc' := 10) (z := false) rfl rfl rfl (by decide) (fun h => by cases h) (fun _ => ?_)
  refine x_iconst (pc' := 11) rfl rfl ?_
  refine x_goto (pc' := 45) rfl rfl ?_
  refine x_cv (ls0 := [_, _]) (rest := []) rfl rfl rfl rfl rfl ?_
  refine x_aload_n (pc' := 1) rfl rfl rfl rfl rfl ?_
  refine x_iload_n (pc' := 2) rfl rfl rfl ?_
  refine x_pI (pc' := 5) rfl rfl rfl ?_
  refine x_iload_n (pc' := 6) rfl rfl rfl ?_
  refine x_if (a' := 13) (pc' := 9) (z := true) rfl rfl rfl (by decide) (fun _ => ?_) (fun h => by cases h)
  refine x_iconst (pc' := 14) rfl rfl ?_
  refine x_retz (z := false) rfl rfl ?_
  refine sK_i (pc' := 48) rfl ?_
  refine x_if (a' := 53) (pc' := 51) (z := false) rfl rfl rfl (by decide) (fun h => by cases h) (fun _ => ?_)
  refine x_iconst (pc' := 52) rfl rfl ?_
  refine x_reti rfl rfl ?_
  exact k0
set_option maxHeartbeats 4000000 in
set_option maxRecDepth 10000 in
theorem r220 {t : sT} {Q : sRs → sT → Prop} {M : sM} {n : Nat} {b : Nat}
    (hV : Vr t M n)
    (hb : b < 5)
    (k0 : Q (.inl (some (.inl (mA M 0 b)))) (sIw t 768 0 0)) :
    X 220 0 [.inr (.inr (12, (some 0))), .inl (io b)] [] t Q := by
  obtain ⟨hM, hc, hR⟩ := hV
  refine x_aload_n (pc' := 1) rfl rfl rfl rfl rfl ?_
  refine x_iload_n (pc' := 2) rfl rfl rfl ?_
  refine x_cs (ls0 := [_]) (rest := [_]) rfl rfl rfl rfl ?_
  refine x_iload_n (pc' := 1) rfl rfl rfl ?_
  refine x_iconst (pc' := 2) rfl rfl ?_
  refine x_iconst (pc' := 3) rfl rfl ?_
  refine x_cs (ls0 := [_, _, _]) (rest := []) rfl rfl rfl rfl ?_
  refine x_iload_n (pc' := 1) rfl rfl rfl ?_
  refine x_iload_n (pc' := 2) rfl rfl rfl ?_
  refine x_icmp (a' := 14) (pc' := 5) (z := decide (b < 0)) rfl rfl rfl (ic_lt (p := b) (q := 0) (gb31 hb) (by decide)) (fun h => absurd (of_decide_eq_true h) (by first | decide | omega | simp)) (fun _ => ?_)
  refine x_iload_n (pc' := 6) rfl rfl rfl ?_
  refine x_iload_n (pc' := 7) rfl rfl rfl ?_
  refine x_icmp (a' := 14) (pc' := 10) (z := decide (4 < b)) rfl rfl rfl (ic_gt (p := b) (q := 4) (gb31 hb) (by decide)) (fun h => absurd (of_decide_eq_true h) (show ¬ 4 < b by omega)) (fun _ => ?_)
  refine x_iconst (pc' := 11) rfl rfl ?_
  refine x_goto (pc' := 15) rfl rfl ?_
  refine x_retz (z := true) rfl rfl ?_
  refine sK_i (pc' := 6) rfl ?_
  refine x_retz (z := true) rfl rfl ?_
  refine sK_i (pc' := 5) rfl ?_
  refine x_if (a' := 12) (pc' := 8) (z := false) rfl rfl rfl (by decide) (fun h => by cases h) (fun _ => ?_)
  refine x_iconst (pc' := 9) rfl rfl ?_
  refine x_goto (pc' := 13) rfl rfl ?_
  refine x_cv (ls0 := [_, _]) (rest := []) rfl rfl rfl rfl rfl ?_
  refine x_aload_n (pc' := 1) rfl rfl rfl rfl rfl ?_
  refine x_iload_n (pc' := 2) rfl rfl rfl ?_
  refine x_pI (pc' := 5) rfl rfl rfl ?_
  refine x_iload_n (pc' := 6) rfl rfl rfl ?_
  refine x_if (a' := 13) (pc' := 9) (z := false) rfl rfl rfl (by decide) (fun h => by cases h) (fun _ => ?_)
  refine x_iconst (pc' := 10) rfl rfl ?_
  refine x_goto (pc' := 14) rfl rfl ?_
  refine x_retz (z := true) rfl rfl ?_
  refine sK_i (pc' := 16) rfl ?_
  refine x_if (a' := 28) (pc' := 19) (z := false) rfl rfl rfl (by decide) (fun h => by cases h) (fun _ => ?_)
  refine x_aload_n (pc' := 20) rfl rfl rfl rfl rfl ?_
  refine x_gR (pc' := 23) (r := (some 0)) rfl rfl rfl (Eq.trans (b := sR t 769 0) rfl (kR_769_0 hc)) ?_
  refine x_iload_n (pc' := 24) rfl rfl rfl ?_
  refine x_iald (pc' := 25) (N := 5) (x := (mA M 0 b)) rfl rfl rfl (Eq.trans rdNI (kN_21_0 hc)) (io_in (p := b) (N := 5) hb (by decide)) (Eq.trans (congrArg (sA (sIw t 768 0 0) 21 0) (nn_io (p := b) (Nat.lt_trans hb (by decide)))) (Eq.trans (b := sA t 21 0 b) rfl (gA hM rfl))) ?_
  refine x_goto (pc' := 29) rfl rfl ?_
  refine x_reti rfl rfl ?_
  exact k0
set_option maxHeartbeats 4000000 in
set_option maxRecDepth 10000 in
theorem r220_x0 {t : sT} {Q : sRs → sT → Prop} {M : sM} {n : Nat} {x : Int32}
    (hV : Vr t M n)
    (hp : ixo x 5 = none)
    (k0 : Q (.inl (some (.inl 0))) (sIw t 768 0 1)) :
    X 220 0 [.inr (.inr (12, (some 0))), .inl x] [] t Q := by
  obtain ⟨hM, hc, hR⟩ := hV
  refine x_aload_n (pc' := 1) rfl rfl rfl rfl rfl ?_
  refine x_iload_n (pc' := 2) rfl rfl rfl ?_
  refine x_cs (ls0 := [_]) (rest := [_]) rfl rfl rfl rfl ?_
  refine x_iload_n (pc' := 1) rfl rfl rfl ?_
  refine x_iconst (pc' := 2) rfl rfl ?_
  refine x_iconst (pc' := 3) rfl rfl ?_
  refine x_cs (ls0 := [_, _, _]) (rest := []) rfl rfl rfl rfl ?_
  refine r145_xg (ixo_c5 hp) ?_
  refine sK_i (pc' := 6) rfl ?_
  refine x_retz (z := false) rfl rfl ?_
  refine sK_i (pc' := 5) rfl ?_
  refine x_if (a' := 12) (pc' := 8) (z := true) rfl rfl rfl (by decide) (fun _ => ?_) (fun h => by cases h)
  refine x_iconst (pc' := 13) rfl rfl ?_
  refine x_cv (ls0 := [_, _]) (rest := []) rfl rfl rfl rfl rfl ?_
  refine x_aload_n (pc' := 1) rfl rfl rfl rfl rfl ?_
  refine x_iload_n (pc' := 2) rfl rfl rfl ?_
  refine x_pI (pc' := 5) rfl rfl rfl ?_
  refine x_iload_n (pc' := 6) rfl rfl rfl ?_
  refine x_if (a' := 13) (pc' := 9) (z := true) rfl rfl rfl (by decide) (fun _ => ?_) (fun h => by cases h)
  refine x_iconst (pc' := 14) rfl rfl ?_
  refine x_retz (z := false) rfl rfl ?_
  refine sK_i (pc' := 16) rfl ?_
  refine x_if (a' := 28) (pc' := 19) (z := true) rfl rfl rfl (by decide) (fun _ => ?_) (fun h => by cases h)
  refine x_iconst (pc' := 29) rfl rfl ?_
  refine x_reti rfl rfl ?_
  exact k0
set_option maxHeartbeats 4000000 in
set_option maxRecDepth 10000 in
theorem r221 {t : sT} {Q : sRs → sT → Prop} {M : sM} {n : Nat}
    (hV : Vr t M n)
    (k0 : Q (.inl (some (.inl (io n)))) (sIw t 768 0 0)) :
    X 221 0 [.inr (.inr (12, (some 0)))] [] t Q := by
  obtain ⟨hM, hc, hR⟩ := hV
  refine x_aload_n (pc' := 1) rfl rfl rfl rfl rfl ?_
  refine x_iconst (pc' := 2) rfl rfl ?_
  refine x_pI (pc' := 5) rfl rfl rfl ?_
  refine x_aload_n (pc' := 6) rfl rfl rfl rfl rfl ?_
  refine x_gI (pc' := 9) (x := (io n)) rfl rfl rfl (Eq.trans (b := sI t 786 0) rfl (gFn hM (Fr.refl _) hR)) ?_
  refine x_reti rfl rfl ?_
  exact k0
set_option maxHeartbeats 4000000 in
set_option maxRecDepth 10000 in
theorem r222 {t : sT} {Q : sRs → sT → Prop} {M : sM} {n : Nat} {o : Nat}
    (hV : Vr t M n)
    (ho : o < n)
    (k0 : Q (.inl (some (.inl (mA M 19 o)))) (sIw t 768 0 0)) :
    X 222 0 [.inr (.inr (12, (some 0))), .inl (io o)] [] t Q := by
  obtain ⟨hM, hc, hR⟩ := hV
  refine x_aload_n (pc' := 1) rfl rfl rfl rfl rfl ?_
  refine x_aload_n (pc' := 2) rfl rfl rfl rfl rfl ?_
  refine x_iload_n (pc' := 3) rfl rfl rfl ?_
  refine x_cv (ls0 := [_, _]) (rest := [_]) rfl rfl rfl rfl rfl ?_
  refine x_iload_n (pc' := 1) rfl rfl rfl ?_
  refine x_iconst (pc' := 2) rfl rfl ?_
  refine x_aload_n (pc' := 3) rfl rfl rfl rfl rfl ?_
  refine x_gI (pc' := 6) (x := (io n)) rfl rfl rfl (gFn hM (Fr.refl _) hR) ?_
  refine x_iconst (pc' := 7) rfl rfl ?_
  refine x_isub (pc' := 8) (z := ((io n) - 1)) rfl rfl rfl ?_
  refine x_cs (ls0 := [_, _, _]) (rest := []) rfl rfl rfl rfl ?_
  refine x_iload_n (pc' := 1) rfl rfl rfl ?_
  refine x_iload_n (pc' := 2) rfl rfl rfl ?_
  refine x_icmp (a' := 14) (pc' := 5) (z := decide (o < 0)) rfl rfl rfl (ic_lt (p := o) (q := 0) (Nat.lt_trans ho (gn31 hR)) (by decide)) (fun h => absurd (of_decide_eq_true h) (by first | decide | omega | simp)) (fun _ => ?_)
  refine x_iload_n (pc' := 6) rfl rfl rfl ?_
  refine x_iload_n (pc' := 7) rfl rfl rfl ?_
  refine x_icmp (a' := 14) (pc' := 10) (z := decide (((io n) - 1) < (io o))) rfl rfl rfl rfl (fun h => absurd (of_decide_eq_true h) (io_pre ho (gn31 hR))) (fun _ => ?_)
  refine x_iconst (pc' := 11) rfl rfl ?_
  refine x_goto (pc' := 15) rfl rfl ?_
  refine x_retz (z := true) rfl rfl ?_
  refine sK_i (pc' := 11) rfl ?_
  refine x_retz (z := true) rfl rfl ?_
  refine sK_i (pc' := 6) rfl ?_
  refine x_if (a' := 13) (pc' := 9) (z := false) rfl rfl rfl (by decide) (fun h => by cases h) (fun _ => ?_)
  refine x_iconst (pc' := 10) rfl rfl ?_
  refine x_goto (pc' := 14) rfl rfl ?_
  refine x_cv (ls0 := [_, _]) (rest := []) rfl rfl rfl rfl rfl ?_
  refine x_aload_n (pc' := 1) rfl rfl rfl rfl rfl ?_
  refine x_iload_n (pc' := 2) rfl rfl rfl ?_
  refine x_pI (pc' := 5) rfl rfl rfl ?_
  refine x_iload_n (pc' := 6) rfl rfl rfl ?_
  refine x_if (a' := 13) (pc' := 9) (z := false) rfl rfl rfl (by decide) (fun h => by cases h) (fun _ => ?_)
  refine x_iconst (pc' := 10) rfl rfl ?_
  refine x_goto (pc' := 14) rfl rfl ?_
  refine x_retz (z := true) rfl rfl ?_
  refine sK_i (pc' := 17) rfl ?_
  refine x_if (a' := 29) (pc' := 20) (z := false) rfl rfl rfl (by decide) (fun h => by cases h) (fun _ => ?_)
  refine x_aload_n (pc' := 21) rfl rfl rfl rfl rfl ?_
  refine x_gR (pc' := 24) (r := (some 19)) rfl rfl rfl (Eq.trans (b := sR t 795 0) rfl (kR_795_0 hc)) ?_
  refine x_iload_n (pc' := 25) rfl rfl rfl ?_
  refine x_iald (pc' := 26) (N := 200) (x := (mA M 19 o)) rfl rfl rfl (Eq.trans rdNI (kN_21_19 hc)) (io_in (p := o) (N := 200) (Nat.lt_of_lt_of_le ho (gn200 hR)) (by decide)) (Eq.trans (congrArg (sA (sIw t 768 0 0) 21 19) (nn_io (p := o) (Nat.lt_trans (Nat.lt_of_lt_of_le ho (gn200 hR)) (by decide)))) (Eq.trans (b := sA t 21 19 o) rfl (gA hM rfl))) ?_
  refine x_goto (pc' := 30) rfl rfl ?_
  refine x_reti rfl rfl ?_
  exact k0
set_option maxHeartbeats 4000000 in
set_option maxRecDepth 10000 in
theorem r222_x0 {t : sT} {Q : sRs → sT → Prop} {M : sM} {n : Nat} {x : Int32}
    (hV : Vr t M n)
    (hp : ixo x n = none)
    (k0 : Q (.inl (some (.inl 0))) (sIw t 768 0 1)) :
    X 222 0 [.inr (.inr (12, (some 0))), .inl x] [] t Q := by
  obtain ⟨hM, hc, hR⟩ := hV
  refine x_aload_n (pc' := 1) rfl rfl rfl rfl rfl ?_
  refine x_aload_n (pc' := 2) rfl rfl rfl rfl rfl ?_
  refine x_iload_n (pc' := 3) rfl rfl rfl ?_
  refine x_cv (ls0 := [_, _]) (rest := [_]) rfl rfl rfl rfl rfl ?_
  refine x_iload_n (pc' := 1) rfl rfl rfl ?_
  refine x_iconst (pc' := 2) rfl rfl ?_
  refine x_aload_n (pc' := 3) rfl rfl rfl rfl rfl ?_
  refine x_gI (pc' := 6) (x := (io n)) rfl rfl rfl (gFn hM (Fr.refl _) hR) ?_
  refine x_iconst (pc' := 7) rfl rfl ?_
  refine x_isub (pc' := 8) (z := ((io n) - 1)) rfl rfl rfl ?_
  refine x_cs (ls0 := [_, _, _]) (rest := []) rfl rfl rfl rfl ?_
  refine r145_xg (ixo_x1 (gn31 hR) hp) ?_
  refine sK_i (pc' := 11) rfl ?_
  refine x_retz (z := false) rfl rfl ?_
  refine sK_i (pc' := 6) rfl ?_
  refine x_if (a' := 13) (pc' := 9) (z := true) rfl rfl rfl (by decide) (fun _ => ?_) (fun h => by cases h)
  refine x_iconst (pc' := 14) rfl rfl ?_
  refine x_cv (ls0 := [_, _]) (rest := []) rfl rfl rfl rfl rfl ?_
  refine x_aload_n (pc' := 1) rfl rfl rfl rfl rfl ?_
  refine x_iload_n (pc' := 2) rfl rfl rfl ?_
  refine x_pI (pc' := 5) rfl rfl rfl ?_
  refine x_iload_n (pc' := 6) rfl rfl rfl ?_
  refine x_if (a' := 13) (pc' := 9) (z := true) rfl rfl rfl (by decide) (fun _ => ?_) (fun h => by cases h)
  refine x_iconst (pc' := 14) rfl rfl ?_
  refine x_retz (z := false) rfl rfl ?_
  refine sK_i (pc' := 17) rfl ?_
  refine x_if (a' := 29) (pc' := 20) (z := true) rfl rfl rfl (by decide) (fun _ => ?_) (fun h => by cases h)
  refine x_iconst (pc' := 30) rfl rfl ?_
  refine x_reti rfl rfl ?_
  exact k0
set_option maxHeartbeats 4000000 in
set_option maxRecDepth 10000 in
theorem r223 {t : sT} {Q : sRs → sT → Prop} {M : sM} {n : Nat} {o : Nat}
    (hV : Vr t M n)
    (ho : o < n)
    (k0 : Q (.inl (some (.inl (mA M 15 o)))) (sIw t 768 0 0)) :
    X 223 0 [.inr (.inr (12, (some 0))), .inl (io o)] [] t Q := by
  obtain ⟨hM, hc, hR⟩ := hV
  refine x_aload_n (pc' := 1) rfl rfl rfl rfl rfl ?_
  refine x_aload_n (pc' := 2) rfl rfl rfl rfl rfl ?_
  refine x_iload_n (pc' := 3) rfl rfl rfl ?_
  refine x_cv (ls0 := [_, _]) (rest := [_]) rfl rfl rfl rfl rfl ?_
  refine x_iload_n (pc' := 1) rfl rfl rfl ?_
  refine x_iconst (pc' := 2) rfl rfl ?_
  refine x_aload_n (pc' := 3) rfl rfl rfl rfl rfl ?_
  refine x_gI (pc' := 6) (x := (io n)) rfl rfl rfl (gFn hM (Fr.refl _) hR) ?_
  refine x_iconst (pc' := 7) rfl rfl ?_
  refine x_isub (pc' := 8) (z := ((io n) - 1)) rfl rfl rfl ?_
  refine x_cs (ls0 := [_, _, _]) (rest := []) rfl rfl rfl rfl ?_
  refine x_iload_n (pc' := 1) rfl rfl rfl ?_
  refine x_iload_n (pc' := 2) rfl rfl rfl ?_
  refine x_icmp (a' := 14) (pc' := 5) (z := decide (o < 0)) rfl rfl rfl (ic_lt (p := o) (q := 0) (Nat.lt_trans ho (gn31 hR)) (by decide)) (fun h => absurd (of_decide_eq_true h) (by first | decide | omega | simp)) (fun _ => ?_)
  refine x_iload_n (pc' := 6) rfl rfl rfl ?_
  refine x_iload_n (pc' := 7) rfl rfl rfl ?_
  refine x_icmp (a' := 14) (pc' := 10) (z := decide (((io n) - 1) < (io o))) rfl rfl rfl rfl (fun h => absurd (of_decide_eq_true h) (io_pre ho (gn31 hR))) (fun _ => ?_)
  refine x_iconst (pc' := 11) rfl rfl ?_
  refine x_goto (pc' := 15) rfl rfl ?_
  refine x_retz (z := true) rfl rfl ?_
  refine sK_i (pc' := 11) rfl ?_
  refine x_retz (z := true) rfl rfl ?_
  refine sK_i (pc' := 6) rfl ?_
  refine x_if (a' := 13) (pc' := 9) (z := false) rfl rfl rfl (by decide) (fun h => by cases h) (fun _ => ?_)
  refine x_iconst (pc' := 10) rfl rfl ?_
  refine x_goto (pc' := 14) rfl rfl ?_
  refine x_cv (ls0 := [_, _]) (rest := []) rfl rfl rfl rfl rfl ?_
  refine x_aload_n (pc' := 1) rfl rfl rfl rfl rfl ?_
  refine x_iload_n (pc' := 2) rfl rfl rfl ?_
  refine x_pI (pc' := 5) rfl rfl rfl ?_
  refine x_iload_n (pc' := 6) rfl rfl rfl ?_
  refine x_if (a' := 13) (pc' := 9) (z := false) rfl rfl rfl (by decide) (fun h => by cases h) (fun _ => ?_)
  refine x_iconst (pc' := 10) rfl rfl ?_
  refine x_goto (pc' := 14) rfl rfl ?_
  refine x_retz (z := true) rfl rfl ?_
  refine sK_i (pc' := 17) rfl ?_
  refine x_if (a' := 29) (pc' := 20) (z := false) rfl rfl rfl (by decide) (fun h => by cases h) (fun _ => ?_)
  refine x_aload_n (pc' := 21) rfl rfl rfl rfl rfl ?_
  refine x_gR (pc' := 24) (r := (some 15)) rfl rfl rfl (Eq.trans (b := sR t 791 0) rfl (kR_791_0 hc)) ?_
  refine x_iload_n (pc' := 25) rfl rfl rfl ?_
  refine x_iald (pc' := 26) (N := 200) (x := (mA M 15 o)) rfl rfl rfl (Eq.trans rdNI (kN_21_15 hc)) (io_in (p := o) (N := 200) (Nat.lt_of_lt_of_le ho (gn200 hR)) (by decide)) (Eq.trans (congrArg (sA (sIw t 768 0 0) 21 15) (nn_io (p := o) (Nat.lt_trans (Nat.lt_of_lt_of_le ho (gn200 hR)) (by decide)))) (Eq.trans (b := sA t 21 15 o) rfl (gA hM rfl))) ?_
  refine x_goto (pc' := 30) rfl rfl ?_
  refine x_reti rfl rfl ?_
  exact k0
set_option maxHeartbeats 4000000 in
set_option maxRecDepth 10000 in
theorem r223_x0 {t : sT} {Q : sRs → sT → Prop} {M : sM} {n : Nat} {x : Int32}
    (hV : Vr t M n)
    (hp : ixo x n = none)
    (k0 : Q (.inl (some (.inl 0))) (sIw t 768 0 1)) :
    X 223 0 [.inr (.inr (12, (some 0))), .inl x] [] t Q := by
  obtain ⟨hM, hc, hR⟩ := hV
  refine x_aload_n (pc' := 1) rfl rfl rfl rfl rfl ?_
  refine x_aload_n (pc' := 2) rfl rfl rfl rfl rfl ?_
  refine x_iload_n (pc' := 3) rfl rfl rfl ?_
  refine x_cv (ls0 := [_, _]) (rest := [_]) rfl rfl rfl rfl rfl ?_
  refine x_iload_n (pc' := 1) rfl rfl rfl ?_
  refine x_iconst (pc' := 2) rfl rfl ?_
  refine x_aload_n (pc' := 3) rfl rfl rfl rfl rfl ?_
  refine x_gI (pc' := 6) (x := (io n)) rfl rfl rfl (gFn hM (Fr.refl _) hR) ?_
  refine x_iconst (pc' := 7) rfl rfl ?_
  refine x_isub (pc' := 8) (z := ((io n) - 1)) rfl rfl rfl ?_
  refine x_cs (ls0 := [_, _, _]) (rest := []) rfl rfl rfl rfl ?_
  refine r145_xg (ixo_x1 (gn31 hR) hp) ?_
  refine sK_i (pc' := 11) rfl ?_
  refine x_retz (z := false) rfl rfl ?_
  refine sK_i (pc' := 6) rfl ?_
  refine x_if (a' := 13) (pc' := 9) (z := true) rfl rfl rfl (by decide) (fun _ => ?_) (fun h => by cases h)
  refine x_iconst (pc' := 14) rfl rfl ?_
  refine x_cv (ls0 := [_, _]) (rest := []) rfl rfl rfl rfl rfl ?_
  refine x_aload_n (pc' := 1) rfl rfl rfl rfl rfl ?_
  refine x_iload_n (pc' := 2) rfl rfl rfl ?_
  refine x_pI (pc' := 5) rfl rfl rfl ?_
  refine x_iload_n (pc' := 6) rfl rfl rfl ?_
  refine x_if (a' := 13) (pc' := 9) (z := true) rfl rfl rfl (by decide) (fun _ => ?_) (fun h => by cases h)
  refine x_iconst (pc' := 14) rfl rfl ?_
  refine x_retz (z := false) rfl rfl ?_
  refine sK_i (pc' := 17) rfl ?_
  refine x_if (a' := 29) (pc' := 20) (z := true) rfl rfl rfl (by decide) (fun _ => ?_) (fun h => by cases h)
  refine x_iconst (pc' := 30) rfl rfl ?_
  refine x_reti rfl rfl ?_
  exact k0
set_option maxHeartbeats 4000000 in
set_option maxRecDepth 10000 in
theorem r224 {t : sT} {Q : sRs → sT → Prop} {M : sM} {n : Nat} {o : Nat}
    (hV : Vr t M n)
    (ho : o < n)
    (k0 : Q (.inl (some (.inl (mA M 17 o)))) (sIw t 768 0 0)) :
    X 224 0 [.inr (.inr (12, (some 0))), .inl (io o)] [] t Q := by
  obtain ⟨hM, hc, hR⟩ := hV
  refine x_aload_n (pc' := 1) rfl rfl rfl rfl rfl ?_
  refine x_aload_n (pc' := 2) rfl rfl rfl rfl rfl ?_
  refine x_iload_n (pc' := 3) rfl rfl rfl ?_
  refine x_cv (ls0 := [_, _]) (rest := [_]) rfl rfl rfl rfl rfl ?_
  refine x_iload_n (pc' := 1) rfl rfl rfl ?_
  refine x_iconst (pc' := 2) rfl rfl ?_
  refine x_aload_n (pc' := 3) rfl rfl rfl rfl rfl ?_
  refine x_gI (pc' := 6) (x := (io n)) rfl rfl rfl (gFn hM (Fr.refl _) hR) ?_
  refine x_iconst (pc' := 7) rfl rfl ?_
  refine x_isub (pc' := 8) (z := ((io n) - 1)) rfl rfl rfl ?_
  refine x_cs (ls0 := [_, _, _]) (rest := []) rfl rfl rfl rfl ?_
  refine x_iload_n (pc' := 1) rfl rfl rfl ?_
  refine x_iload_n (pc' := 2) rfl rfl rfl ?_
  refine x_icmp (a' := 14) (pc' := 5) (z := decide (o < 0)) rfl rfl rfl (ic_lt (p := o) (q := 0) (Nat.lt_trans ho (gn31 hR)) (by decide)) (fun h => absurd (of_decide_eq_true h) (by first | decide | omega | simp)) (fun _ => ?_)
  refine x_iload_n (pc' := 6) rfl rfl rfl ?_
  refine x_iload_n (pc' := 7) rfl rfl rfl ?_
  refine x_icmp (a' := 14) (pc' := 10) (z := decide (((io n) - 1) < (io o))) rfl rfl rfl rfl (fun h => absurd (of_decide_eq_true h) (io_pre ho (gn31 hR))) (fun _ => ?_)
  refine x_iconst (pc' := 11) rfl rfl ?_
  refine x_goto (pc' := 15) rfl rfl ?_
  refine x_retz (z := true) rfl rfl ?_
  refine sK_i (pc' := 11) rfl ?_
  refine x_retz (z := true) rfl rfl ?_
  refine sK_i (pc' := 6) rfl ?_
  refine x_if (a' := 13) (pc' := 9) (z := false) rfl rfl rfl (by decide) (fun h => by cases h) (fun _ => ?_)
  refine x_iconst (pc' := 10) rfl rfl ?_
  refine x_goto (pc' := 14) rfl rfl ?_
  refine x_cv (ls0 := [_, _]) (rest := []) rfl rfl rfl rfl rfl ?_
  refine x_aload_n (pc' := 1) rfl rfl rfl rfl rfl ?_
  refine x_iload_n (pc' := 2) rfl rfl rfl ?_
  refine x_pI (pc' := 5) rfl rfl rfl ?_
  refine x_iload_n (pc' := 6) rfl rfl rfl ?_
  refine x_if (a' := 13) (pc' := 9) (z := false) rfl rfl rfl (by decide) (fun h => by cases h) (fun _ => ?_)
  refine x_iconst (pc' := 10) rfl rfl ?_
  refine x_goto (pc' := 14) rfl rfl ?_
  refine x_retz (z := true) rfl rfl ?_
  refine sK_i (pc' := 17) rfl ?_
  refine x_if (a' := 29) (pc' := 20) (z := false) rfl rfl rfl (by decide) (fun h => by cases h) (fun _ => ?_)
  refine x_aload_n (pc' := 21) rfl rfl rfl rfl rfl ?_
  refine x_gR (pc' := 24) (r := (some 17)) rfl rfl rfl (Eq.trans (b := sR t 793 0) rfl (kR_793_0 hc)) ?_
  refine x_iload_n (pc' := 25) rfl rfl rfl ?_
  refine x_iald (pc' := 26) (N := 200) (x := (mA M 17 o)) rfl rfl rfl (Eq.trans rdNI (kN_21_17 hc)) (io_in (p := o) (N := 200) (Nat.lt_of_lt_of_le ho (gn200 hR)) (by decide)) (Eq.trans (congrArg (sA (sIw t 768 0 0) 21 17) (nn_io (p := o) (Nat.lt_trans (Nat.lt_of_lt_of_le ho (gn200 hR)) (by decide)))) (Eq.trans (b := sA t 21 17 o) rfl (gA hM rfl))) ?_
  refine x_goto (pc' := 30) rfl rfl ?_
  refine x_reti rfl rfl ?_
  exact k0
set_option maxHeartbeats 4000000 in
set_option maxRecDepth 10000 in
theorem r224_x0 {t : sT} {Q : sRs → sT → Prop} {M : sM} {n : Nat} {x : Int32}
    (hV : Vr t M n)
    (hp : ixo x n = none)
    (k0 : Q (.inl (some (.inl 0))) (sIw t 768 0 1)) :
    X 224 0 [.inr (.inr (12, (some 0))), .inl x] [] t Q := by
  obtain ⟨hM, hc, hR⟩ := hV
  refine x_aload_n (pc' := 1) rfl rfl rfl rfl rfl ?_
  refine x_aload_n (pc' := 2) rfl rfl rfl rfl rfl ?_
  refine x_iload_n (pc' := 3) rfl rfl rfl ?_
  refine x_cv (ls0 := [_, _]) (rest := [_]) rfl rfl rfl rfl rfl ?_
  refine x_iload_n (pc' := 1) rfl rfl rfl ?_
  refine x_iconst (pc' := 2) rfl rfl ?_
  refine x_aload_n (pc' := 3) rfl rfl rfl rfl rfl ?_
  refine x_gI (pc' := 6) (x := (io n)) rfl rfl rfl (gFn hM (Fr.refl _) hR) ?_
  refine x_iconst (pc' := 7) rfl rfl ?_
  refine x_isub (pc' := 8) (z := ((io n) - 1)) rfl rfl rfl ?_
  refine x_cs (ls0 := [_, _, _]) (rest := []) rfl rfl rfl rfl ?_
  refine r145_xg (ixo_x1 (gn31 hR) hp) ?_
  refine sK_i (pc' := 11) rfl ?_
  refine x_retz (z := false) rfl rfl ?_
  refine sK_i (pc' := 6) rfl ?_
  refine x_if (a' := 13) (pc' := 9) (z := true) rfl rfl rfl (by decide) (fun _ => ?_) (fun h => by cases h)
  refine x_iconst (pc' := 14) rfl rfl ?_
  refine x_cv (ls0 := [_, _]) (rest := []) rfl rfl rfl rfl rfl ?_
  refine x_aload_n (pc' := 1) rfl rfl rfl rfl rfl ?_
  refine x_iload_n (pc' := 2) rfl rfl rfl ?_
  refine x_pI (pc' := 5) rfl rfl rfl ?_
  refine x_iload_n (pc' := 6) rfl rfl rfl ?_
  refine x_if (a' := 13) (pc' := 9) (z := true) rfl rfl rfl (by decide) (fun _ => ?_) (fun h => by cases h)
  refine x_iconst (pc' := 14) rfl rfl ?_
  refine x_retz (z := false) rfl rfl ?_
  refine sK_i (pc' := 17) rfl ?_
  refine x_if (a' := 29) (pc' := 20) (z := true) rfl rfl rfl (by decide) (fun _ => ?_) (fun h => by cases h)
  refine x_iconst (pc' := 30) rfl rfl ?_
  refine x_reti rfl rfl ?_
  exact k0
set_option maxHeartbeats 4000000 in
set_option maxRecDepth 10000 in
theorem r225 {t : sT} {Q : sRs → sT → Prop} {M : sM} {n : Nat} {b : Nat} {s : Bool}
    (hV : Vr t M n)
    (hb : b < 5)
    (k0 : Q (.inl (some (.inl (ov (bsF (mIw M 768 0) n b s))))) (sIw t 768 0 0)) :
    X 225 0 [.inr (.inr (12, (some 0))), .inl (io b), .inl (bz s)] [] t Q := by
  obtain ⟨hM, hc, hR⟩ := hV
  refine x_aload_n (pc' := 1) rfl rfl rfl rfl rfl ?_
  refine x_iload_n (pc' := 2) rfl rfl rfl ?_
  refine x_cs (ls0 := [_]) (rest := [_]) rfl rfl rfl rfl ?_
  refine x_iload_n (pc' := 1) rfl rfl rfl ?_
  refine x_iconst (pc' := 2) rfl rfl ?_
  refine x_iconst (pc' := 3) rfl rfl ?_
  refine x_cs (ls0 := [_, _, _]) (rest := []) rfl rfl rfl rfl ?_
  refine x_iload_n (pc' := 1) rfl rfl rfl ?_
  refine x_iload_n (pc' := 2) rfl rfl rfl ?_
  refine x_icmp (a' := 14) (pc' := 5) (z := decide (b < 0)) rfl rfl rfl (ic_lt (p := b) (q := 0) (gb31 hb) (by decide)) (fun h => absurd (of_decide_eq_true h) (by first | decide | omega | simp)) (fun _ => ?_)
  refine x_iload_n (pc' := 6) rfl rfl rfl ?_
  refine x_iload_n (pc' := 7) rfl rfl rfl ?_
  refine x_icmp (a' := 14) (pc' := 10) (z := decide (4 < b)) rfl rfl rfl (ic_gt (p := b) (q := 4) (gb31 hb) (by decide)) (fun h => absurd (of_decide_eq_true h) (show ¬ 4 < b by omega)) (fun _ => ?_)
  refine x_iconst (pc' := 11) rfl rfl ?_
  refine x_goto (pc' := 15) rfl rfl ?_
  refine x_retz (z := true) rfl rfl ?_
  refine sK_i (pc' := 6) rfl ?_
  refine x_retz (z := true) rfl rfl ?_
  refine sK_i (pc' := 5) rfl ?_
  refine x_if (a' := 12) (pc' := 8) (z := false) rfl rfl rfl (by decide) (fun h => by cases h) (fun _ => ?_)
  refine x_iconst (pc' := 9) rfl rfl ?_
  refine x_goto (pc' := 13) rfl rfl ?_
  refine x_cv (ls0 := [_, _]) (rest := []) rfl rfl rfl rfl rfl ?_
  refine x_aload_n (pc' := 1) rfl rfl rfl rfl rfl ?_
  refine x_iload_n (pc' := 2) rfl rfl rfl ?_
  refine x_pI (pc' := 5) rfl rfl rfl ?_
  refine x_iload_n (pc' := 6) rfl rfl rfl ?_
  refine x_if (a' := 13) (pc' := 9) (z := false) rfl rfl rfl (by decide) (fun h => by cases h) (fun _ => ?_)
  refine x_iconst (pc' := 10) rfl rfl ?_
  refine x_goto (pc' := 14) rfl rfl ?_
  refine x_retz (z := true) rfl rfl ?_
  refine sK_i (pc' := 16) rfl ?_
  refine x_if (a' := 28) (pc' := 19) (z := false) rfl rfl rfl (by decide) (fun h => by cases h) (fun _ => ?_)
  refine x_aload_n (pc' := 20) rfl rfl rfl rfl rfl ?_
  refine x_iload_n (pc' := 21) rfl rfl rfl ?_
  refine x_iload_n (pc' := 22) rfl rfl rfl ?_
  refine x_cv (ls0 := [_, _, _, sJk, sJk, sJk]) (rest := []) rfl rfl rfl rfl rfl ?_
  refine r153 ((rp_I rfl).trans (congrArg (fun z => mIw z 768 0) hM)) (Cn_cp (cp_I rfl) hc) (Fr.ri (Fr_I rfl (Fr.refl _)) hR) hb (fun b1 => ?_)
  refine sK_i (pc' := 25) rfl ?_
  refine x_goto (pc' := 29) rfl rfl ?_
  refine x_reti rfl rfl ?_
  exact k0
set_option maxHeartbeats 4000000 in
set_option maxRecDepth 10000 in
theorem r225_x0 {t : sT} {Q : sRs → sT → Prop} {M : sM} {n : Nat} {x : Int32} {s : Bool}
    (hV : Vr t M n)
    (hp : ixo x 5 = none)
    (k0 : Q (.inl (some (.inl 0))) (sIw t 768 0 1)) :
    X 225 0 [.inr (.inr (12, (some 0))), .inl x, .inl (bz s)] [] t Q := by
  obtain ⟨hM, hc, hR⟩ := hV
  refine x_aload_n (pc' := 1) rfl rfl rfl rfl rfl ?_
  refine x_iload_n (pc' := 2) rfl rfl rfl ?_
  refine x_cs (ls0 := [_]) (rest := [_]) rfl rfl rfl rfl ?_
  refine x_iload_n (pc' := 1) rfl rfl rfl ?_
  refine x_iconst (pc' := 2) rfl rfl ?_
  refine x_iconst (pc' := 3) rfl rfl ?_
  refine x_cs (ls0 := [_, _, _]) (rest := []) rfl rfl rfl rfl ?_
  refine r145_xg (ixo_c5 hp) ?_
  refine sK_i (pc' := 6) rfl ?_
  refine x_retz (z := false) rfl rfl ?_
  refine sK_i (pc' := 5) rfl ?_
  refine x_if (a' := 12) (pc' := 8) (z := true) rfl rfl rfl (by decide) (fun _ => ?_) (fun h => by cases h)
  refine x_iconst (pc' := 13) rfl rfl ?_
  refine x_cv (ls0 := [_, _]) (rest := []) rfl rfl rfl rfl rfl ?_
  refine x_aload_n (pc' := 1) rfl rfl rfl rfl rfl ?_
  refine x_iload_n (pc' := 2) rfl rfl rfl ?_
  refine x_pI (pc' := 5) rfl rfl rfl ?_
  refine x_iload_n (pc' := 6) rfl rfl rfl ?_
  refine x_if (a' := 13) (pc' := 9) (z := true) rfl rfl rfl (by decide) (fun _ => ?_) (fun h => by cases h)
  refine x_iconst (pc' := 14) rfl rfl ?_
  refine x_retz (z := false) rfl rfl ?_
  refine sK_i (pc' := 16) rfl ?_
  refine x_if (a' := 28) (pc' := 19) (z := true) rfl rfl rfl (by decide) (fun _ => ?_) (fun h => by cases h)
  refine x_iconst (pc' := 29) rfl rfl ?_
  refine x_reti rfl rfl ?_
  exact k0
set_option maxHeartbeats 4000000 in
set_option maxRecDepth 10000 in
theorem r226 {t : sT} {Q : sRs → sT → Prop} {M : sM} {n : Nat} {b : Nat} {s : Bool}
    (hV : Vr t M n)
    (hb : b < 5)
    (k0 : Q (.inl (some (.inl (ov (bsF (mIw M 768 0) n b s))))) (sIw t 768 0 0)) :
    X 226 0 [.inr (.inr (12, (some 0))), .inl (io b), .inl (bz s)] [] t Q := by
  obtain ⟨hM, hc, hR⟩ := hV
  refine x_aload_n (pc' := 1) rfl rfl rfl rfl rfl ?_
  refine x_iload_n (pc' := 2) rfl rfl rfl ?_
  refine x_cs (ls0 := [_]) (rest := [_]) rfl rfl rfl rfl ?_
  refine x_iload_n (pc' := 1) rfl rfl rfl ?_
  refine x_iconst (pc' := 2) rfl rfl ?_
  refine x_iconst (pc' := 3) rfl rfl ?_
  refine x_cs (ls0 := [_, _, _]) (rest := []) rfl rfl rfl rfl ?_
  refine x_iload_n (pc' := 1) rfl rfl rfl ?_
  refine x_iload_n (pc' := 2) rfl rfl rfl ?_
  refine x_icmp (a' := 14) (pc' := 5) (z := decide (b < 0)) rfl rfl rfl (ic_lt (p := b) (q := 0) (gb31 hb) (by decide)) (fun h => absurd (of_decide_eq_true h) (by first | decide | omega | simp)) (fun _ => ?_)
  refine x_iload_n (pc' := 6) rfl rfl rfl ?_
  refine x_iload_n (pc' := 7) rfl rfl rfl ?_
  refine x_icmp (a' := 14) (pc' := 10) (z := decide (4 < b)) rfl rfl rfl (ic_gt (p := b) (q := 4) (gb31 hb) (by decide)) (fun h => absurd (of_decide_eq_true h) (show ¬ 4 < b by omega)) (fun _ => ?_)
  refine x_iconst (pc' := 11) rfl rfl ?_
  refine x_goto (pc' := 15) rfl rfl ?_
  refine x_retz (z := true) rfl rfl ?_
  refine sK_i (pc' := 6) rfl ?_
  refine x_retz (z := true) rfl rfl ?_
  refine sK_i (pc' := 5) rfl ?_
  refine x_if (a' := 12) (pc' := 8) (z := false) rfl rfl rfl (by decide) (fun h => by cases h) (fun _ => ?_)
  refine x_iconst (pc' := 9) rfl rfl ?_
  refine x_goto (pc' := 13) rfl rfl ?_
  refine x_cv (ls0 := [_, _]) (rest := []) rfl rfl rfl rfl rfl ?_
  refine x_aload_n (pc' := 1) rfl rfl rfl rfl rfl ?_
  refine x_iload_n (pc' := 2) rfl rfl rfl ?_
  refine x_pI (pc' := 5) rfl rfl rfl ?_
  refine x_iload_n (pc' := 6) rfl rfl rfl ?_
  refine x_if (a' := 13) (pc' := 9) (z := false) rfl rfl rfl (by decide) (fun h => by cases h) (fun _ => ?_)
  refine x_iconst (pc' := 10) rfl rfl ?_
  refine x_goto (pc' := 14) rfl rfl ?_
  refine x_retz (z := true) rfl rfl ?_
  refine sK_i (pc' := 16) rfl ?_
  refine x_if (a' := 28) (pc' := 19) (z := false) rfl rfl rfl (by decide) (fun h => by cases h) (fun _ => ?_)
  refine x_aload_n (pc' := 20) rfl rfl rfl rfl rfl ?_
  refine x_iload_n (pc' := 21) rfl rfl rfl ?_
  refine x_iload_n (pc' := 22) rfl rfl rfl ?_
  refine x_cv (ls0 := [_, _, _, sJk, sJk, sJk]) (rest := []) rfl rfl rfl rfl rfl ?_
  refine r153 ((rp_I rfl).trans (congrArg (fun z => mIw z 768 0) hM)) (Cn_cp (cp_I rfl) hc) (Fr.ri (Fr_I rfl (Fr.refl _)) hR) hb (fun b1 => ?_)
  refine sK_i (pc' := 25) rfl ?_
  refine x_goto (pc' := 29) rfl rfl ?_
  refine x_reti rfl rfl ?_
  exact k0
set_option maxHeartbeats 4000000 in
set_option maxRecDepth 10000 in
theorem r226_x0 {t : sT} {Q : sRs → sT → Prop} {M : sM} {n : Nat} {x : Int32} {s : Bool}
    (hV : Vr t M n)
    (hp : ixo x 5 = none)
    (k0 : Q (.inl (some (.inl 0))) (sIw t 768 0 1)) :
    X 226 0 [.inr (.inr (12, (some 0))), .inl x, .inl (bz s)] [] t Q := by
  obtain ⟨hM, hc, hR⟩ := hV
  refine x_aload_n (pc' := 1) rfl rfl rfl rfl rfl ?_
  refine x_iload_n (pc' := 2) rfl rfl rfl ?_
  refine x_cs (ls0 := [_]) (rest := [_]) rfl rfl rfl rfl ?_
  refine x_iload_n (pc' := 1) rfl rfl rfl ?_
  refine x_iconst (pc' := 2) rfl rfl ?_
  refine x_iconst (pc' := 3) rfl rfl ?_
  refine x_cs (ls0 := [_, _, _]) (rest := []) rfl rfl rfl rfl ?_
  refine r145_xg (ixo_c5 hp) ?_
  refine sK_i (pc' := 6) rfl ?_
  refine x_retz (z := false) rfl rfl ?_
  refine sK_i (pc' := 5) rfl ?_
  refine x_if (a' := 12) (pc' := 8) (z := true) rfl rfl rfl (by decide) (fun _ => ?_) (fun h => by cases h)
  refine x_iconst (pc' := 13) rfl rfl ?_
  refine x_cv (ls0 := [_, _]) (rest := []) rfl rfl rfl rfl rfl ?_
  refine x_aload_n (pc' := 1) rfl rfl rfl rfl rfl ?_
  refine x_iload_n (pc' := 2) rfl rfl rfl ?_
  refine x_pI (pc' := 5) rfl rfl rfl ?_
  refine x_iload_n (pc' := 6) rfl rfl rfl ?_
  refine x_if (a' := 13) (pc' := 9) (z := true) rfl rfl rfl (by decide) (fun _ => ?_) (fun h => by cases h)
  refine x_iconst (pc' := 14) rfl rfl ?_
  refine x_retz (z := false) rfl rfl ?_
  refine sK_i (pc' := 16) rfl ?_
  refine x_if (a' := 28) (pc' := 19) (z := true) rfl rfl rfl (by decide) (fun _ => ?_) (fun h => by cases h)
  refine x_iconst (pc' := 29) rfl rfl ?_
  refine x_reti rfl rfl ?_
  exact k0
set_option maxHeartbeats 4000000 in
set_option maxRecDepth 10000 in
theorem r227 {t : sT} {Q : sRs → sT → Prop} {M : sM} {n : Nat} {b : Nat} {s : Bool}
    (hV : Vr t M n)
    (hb : b < 5)
    (k0 : X 161 0 [.inr (.inr (12, (some 0))), .inl (io b), .inl (bz s), sJk, sJk, sJk, sJk, sJk] [] (sIw t 768 0 0) (sK 161 227 22 [.inr (.inr (12, (some 0))), .inl (io b), .inl (bz s)] [] Q)) :
    X 227 0 [.inr (.inr (12, (some 0))), .inl (io b), .inl (bz s)] [] t Q := by
  obtain ⟨hM, hc, hR⟩ := hV
  refine x_aload_n (pc' := 1) rfl rfl rfl rfl rfl ?_
  refine x_iload_n (pc' := 2) rfl rfl rfl ?_
  refine x_cs (ls0 := [_]) (rest := [_]) rfl rfl rfl rfl ?_
  refine x_iload_n (pc' := 1) rfl rfl rfl ?_
  refine x_iconst (pc' := 2) rfl rfl ?_
  refine x_iconst (pc' := 3) rfl rfl ?_
  refine x_cs (ls0 := [_, _, _]) (rest := []) rfl rfl rfl rfl ?_
  refine x_iload_n (pc' := 1) rfl rfl rfl ?_
  refine x_iload_n (pc' := 2) rfl rfl rfl ?_
  refine x_icmp (a' := 14) (pc' := 5) (z := decide (b < 0)) rfl rfl rfl (ic_lt (p := b) (q := 0) (gb31 hb) (by decide)) (fun h => absurd (of_decide_eq_true h) (by first | decide | omega | simp)) (fun _ => ?_)
  refine x_iload_n (pc' := 6) rfl rfl rfl ?_
  refine x_iload_n (pc' := 7) rfl rfl rfl ?_
  refine x_icmp (a' := 14) (pc' := 10) (z := decide (4 < b)) rfl rfl rfl (ic_gt (p := b) (q := 4) (gb31 hb) (by decide)) (fun h => absurd (of_decide_eq_true h) (show ¬ 4 < b by omega)) (fun _ => ?_)
  refine x_iconst (pc' := 11) rfl rfl ?_
  refine x_goto (pc' := 15) rfl rfl ?_
  refine x_retz (z := true) rfl rfl ?_
  refine sK_i (pc' := 6) rfl ?_
  refine x_retz (z := true) rfl rfl ?_
  refine sK_i (pc' := 5) rfl ?_
  refine x_if (a' := 12) (pc' := 8) (z := false) rfl rfl rfl (by decide) (fun h => by cases h) (fun _ => ?_)
  refine x_iconst (pc' := 9) rfl rfl ?_
  refine x_goto (pc' := 13) rfl rfl ?_
  refine x_cv (ls0 := [_, _]) (rest := []) rfl rfl rfl rfl rfl ?_
  refine x_aload_n (pc' := 1) rfl rfl rfl rfl rfl ?_
  refine x_iload_n (pc' := 2) rfl rfl rfl ?_
  refine x_pI (pc' := 5) rfl rfl rfl ?_
  refine x_iload_n (pc' := 6) rfl rfl rfl ?_
  refine x_if (a' := 13) (pc' := 9) (z := false) rfl rfl rfl (by decide) (fun h => by cases h) (fun _ => ?_)
  refine x_iconst (pc' := 10) rfl rfl ?_
  refine x_goto (pc' := 14) rfl rfl ?_
  refine x_retz (z := true) rfl rfl ?_
  refine sK_i (pc' := 16) rfl ?_
  refine x_if (a' := 28) (pc' := 19) (z := false) rfl rfl rfl (by decide) (fun h => by cases h) (fun _ => ?_)
  refine x_aload_n (pc' := 20) rfl rfl rfl rfl rfl ?_
  refine x_iload_n (pc' := 21) rfl rfl rfl ?_
  refine x_iload_n (pc' := 22) rfl rfl rfl ?_
  refine x_cv (ls0 := [_, _, _, sJk, sJk, sJk, sJk, sJk]) (rest := []) rfl rfl rfl rfl rfl ?_
  exact k0
set_option maxHeartbeats 4000000 in
set_option maxRecDepth 10000 in
theorem r227_x0 {t : sT} {Q : sRs → sT → Prop} {M : sM} {n : Nat} {x : Int32} {s : Bool}
    (hV : Vr t M n)
    (hp : ixo x 5 = none)
    (k0 : Q (.inl (some (.inl 0))) (sIw t 768 0 1)) :
    X 227 0 [.inr (.inr (12, (some 0))), .inl x, .inl (bz s)] [] t Q := by
  obtain ⟨hM, hc, hR⟩ := hV
  refine x_aload_n (pc' := 1) rfl rfl rfl rfl rfl ?_
  refine x_iload_n (pc' := 2) rfl rfl rfl ?_
  refine x_cs (ls0 := [_]) (rest := [_]) rfl rfl rfl rfl ?_
  refine x_iload_n (pc' := 1) rfl rfl rfl ?_
  refine x_iconst (pc' := 2) rfl rfl ?_
  refine x_iconst (pc' := 3) rfl rfl ?_
  refine x_cs (ls0 := [_, _, _]) (rest := []) rfl rfl rfl rfl ?_
  refine r145_xg (ixo_c5 hp) ?_
  refine sK_i (pc' := 6) rfl ?_
  refine x_retz (z := false) rfl rfl ?_
  refine sK_i (pc' := 5) rfl ?_
  refine x_if (a' := 12) (pc' := 8) (z := true) rfl rfl rfl (by decide) (fun _ => ?_) (fun h => by cases h)
  refine x_iconst (pc' := 13) rfl rfl ?_
  refine x_cv (ls0 := [_, _]) (rest := []) rfl rfl rfl rfl rfl ?_
  refine x_aload_n (pc' := 1) rfl rfl rfl rfl rfl ?_
  refine x_iload_n (pc' := 2) rfl rfl rfl ?_
  refine x_pI (pc' := 5) rfl rfl rfl ?_
  refine x_iload_n (pc' := 6) rfl rfl rfl ?_
  refine x_if (a' := 13) (pc' := 9) (z := true) rfl rfl rfl (by decide) (fun _ => ?_) (fun h => by cases h)
  refine x_iconst (pc' := 14) rfl rfl ?_
  refine x_retz (z := false) rfl rfl ?_
  refine sK_i (pc' := 16) rfl ?_
  refine x_if (a' := 28) (pc' := 19) (z := true) rfl rfl rfl (by decide) (fun _ => ?_) (fun h => by cases h)
  refine x_iconst (pc' := 29) rfl rfl ?_
  refine x_reti rfl rfl ?_
  exact k0
set_option maxHeartbeats 4000000 in
set_option maxRecDepth 10000 in
theorem r228 {t : sT} {Q : sRs → sT → Prop} {M : sM} {n : Nat} {b : Nat} {s : Bool}
    (hV : Vr t M n)
    (hb : b < 5)
    (k0 : X 161 0 [.inr (.inr (12, (some 0))), .inl (io b), .inl (bz s), sJk, sJk, sJk, sJk, sJk] [] (sIw t 768 0 0) (sK 161 228 24 [.inr (.inr (12, (some 0))), .inl (io b), .inl (bz s), sJk] [] Q)) :
    X 228 0 [.inr (.inr (12, (some 0))), .inl (io b), .inl (bz s), sJk] [] t Q := by
  obtain ⟨hM, hc, hR⟩ := hV
  refine x_aload_n (pc' := 1) rfl rfl rfl rfl rfl ?_
  refine x_iload_n (pc' := 2) rfl rfl rfl ?_
  refine x_cs (ls0 := [_]) (rest := [_]) rfl rfl rfl rfl ?_
  refine x_iload_n (pc' := 1) rfl rfl rfl ?_
  refine x_iconst (pc' := 2) rfl rfl ?_
  refine x_iconst (pc' := 3) rfl rfl ?_
  refine x_cs (ls0 := [_, _, _]) (rest := []) rfl rfl rfl rfl ?_
  refine x_iload_n (pc' := 1) rfl rfl rfl ?_
  refine x_iload_n (pc' := 2) rfl rfl rfl ?_
  refine x_icmp (a' := 14) (pc' := 5) (z := decide (b < 0)) rfl rfl rfl (ic_lt (p := b) (q := 0) (gb31 hb) (by decide)) (fun h => absurd (of_decide_eq_true h) (by first | decide | omega | simp)) (fun _ => ?_)
  refine x_iload_n (pc' := 6) rfl rfl rfl ?_
  refine x_iload_n (pc' := 7) rfl rfl rfl ?_
  refine x_icmp (a' := 14) (pc' := 10) (z := decide (4 < b)) rfl rfl rfl (ic_gt (p := b) (q := 4) (gb31 hb) (by decide)) (fun h => absurd (of_decide_eq_true h) (show ¬ 4 < b by omega)) (fun _ => ?_)
  refine x_iconst (pc' := 11) rfl rfl ?_
  refine x_goto (pc' := 15) rfl rfl ?_
  refine x_retz (z := true) rfl rfl ?_
  refine sK_i (pc' := 6) rfl ?_
  refine x_retz (z := true) rfl rfl ?_
  refine sK_i (pc' := 5) rfl ?_
  refine x_if (a' := 12) (pc' := 8) (z := false) rfl rfl rfl (by decide) (fun h => by cases h) (fun _ => ?_)
  refine x_iconst (pc' := 9) rfl rfl ?_
  refine x_goto (pc' := 13) rfl rfl ?_
  refine x_cv (ls0 := [_, _]) (rest := []) rfl rfl rfl rfl rfl ?_
  refine x_aload_n (pc' := 1) rfl rfl rfl rfl rfl ?_
  refine x_iload_n (pc' := 2) rfl rfl rfl ?_
  refine x_pI (pc' := 5) rfl rfl rfl ?_
  refine x_iload_n (pc' := 6) rfl rfl rfl ?_
  refine x_if (a' := 13) (pc' := 9) (z := false) rfl rfl rfl (by decide) (fun h => by cases h) (fun _ => ?_)
  refine x_iconst (pc' := 10) rfl rfl ?_
  refine x_goto (pc' := 14) rfl rfl ?_
  refine x_retz (z := true) rfl rfl ?_
  refine sK_i (pc' := 16) rfl ?_
  refine x_if (a' := 21) (pc' := 19) (z := true) rfl rfl rfl (by decide) (fun _ => ?_) (fun h => by cases h)
  refine x_aload_n (pc' := 22) rfl rfl rfl rfl rfl ?_
  refine x_iload_n (pc' := 23) rfl rfl rfl ?_
  refine x_iload_n (pc' := 24) rfl rfl rfl ?_
  refine x_cv (ls0 := [_, _, _, sJk, sJk, sJk, sJk, sJk]) (rest := []) rfl rfl rfl rfl rfl ?_
  exact k0
set_option maxHeartbeats 4000000 in
set_option maxRecDepth 10000 in
theorem r228_x0 {t : sT} {Q : sRs → sT → Prop} {M : sM} {n : Nat} {x : Int32} {s : Bool}
    (hV : Vr t M n)
    (hp : ixo x 5 = none)
    (k0 : Q (.inl (some (.inl 0))) (sIw t 768 0 1)) :
    X 228 0 [.inr (.inr (12, (some 0))), .inl x, .inl (bz s), sJk] [] t Q := by
  obtain ⟨hM, hc, hR⟩ := hV
  refine x_aload_n (pc' := 1) rfl rfl rfl rfl rfl ?_
  refine x_iload_n (pc' := 2) rfl rfl rfl ?_
  refine x_cs (ls0 := [_]) (rest := [_]) rfl rfl rfl rfl ?_
  refine x_iload_n (pc' := 1) rfl rfl rfl ?_
  refine x_iconst (pc' := 2) rfl rfl ?_
  refine x_iconst (pc' := 3) rfl rfl ?_
  refine x_cs (ls0 := [_, _, _]) (rest := []) rfl rfl rfl rfl ?_
  refine r145_xg (ixo_c5 hp) ?_
  refine sK_i (pc' := 6) rfl ?_
  refine x_retz (z := false) rfl rfl ?_
  refine sK_i (pc' := 5) rfl ?_
  refine x_if (a' := 12) (pc' := 8) (z := true) rfl rfl rfl (by decide) (fun _ => ?_) (fun h => by cases h)
  refine x_iconst (pc' := 13) rfl rfl ?_
  refine x_cv (ls0 := [_, _]) (rest := []) rfl rfl rfl rfl rfl ?_
  refine x_aload_n (pc' := 1) rfl rfl rfl rfl rfl ?_
  refine x_iload_n (pc' := 2) rfl rfl rfl ?_
  refine x_pI (pc' := 5) rfl rfl rfl ?_
  refine x_iload_n (pc' := 6) rfl rfl rfl ?_
  refine x_if (a' := 13) (pc' := 9) (z := true) rfl rfl rfl (by decide) (fun _ => ?_) (fun h => by cases h)
  refine x_iconst (pc' := 14) rfl rfl ?_
  refine x_retz (z := false) rfl rfl ?_
  refine sK_i (pc' := 16) rfl ?_
  refine x_if (a' := 21) (pc' := 19) (z := false) rfl rfl rfl (by decide) (fun h => by cases h) (fun _ => ?_)
  refine x_iconst (pc' := 20) rfl rfl ?_
  refine x_reti rfl rfl ?_
  exact k0
set_option maxHeartbeats 4000000 in
set_option maxRecDepth 10000 in
theorem r229 {t : sT} {Q : sRs → sT → Prop} {M : sM} {n : Nat} {b : Nat}
    (hV : Vr t M n)
    (hb : b < 5)
    (k0 : Q (.inl (some (.inl (auF (mIw M 768 0) n b)))) (sIw t 768 0 0)) :
    X 229 0 [.inr (.inr (12, (some 0))), .inl (io b)] [] t Q := by
  obtain ⟨hM, hc, hR⟩ := hV
  refine x_aload_n (pc' := 1) rfl rfl rfl rfl rfl ?_
  refine x_iload_n (pc' := 2) rfl rfl rfl ?_
  refine x_cs (ls0 := [_]) (rest := [_]) rfl rfl rfl rfl ?_
  refine x_iload_n (pc' := 1) rfl rfl rfl ?_
  refine x_iconst (pc' := 2) rfl rfl ?_
  refine x_iconst (pc' := 3) rfl rfl ?_
  refine x_cs (ls0 := [_, _, _]) (rest := []) rfl rfl rfl rfl ?_
  refine x_iload_n (pc' := 1) rfl rfl rfl ?_
  refine x_iload_n (pc' := 2) rfl rfl rfl ?_
  refine x_icmp (a' := 14) (pc' := 5) (z := decide (b < 0)) rfl rfl rfl (ic_lt (p := b) (q := 0) (gb31 hb) (by decide)) (fun h => absurd (of_decide_eq_true h) (by first | decide | omega | simp)) (fun _ => ?_)
  refine x_iload_n (pc' := 6) rfl rfl rfl ?_
  refine x_iload_n (pc' := 7) rfl rfl rfl ?_
  refine x_icmp (a' := 14) (pc' := 10) (z := decide (4 < b)) rfl rfl rfl (ic_gt (p := b) (q := 4) (gb31 hb) (by decide)) (fun h => absurd (of_decide_eq_true h) (show ¬ 4 < b by omega)) (fun _ => ?_)
  refine x_iconst (pc' := 11) rfl rfl ?_
  refine x_goto (pc' := 15) rfl rfl ?_
  refine x_retz (z := true) rfl rfl ?_
  refine sK_i (pc' := 6) rfl ?_
  refine x_retz (z := true) rfl rfl ?_
  refine sK_i (pc' := 5) rfl ?_
  refine x_if (a' := 12) (pc' := 8) (z := false) rfl rfl rfl (by decide) (fun h => by cases h) (fun _ => ?_)
  refine x_iconst (pc' := 9) rfl rfl ?_
  refine x_goto (pc' := 13) rfl rfl ?_
  refine x_cv (ls0 := [_, _]) (rest := []) rfl rfl rfl rfl rfl ?_
  refine x_aload_n (pc' := 1) rfl rfl rfl rfl rfl ?_
  refine x_iload_n (pc' := 2) rfl rfl rfl ?_
  refine x_pI (pc' := 5) rfl rfl rfl ?_
  refine x_iload_n (pc' := 6) rfl rfl rfl ?_
  refine x_if (a' := 13) (pc' := 9) (z := false) rfl rfl rfl (by decide) (fun h => by cases h) (fun _ => ?_)
  refine x_iconst (pc' := 10) rfl rfl ?_
  refine x_goto (pc' := 14) rfl rfl ?_
  refine x_retz (z := true) rfl rfl ?_
  refine sK_i (pc' := 16) rfl ?_
  refine x_if (a' := 27) (pc' := 19) (z := false) rfl rfl rfl (by decide) (fun h => by cases h) (fun _ => ?_)
  refine x_aload_n (pc' := 20) rfl rfl rfl rfl rfl ?_
  refine x_iload_n (pc' := 21) rfl rfl rfl ?_
  refine x_cv (ls0 := [_, _, sJk, sJk, sJk, sJk, sJk, sJk, sJk, sJk, sJk, sJk, sJk, sJk]) (rest := []) rfl rfl rfl rfl rfl ?_
  refine r191 ((rp_I rfl).trans (congrArg (fun z => mIw z 768 0) hM)) (Cn_cp (cp_I rfl) hc) (Fr.ri (Fr_I rfl (Fr.refl _)) hR) hb ?_
  refine sK_i (pc' := 24) rfl ?_
  refine x_goto (pc' := 28) rfl rfl ?_
  refine x_reti rfl rfl ?_
  exact k0
set_option maxHeartbeats 4000000 in
set_option maxRecDepth 10000 in
theorem r229_x0 {t : sT} {Q : sRs → sT → Prop} {M : sM} {n : Nat} {x : Int32}
    (hV : Vr t M n)
    (hp : ixo x 5 = none)
    (k0 : Q (.inl (some (.inl 0))) (sIw t 768 0 1)) :
    X 229 0 [.inr (.inr (12, (some 0))), .inl x] [] t Q := by
  obtain ⟨hM, hc, hR⟩ := hV
  refine x_aload_n (pc' := 1) rfl rfl rfl rfl rfl ?_
  refine x_iload_n (pc' := 2) rfl rfl rfl ?_
  refine x_cs (ls0 := [_]) (rest := [_]) rfl rfl rfl rfl ?_
  refine x_iload_n (pc' := 1) rfl rfl rfl ?_
  refine x_iconst (pc' := 2) rfl rfl ?_
  refine x_iconst (pc' := 3) rfl rfl ?_
  refine x_cs (ls0 := [_, _, _]) (rest := []) rfl rfl rfl rfl ?_
  refine r145_xg (ixo_c5 hp) ?_
  refine sK_i (pc' := 6) rfl ?_
  refine x_retz (z := false) rfl rfl ?_
  refine sK_i (pc' := 5) rfl ?_
  refine x_if (a' := 12) (pc' := 8) (z := true) rfl rfl rfl (by decide) (fun _ => ?_) (fun h => by cases h)
  refine x_iconst (pc' := 13) rfl rfl ?_
  refine x_cv (ls0 := [_, _]) (rest := []) rfl rfl rfl rfl rfl ?_
  refine x_aload_n (pc' := 1) rfl rfl rfl rfl rfl ?_
  refine x_iload_n (pc' := 2) rfl rfl rfl ?_
  refine x_pI (pc' := 5) rfl rfl rfl ?_
  refine x_iload_n (pc' := 6) rfl rfl rfl ?_
  refine x_if (a' := 13) (pc' := 9) (z := true) rfl rfl rfl (by decide) (fun _ => ?_) (fun h => by cases h)
  refine x_iconst (pc' := 14) rfl rfl ?_
  refine x_retz (z := false) rfl rfl ?_
  refine sK_i (pc' := 16) rfl ?_
  refine x_if (a' := 27) (pc' := 19) (z := true) rfl rfl rfl (by decide) (fun _ => ?_) (fun h => by cases h)
  refine x_iconst (pc' := 28) rfl rfl ?_
  refine x_reti rfl rfl ?_
  exact k0
set_option maxHeartbeats 4000000 in
set_option maxRecDepth 10000 in
theorem r230 {t : sT} {Q : sRs → sT → Prop} {M : sM} {n : Nat} {c : Nat}
    (hV : Vr t M n)
    (hc3 : c < 3)
    (k0 : Q (.inl (some (.inl (mA M 1 c)))) (sIw t 768 0 0)) :
    X 230 0 [.inr (.inr (12, (some 0))), .inl (io c)] [] t Q := by
  obtain ⟨hM, hc, hR⟩ := hV
  refine x_aload_n (pc' := 1) rfl rfl rfl rfl rfl ?_
  refine x_iload_n (pc' := 2) rfl rfl rfl ?_
  refine x_cs (ls0 := [_]) (rest := [_]) rfl rfl rfl rfl ?_
  refine x_iload_n (pc' := 1) rfl rfl rfl ?_
  refine x_iconst (pc' := 2) rfl rfl ?_
  refine x_iconst (pc' := 3) rfl rfl ?_
  refine x_cs (ls0 := [_, _, _]) (rest := []) rfl rfl rfl rfl ?_
  refine x_iload_n (pc' := 1) rfl rfl rfl ?_
  refine x_iload_n (pc' := 2) rfl rfl rfl ?_
  refine x_icmp (a' := 14) (pc' := 5) (z := decide (c < 0)) rfl rfl rfl (ic_lt (p := c) (q := 0) (gc31 hc3) (by decide)) (fun h => absurd (of_decide_eq_true h) (by first | decide | omega | simp)) (fun _ => ?_)
  refine x_iload_n (pc' := 6) rfl rfl rfl ?_
  refine x_iload_n (pc' := 7) rfl rfl rfl ?_
  refine x_icmp (a' := 14) (pc' := 10) (z := decide (2 < c)) rfl rfl rfl (ic_gt (p := c) (q := 2) (gc31 hc3) (by decide)) (fun h => absurd (of_decide_eq_true h) (show ¬ 2 < c by omega)) (fun _ => ?_)
  refine x_iconst (pc' := 11) rfl rfl ?_
  refine x_goto (pc' := 15) rfl rfl ?_
  refine x_retz (z := true) rfl rfl ?_
  refine sK_i (pc' := 6) rfl ?_
  refine x_retz (z := true) rfl rfl ?_
  refine sK_i (pc' := 5) rfl ?_
  refine x_if (a' := 12) (pc' := 8) (z := false) rfl rfl rfl (by decide) (fun h => by cases h) (fun _ => ?_)
  refine x_iconst (pc' := 9) rfl rfl ?_
  refine x_goto (pc' := 13) rfl rfl ?_
  refine x_cv (ls0 := [_, _]) (rest := []) rfl rfl rfl rfl rfl ?_
  refine x_aload_n (pc' := 1) rfl rfl rfl rfl rfl ?_
  refine x_iload_n (pc' := 2) rfl rfl rfl ?_
  refine x_pI (pc' := 5) rfl rfl rfl ?_
  refine x_iload_n (pc' := 6) rfl rfl rfl ?_
  refine x_if (a' := 13) (pc' := 9) (z := false) rfl rfl rfl (by decide) (fun h => by cases h) (fun _ => ?_)
  refine x_iconst (pc' := 10) rfl rfl ?_
  refine x_goto (pc' := 14) rfl rfl ?_
  refine x_retz (z := true) rfl rfl ?_
  refine sK_i (pc' := 16) rfl ?_
  refine x_if (a' := 28) (pc' := 19) (z := false) rfl rfl rfl (by decide) (fun h => by cases h) (fun _ => ?_)
  refine x_aload_n (pc' := 20) rfl rfl rfl rfl rfl ?_
  refine x_gR (pc' := 23) (r := (some 1)) rfl rfl rfl (Eq.trans (b := sR t 771 0) rfl (kR_771_0 hc)) ?_
  refine x_iload_n (pc' := 24) rfl rfl rfl ?_
  refine x_iald (pc' := 25) (N := 3) (x := (mA M 1 c)) rfl rfl rfl (Eq.trans rdNI (kN_21_1 hc)) (io_in (p := c) (N := 3) hc3 (by decide)) (Eq.trans (congrArg (sA (sIw t 768 0 0) 21 1) (nn_io (p := c) (Nat.lt_trans hc3 (by decide)))) (Eq.trans (b := sA t 21 1 c) rfl (gA hM rfl))) ?_
  refine x_goto (pc' := 29) rfl rfl ?_
  refine x_reti rfl rfl ?_
  exact k0
set_option maxHeartbeats 4000000 in
set_option maxRecDepth 10000 in
theorem r230_x0 {t : sT} {Q : sRs → sT → Prop} {M : sM} {n : Nat} {x : Int32}
    (hV : Vr t M n)
    (hp : ixo x 3 = none)
    (k0 : Q (.inl (some (.inl 0))) (sIw t 768 0 1)) :
    X 230 0 [.inr (.inr (12, (some 0))), .inl x] [] t Q := by
  obtain ⟨hM, hc, hR⟩ := hV
  refine x_aload_n (pc' := 1) rfl rfl rfl rfl rfl ?_
  refine x_iload_n (pc' := 2) rfl rfl rfl ?_
  refine x_cs (ls0 := [_]) (rest := [_]) rfl rfl rfl rfl ?_
  refine x_iload_n (pc' := 1) rfl rfl rfl ?_
  refine x_iconst (pc' := 2) rfl rfl ?_
  refine x_iconst (pc' := 3) rfl rfl ?_
  refine x_cs (ls0 := [_, _, _]) (rest := []) rfl rfl rfl rfl ?_
  refine r145_xg (ixo_c3 hp) ?_
  refine sK_i (pc' := 6) rfl ?_
  refine x_retz (z := false) rfl rfl ?_
  refine sK_i (pc' := 5) rfl ?_
  refine x_if (a' := 12) (pc' := 8) (z := true) rfl rfl rfl (by decide) (fun _ => ?_) (fun h => by cases h)
  refine x_iconst (pc' := 13) rfl rfl ?_
  refine x_cv (ls0 := [_, _]) (rest := []) rfl rfl rfl rfl rfl ?_
  refine x_aload_n (pc' := 1) rfl rfl rfl rfl rfl ?_
  refine x_iload_n (pc' := 2) rfl rfl rfl ?_
  refine x_pI (pc' := 5) rfl rfl rfl ?_
  refine x_iload_n (pc' := 6) rfl rfl rfl ?_
  refine x_if (a' := 13) (pc' := 9) (z := true) rfl rfl rfl (by decide) (fun _ => ?_) (fun h => by cases h)
  refine x_iconst (pc' := 14) rfl rfl ?_
  refine x_retz (z := false) rfl rfl ?_
  refine sK_i (pc' := 16) rfl ?_
  refine x_if (a' := 28) (pc' := 19) (z := true) rfl rfl rfl (by decide) (fun _ => ?_) (fun h => by cases h)
  refine x_iconst (pc' := 29) rfl rfl ?_
  refine x_reti rfl rfl ?_
  exact k0
set_option maxHeartbeats 4000000 in
set_option maxRecDepth 10000 in
theorem r231 {t : sT} {Q : sRs → sT → Prop} {M : sM} {n : Nat} {c : Nat}
    (hV : Vr t M n)
    (hc3 : c < 3)
    (k0 : Q (.inl (some (.inl (mA M 2 c)))) (sIw t 768 0 0)) :
    X 231 0 [.inr (.inr (12, (some 0))), .inl (io c)] [] t Q := by
  obtain ⟨hM, hc, hR⟩ := hV
  refine x_aload_n (pc' := 1) rfl rfl rfl rfl rfl ?_
  refine x_iload_n (pc' := 2) rfl rfl rfl ?_
  refine x_cs (ls0 := [_]) (rest := [_]) rfl rfl rfl rfl ?_
  refine x_iload_n (pc' := 1) rfl rfl rfl ?_
  refine x_iconst (pc' := 2) rfl rfl ?_
  refine x_iconst (pc' := 3) rfl rfl ?_
  refine x_cs (ls0 := [_, _, _]) (rest := []) rfl rfl rfl rfl ?_
  refine x_iload_n (pc' := 1) rfl rfl rfl ?_
  refine x_iload_n (pc' := 2) rfl rfl rfl ?_
  refine x_icmp (a' := 14) (pc' := 5) (z := decide (c < 0)) rfl rfl rfl (ic_lt (p := c) (q := 0) (gc31 hc3) (by decide)) (fun h => absurd (of_decide_eq_true h) (by first | decide | omega | simp)) (fun _ => ?_)
  refine x_iload_n (pc' := 6) rfl rfl rfl ?_
  refine x_iload_n (pc' := 7) rfl rfl rfl ?_
  refine x_icmp (a' := 14) (pc' := 10) (z := decide (2 < c)) rfl rfl rfl (ic_gt (p := c) (q := 2) (gc31 hc3) (by decide)) (fun h => absurd (of_decide_eq_true h) (show ¬ 2 < c by omega)) (fun _ => ?_)
  refine x_iconst (pc' := 11) rfl rfl ?_
  refine x_goto (pc' := 15) rfl rfl ?_
  refine x_retz (z := true) rfl rfl ?_
  refine sK_i (pc' := 6) rfl ?_
  refine x_retz (z := true) rfl rfl ?_
  refine sK_i (pc' := 5) rfl ?_
  refine x_if (a' := 12) (pc' := 8) (z := false) rfl rfl rfl (by decide) (fun h => by cases h) (fun _ => ?_)
  refine x_iconst (pc' := 9) rfl rfl ?_
  refine x_goto (pc' := 13) rfl rfl ?_
  refine x_cv (ls0 := [_, _]) (rest := []) rfl rfl rfl rfl rfl ?_
  refine x_aload_n (pc' := 1) rfl rfl rfl rfl rfl ?_
  refine x_iload_n (pc' := 2) rfl rfl rfl ?_
  refine x_pI (pc' := 5) rfl rfl rfl ?_
  refine x_iload_n (pc' := 6) rfl rfl rfl ?_
  refine x_if (a' := 13) (pc' := 9) (z := false) rfl rfl rfl (by decide) (fun h => by cases h) (fun _ => ?_)
  refine x_iconst (pc' := 10) rfl rfl ?_
  refine x_goto (pc' := 14) rfl rfl ?_
  refine x_retz (z := true) rfl rfl ?_
  refine sK_i (pc' := 16) rfl ?_
  refine x_if (a' := 28) (pc' := 19) (z := false) rfl rfl rfl (by decide) (fun h => by cases h) (fun _ => ?_)
  refine x_aload_n (pc' := 20) rfl rfl rfl rfl rfl ?_
  refine x_gR (pc' := 23) (r := (some 2)) rfl rfl rfl (Eq.trans (b := sR t 772 0) rfl (kR_772_0 hc)) ?_
  refine x_iload_n (pc' := 24) rfl rfl rfl ?_
  refine x_iald (pc' := 25) (N := 3) (x := (mA M 2 c)) rfl rfl rfl (Eq.trans rdNI (kN_21_2 hc)) (io_in (p := c) (N := 3) hc3 (by decide)) (Eq.trans (congrArg (sA (sIw t 768 0 0) 21 2) (nn_io (p := c) (Nat.lt_trans hc3 (by decide)))) (Eq.trans (b := sA t 21 2 c) rfl (gA hM rfl))) ?_
  refine x_goto (pc' := 29) rfl rfl ?_
  refine x_reti rfl rfl ?_
  exact k0
set_option maxHeartbeats 4000000 in
set_option maxRecDepth 10000 in
theorem r231_x0 {t : sT} {Q : sRs → sT → Prop} {M : sM} {n : Nat} {x : Int32}
    (hV : Vr t M n)
    (hp : ixo x 3 = none)
    (k0 : Q (.inl (some (.inl 0))) (sIw t 768 0 1)) :
    X 231 0 [.inr (.inr (12, (some 0))), .inl x] [] t Q := by
  obtain ⟨hM, hc, hR⟩ := hV
  refine x_aload_n (pc' := 1) rfl rfl rfl rfl rfl ?_
  refine x_iload_n (pc' := 2) rfl rfl rfl ?_
  refine x_cs (ls0 := [_]) (rest := [_]) rfl rfl rfl rfl ?_
  refine x_iload_n (pc' := 1) rfl rfl rfl ?_
  refine x_iconst (pc' := 2) rfl rfl ?_
  refine x_iconst (pc' := 3) rfl rfl ?_
  refine x_cs (ls0 := [_, _, _]) (rest := []) rfl rfl rfl rfl ?_
  refine r145_xg (ixo_c3 hp) ?_
  refine sK_i (pc' := 6) rfl ?_
  refine x_retz (z := false) rfl rfl ?_
  refine sK_i (pc' := 5) rfl ?_
  refine x_if (a' := 12) (pc' := 8) (z := true) rfl rfl rfl (by decide) (fun _ => ?_) (fun h => by cases h)
  refine x_iconst (pc' := 13) rfl rfl ?_
  refine x_cv (ls0 := [_, _]) (rest := []) rfl rfl rfl rfl rfl ?_
  refine x_aload_n (pc' := 1) rfl rfl rfl rfl rfl ?_
  refine x_iload_n (pc' := 2) rfl rfl rfl ?_
  refine x_pI (pc' := 5) rfl rfl rfl ?_
  refine x_iload_n (pc' := 6) rfl rfl rfl ?_
  refine x_if (a' := 13) (pc' := 9) (z := true) rfl rfl rfl (by decide) (fun _ => ?_) (fun h => by cases h)
  refine x_iconst (pc' := 14) rfl rfl ?_
  refine x_retz (z := false) rfl rfl ?_
  refine sK_i (pc' := 16) rfl ?_
  refine x_if (a' := 28) (pc' := 19) (z := true) rfl rfl rfl (by decide) (fun _ => ?_) (fun h => by cases h)
  refine x_iconst (pc' := 29) rfl rfl ?_
  refine x_reti rfl rfl ?_
  exact k0
set_option maxHeartbeats 4000000 in
set_option maxRecDepth 10000 in
theorem r232 {t : sT} {Q : sRs → sT → Prop} {M : sM} {n : Nat} {T : Nat}
    (hV : Vr t M n)
    (hT : mI M 801 = io T)
    (hT4 : T < 4096)
    (k0 : Q (.inl (some (.inl (io T)))) (sIw t 768 0 0)) :
    X 232 0 [.inr (.inr (12, (some 0)))] [] t Q := by
  obtain ⟨hM, hc, hR⟩ := hV
  refine x_aload_n (pc' := 1) rfl rfl rfl rfl rfl ?_
  refine x_iconst (pc' := 2) rfl rfl ?_
  refine x_pI (pc' := 5) rfl rfl rfl ?_
  refine x_aload_n (pc' := 6) rfl rfl rfl rfl rfl ?_
  refine x_gI (pc' := 9) (x := (io T)) rfl rfl rfl (Eq.trans (b := sI t 801 0) rfl ((gI hM rfl).trans hT)) ?_
  refine x_reti rfl rfl ?_
  exact k0
set_option maxHeartbeats 4000000 in
set_option maxRecDepth 10000 in
theorem r233 {t : sT} {Q : sRs → sT → Prop} {M : sM} {n : Nat} {T : Nat} {o : Nat} {p : Int32}
    (hV : Vr t M n)
    (hT : mI M 801 = io T)
    (hT4 : T < 4096)
    (ho : o < T)
    (k0 : p < 0 → Q (.inl (some (.inl 0))) (sIw t 768 0 2))
    (k1 : ¬ (p < 0) → 5 < p → Q (.inl (some (.inl 0))) (sIw t 768 0 2))
    (k2 : ¬ (p < 0) → ¬ (5 < p) → ¬ (p = 0) → ¬ (p = 1) → ¬ (p = 2) → ¬ (p = 3) → ¬ (p = 4) → (mB M 7 o) = false → Q (.inl (some (.inl 0))) (sIw t 768 0 0))
    (k3 : ¬ (p < 0) → ¬ (5 < p) → ¬ (p = 0) → ¬ (p = 1) → ¬ (p = 2) → ¬ (p = 3) → ¬ (p = 4) → (mB M 7 o) = true → Q (.inl (some (.inl 1))) (sIw t 768 0 0))
    (k4 : ¬ (p < 0) → ¬ (5 < p) → ¬ (p = 0) → ¬ (p = 1) → ¬ (p = 2) → ¬ (p = 3) → p = 4 → Q (.inl (some (.inl (mA M 25 o)))) (sIw t 768 0 0))
    (k5 : ¬ (p < 0) → ¬ (5 < p) → ¬ (p = 0) → ¬ (p = 1) → ¬ (p = 2) → p = 3 → Q (.inl (some (.inl (mA M 24 o)))) (sIw t 768 0 0))
    (k6 : ¬ (p < 0) → ¬ (5 < p) → ¬ (p = 0) → ¬ (p = 1) → p = 2 → Q (.inl (some (.inl (mA M 23 o)))) (sIw t 768 0 0))
    (k7 : ¬ (p < 0) → ¬ (5 < p) → ¬ (p = 0) → p = 1 → Q (.inl (some (.inl (mA M 22 o)))) (sIw t 768 0 0))
    (k8 : ¬ (p < 0) → ¬ (5 < p) → p = 0 → Q (.inl (some (.inl (mA M 21 o)))) (sIw t 768 0 0)) :
    X 233 0 [.inr (.inr (12, (some 0))), .inl (io o), .inl p, sJk] [] t Q := by
  obtain ⟨hM, hc, hR⟩ := hV
  refine x_aload_n (pc' := 1) rfl rfl rfl rfl rfl ?_
  refine x_iload_n (pc' := 2) rfl rfl rfl ?_
  refine x_cv (ls0 := [_, _]) (rest := []) rfl rfl rfl rfl rfl ?_
  refine x_iload_n (pc' := 1) rfl rfl rfl ?_
  refine x_iconst (pc' := 2) rfl rfl ?_
  refine x_aload_n (pc' := 3) rfl rfl rfl rfl rfl ?_
  refine x_gI (pc' := 6) (x := (io T)) rfl rfl rfl ((gI hM rfl).trans hT) ?_
  refine x_iconst (pc' := 7) rfl rfl ?_
  refine x_isub (pc' := 8) (z := ((io T) - 1)) rfl rfl rfl ?_
  refine x_cs (ls0 := [_, _, _]) (rest := []) rfl rfl rfl rfl ?_
  refine x_iload_n (pc' := 1) rfl rfl rfl ?_
  refine x_iload_n (pc' := 2) rfl rfl rfl ?_
  refine x_icmp (a' := 14) (pc' := 5) (z := decide (o < 0)) rfl rfl rfl (ic_lt (p := o) (q := 0) (Nat.lt_trans ho (Nat.lt_trans hT4 (by decide))) (by decide)) (fun h => absurd (of_decide_eq_true h) (by first | decide | omega | simp)) (fun _ => ?_)
  refine x_iload_n (pc' := 6) rfl rfl rfl ?_
  refine x_iload_n (pc' := 7) rfl rfl rfl ?_
  refine x_icmp (a' := 14) (pc' := 10) (z := decide (((io T) - 1) < (io o))) rfl rfl rfl rfl (fun h => absurd (of_decide_eq_true h) (io_pre ho (Nat.lt_trans hT4 (by decide)))) (fun _ => ?_)
  refine x_iconst (pc' := 11) rfl rfl ?_
  refine x_goto (pc' := 15) rfl rfl ?_
  refine x_retz (z := true) rfl rfl ?_
  refine sK_i (pc' := 11) rfl ?_
  refine x_retz (z := true) rfl rfl ?_
  refine sK_i (pc' := 5) rfl ?_
  refine x_istore_n (pc' := 6) (ls' := [_, _, _, _]) rfl rfl rfl rfl ?_
  refine x_aload_n (pc' := 7) rfl rfl rfl rfl rfl ?_
  refine x_iload_n (pc' := 8) rfl rfl rfl ?_
  refine x_if (a' := 15) (pc' := 11) (z := true) rfl rfl rfl (by decide) (fun _ => ?_) (fun h => by cases h)
  refine x_iload_n (pc' := 16) rfl rfl rfl ?_
  refine x_iconst (pc' := 17) rfl rfl ?_
  refine x_iconst (pc' := 18) rfl rfl ?_
  refine x_cs (ls0 := [_, _, _]) (rest := [_]) rfl rfl rfl rfl ?_
  refine x_iload_n (pc' := 1) rfl rfl rfl ?_
  refine x_iload_n (pc' := 2) rfl rfl rfl ?_
  refine x_icmp (a' := 14) (pc' := 5) (z := decide (p < 0)) rfl rfl rfl rfl (fun q4 => ?_) (fun q4 => ?_)
  · refine x_iconst (pc' := 15) rfl rfl ?_
    refine x_retz (z := false) rfl rfl ?_
    refine sK_i (pc' := 21) rfl ?_
    refine x_if (a' := 28) (pc' := 24) (z := true) rfl rfl rfl (by decide) (fun _ => ?_) (fun h => by cases h)
    refine x_iconst (pc' := 29) rfl rfl ?_
    refine x_cv (ls0 := [_, _]) (rest := []) rfl rfl rfl rfl rfl ?_
    refine x_aload_n (pc' := 1) rfl rfl rfl rfl rfl ?_
    refine x_iload_n (pc' := 2) rfl rfl rfl ?_
    refine x_pI (pc' := 5) rfl rfl rfl ?_
    refine x_iload_n (pc' := 6) rfl rfl rfl ?_
    refine x_if (a' := 13) (pc' := 9) (z := true) rfl rfl rfl (by decide) (fun _ => ?_) (fun h => by cases h)
    refine x_iconst (pc' := 14) rfl rfl ?_
    refine x_retz (z := false) rfl rfl ?_
    refine sK_i (pc' := 32) rfl ?_
    refine x_if (a' := 37) (pc' := 35) (z := false) rfl rfl rfl (by decide) (fun h => by cases h) (fun _ => ?_)
    refine x_iconst (pc' := 36) rfl rfl ?_
    refine x_reti rfl rfl ?_
    exact k0 (of_decide_eq_true q4)
  · refine x_iload_n (pc' := 6) rfl rfl rfl ?_
    refine x_iload_n (pc' := 7) rfl rfl rfl ?_
    refine x_icmp (a' := 14) (pc' := 10) (z := decide (5 < p)) rfl rfl rfl rfl (fun q8 => ?_) (fun q8 => ?_)
    · refine x_iconst (pc' := 15) rfl rfl ?_
      refine x_retz (z := false) rfl rfl ?_
      refine sK_i (pc' := 21) rfl ?_
      refine x_if (a' := 28) (pc' := 24) (z := true) rfl rfl rfl (by decide) (fun _ => ?_) (fun h => by cases h)
      refine x_iconst (pc' := 29) rfl rfl ?_
      refine x_cv (ls0 := [_, _]) (rest := []) rfl rfl rfl rfl rfl ?_
      refine x_aload_n (pc' := 1) rfl rfl rfl rfl rfl ?_
      refine x_iload_n (pc' := 2) rfl rfl rfl ?_
      refine x_pI (pc' := 5) rfl rfl rfl ?_
      refine x_iload_n (pc' := 6) rfl rfl rfl ?_
      refine x_if (a' := 13) (pc' := 9) (z := true) rfl rfl rfl (by decide) (fun _ => ?_) (fun h => by cases h)
      refine x_iconst (pc' := 14) rfl rfl ?_
      refine x_retz (z := false) rfl rfl ?_
      refine sK_i (pc' := 32) rfl ?_
      refine x_if (a' := 37) (pc' := 35) (z := false) rfl rfl rfl (by decide) (fun h => by cases h) (fun _ => ?_)
      refine x_iconst (pc' := 36) rfl rfl ?_
      refine x_reti rfl rfl ?_
      exact k1 (of_decide_eq_false q4) (of_decide_eq_true q8)
    · refine x_iconst (pc' := 11) rfl rfl ?_
      refine x_goto (pc' := 15) rfl rfl ?_
      refine x_retz (z := true) rfl rfl ?_
      refine sK_i (pc' := 21) rfl ?_
      refine x_if (a' := 28) (pc' := 24) (z := false) rfl rfl rfl (by decide) (fun h => by cases h) (fun _ => ?_)
      refine x_iconst (pc' := 25) rfl rfl ?_
      refine x_goto (pc' := 29) rfl rfl ?_
      refine x_cv (ls0 := [_, _]) (rest := []) rfl rfl rfl rfl rfl ?_
      refine x_aload_n (pc' := 1) rfl rfl rfl rfl rfl ?_
      refine x_iload_n (pc' := 2) rfl rfl rfl ?_
      refine x_pI (pc' := 5) rfl rfl rfl ?_
      refine x_iload_n (pc' := 6) rfl rfl rfl ?_
      refine x_if (a' := 13) (pc' := 9) (z := false) rfl rfl rfl (by decide) (fun h => by cases h) (fun _ => ?_)
      refine x_iconst (pc' := 10) rfl rfl ?_
      refine x_goto (pc' := 14) rfl rfl ?_
      refine x_retz (z := true) rfl rfl ?_
      refine sK_i (pc' := 32) rfl ?_
      refine x_if (a' := 37) (pc' := 35) (z := true) rfl rfl rfl (by decide) (fun _ => ?_) (fun h => by cases h)
      refine x_iload_n (pc' := 38) rfl rfl rfl ?_
      refine x_if_n (a' := 50) (pc' := 41) (z := decide (p = 0)) rfl rfl rfl (ik_ne _ _) (fun q15 => ?_) (fun q15 => ?_)
      · refine x_iload_n (pc' := 51) rfl rfl rfl ?_
        refine x_iconst (pc' := 52) rfl rfl ?_
        refine x_icmp_n (a' := 64) (pc' := 55) (z := decide (p = 1)) rfl rfl rfl (ik_ne _ _) (fun q16 => ?_) (fun q16 => ?_)
        · refine x_iload_n (pc' := 65) rfl rfl rfl ?_
          refine x_iconst (pc' := 66) rfl rfl ?_
          refine x_icmp_n (a' := 78) (pc' := 69) (z := decide (p = 2)) rfl rfl rfl (ik_ne _ _) (fun q17 => ?_) (fun q17 => ?_)
          · refine x_iload_n (pc' := 79) rfl rfl rfl ?_
            refine x_iconst (pc' := 80) rfl rfl ?_
            refine x_icmp_n (a' := 92) (pc' := 83) (z := decide (p = 3)) rfl rfl rfl (ik_ne _ _) (fun q18 => ?_) (fun q18 => ?_)
            · refine x_iload_n (pc' := 93) rfl rfl rfl ?_
              refine x_iconst (pc' := 94) rfl rfl ?_
              refine x_icmp_n (a' := 106) (pc' := 97) (z := decide (p = 4)) rfl rfl rfl (ik_ne _ _) (fun q19 => ?_) (fun q19 => ?_)
              · refine x_aload_n (pc' := 107) rfl rfl rfl rfl rfl ?_
                refine x_gR (pc' := 110) (r := (some 7)) rfl rfl rfl (Eq.trans (b := sR t 807 0) rfl (kR_807_0 hc)) ?_
                refine x_iload_n (pc' := 111) rfl rfl rfl ?_
                refine x_bald (pc' := 112) (N := 4096) (z := (mB M 7 o)) rfl rfl (Eq.trans rdNI (kN_22_7 hc)) (io_in (p := o) (N := 4096) (Nat.lt_trans ho hT4) (by decide)) (Eq.trans (congrArg (sB (sIw t 768 0 0) 22 7) (nn_io (p := o) (Nat.lt_trans (Nat.lt_trans ho hT4) (by decide)))) (Eq.trans (b := sB t 22 7 o) rfl (gB hM))) ?_
                refine x_ifeq_z (a' := 119) (pc' := 115) (z := (mB M 7 o)) rfl rfl rfl (fun q20 => ?_) (fun q20 => ?_)
                · refine x_iconst (pc' := 120) rfl rfl ?_
                  refine x_reti rfl rfl ?_
                  exact k2 (of_decide_eq_false q4) (of_decide_eq_false q8) (of_decide_eq_false q15) (of_decide_eq_false q16) (of_decide_eq_false q17) (of_decide_eq_false q18) (of_decide_eq_false q19) q20
                · refine x_iconst (pc' := 116) rfl rfl ?_
                  refine x_goto (pc' := 120) rfl rfl ?_
                  refine x_reti rfl rfl ?_
                  exact k3 (of_decide_eq_false q4) (of_decide_eq_false q8) (of_decide_eq_false q15) (of_decide_eq_false q16) (of_decide_eq_false q17) (of_decide_eq_false q18) (of_decide_eq_false q19) q20
              · refine x_aload_n (pc' := 98) rfl rfl rfl rfl rfl ?_
                refine x_gR (pc' := 101) (r := (some 25)) rfl rfl rfl (Eq.trans (b := sR t 806 0) rfl (kR_806_0 hc)) ?_
                refine x_iload_n (pc' := 102) rfl rfl rfl ?_
                refine x_iald (pc' := 103) (N := 4096) (x := (mA M 25 o)) rfl rfl rfl (Eq.trans rdNI (kN_21_25 hc)) (io_in (p := o) (N := 4096) (Nat.lt_trans ho hT4) (by decide)) (Eq.trans (congrArg (sA (sIw t 768 0 0) 21 25) (nn_io (p := o) (Nat.lt_trans (Nat.lt_trans ho hT4) (by decide)))) (Eq.trans (b := sA t 21 25 o) rfl (gA hM rfl))) ?_
                refine x_goto (pc' := 120) rfl rfl ?_
                refine x_reti rfl rfl ?_
                exact k4 (of_decide_eq_false q4) (of_decide_eq_false q8) (of_decide_eq_false q15) (of_decide_eq_false q16) (of_decide_eq_false q17) (of_decide_eq_false q18) (of_decide_eq_true q19)
            · refine x_aload_n (pc' := 84) rfl rfl rfl rfl rfl ?_
              refine x_gR (pc' := 87) (r := (some 24)) rfl rfl rfl (Eq.trans (b := sR t 805 0) rfl (kR_805_0 hc)) ?_
              refine x_iload_n (pc' := 88) rfl rfl rfl ?_
              refine x_iald (pc' := 89) (N := 4096) (x := (mA M 24 o)) rfl rfl rfl (Eq.trans rdNI (kN_21_24 hc)) (io_in (p := o) (N := 4096) (Nat.lt_trans ho hT4) (by decide)) (Eq.trans (congrArg (sA (sIw t 768 0 0) 21 24) (nn_io (p := o) (Nat.lt_trans (Nat.lt_trans ho hT4) (by decide)))) (Eq.trans (b := sA t 21 24 o) rfl (gA hM rfl))) ?_
              refine x_goto (pc' := 120) rfl rfl ?_
              refine x_reti rfl rfl ?_
              exact k5 (of_decide_eq_false q4) (of_decide_eq_false q8) (of_decide_eq_false q15) (of_decide_eq_false q16) (of_decide_eq_false q17) (of_decide_eq_true q18)
          · refine x_aload_n (pc' := 70) rfl rfl rfl rfl rfl ?_
            refine x_gR (pc' := 73) (r := (some 23)) rfl rfl rfl (Eq.trans (b := sR t 804 0) rfl (kR_804_0 hc)) ?_
            refine x_iload_n (pc' := 74) rfl rfl rfl ?_
            refine x_iald (pc' := 75) (N := 4096) (x := (mA M 23 o)) rfl rfl rfl (Eq.trans rdNI (kN_21_23 hc)) (io_in (p := o) (N := 4096) (Nat.lt_trans ho hT4) (by decide)) (Eq.trans (congrArg (sA (sIw t 768 0 0) 21 23) (nn_io (p := o) (Nat.lt_trans (Nat.lt_trans ho hT4) (by decide)))) (Eq.trans (b := sA t 21 23 o) rfl (gA hM rfl))) ?_
            refine x_goto (pc' := 120) rfl rfl ?_
            refine x_reti rfl rfl ?_
            exact k6 (of_decide_eq_false q4) (of_decide_eq_false q8) (of_decide_eq_false q15) (of_decide_eq_false q16) (of_decide_eq_true q17)
        · refine x_aload_n (pc' := 56) rfl rfl rfl rfl rfl ?_
          refine x_gR (pc' := 59) (r := (some 22)) rfl rfl rfl (Eq.trans (b := sR t 803 0) rfl (kR_803_0 hc)) ?_
          refine x_iload_n (pc' := 60) rfl rfl rfl ?_
          refine x_iald (pc' := 61) (N := 4096) (x := (mA M 22 o)) rfl rfl rfl (Eq.trans rdNI (kN_21_22 hc)) (io_in (p := o) (N := 4096) (Nat.lt_trans ho hT4) (by decide)) (Eq.trans (congrArg (sA (sIw t 768 0 0) 21 22) (nn_io (p := o) (Nat.lt_trans (Nat.lt_trans ho hT4) (by decide)))) (Eq.trans (b := sA t 21 22 o) rfl (gA hM rfl))) ?_
          refine x_goto (pc' := 120) rfl rfl ?_
          refine x_reti rfl rfl ?_
          exact k7 (of_decide_eq_false q4) (of_decide_eq_false q8) (of_decide_eq_false q15) (of_decide_eq_true q16)
      · refine x_aload_n (pc' := 42) rfl rfl rfl rfl rfl ?_
        refine x_gR (pc' := 45) (r := (some 21)) rfl rfl rfl (Eq.trans (b := sR t 802 0) rfl (kR_802_0 hc)) ?_
        refine x_iload_n (pc' := 46) rfl rfl rfl ?_
        refine x_iald (pc' := 47) (N := 4096) (x := (mA M 21 o)) rfl rfl rfl (Eq.trans rdNI (kN_21_21 hc)) (io_in (p := o) (N := 4096) (Nat.lt_trans ho hT4) (by decide)) (Eq.trans (congrArg (sA (sIw t 768 0 0) 21 21) (nn_io (p := o) (Nat.lt_trans (Nat.lt_trans ho hT4) (by decide)))) (Eq.trans (b := sA t 21 21 o) rfl (gA hM rfl))) ?_
        refine x_goto (pc' := 120) rfl rfl ?_
        refine x_reti rfl rfl ?_
        exact k8 (of_decide_eq_false q4) (of_decide_eq_false q8) (of_decide_eq_true q15)
set_option maxHeartbeats 4000000 in
set_option maxRecDepth 10000 in
theorem r233_x0 {t : sT} {Q : sRs → sT → Prop} {M : sM} {n : Nat} {T : Nat} {x : Int32} {p : Int32}
    (hV : Vr t M n)
    (hT : mI M 801 = io T)
    (hT4 : T < 4096)
    (hp : ixo x T = none)
    (k0 : Q (.inl (some (.inl 0))) (sIw t 768 0 1)) :
    X 233 0 [.inr (.inr (12, (some 0))), .inl x, .inl p, sJk] [] t Q := by
  obtain ⟨hM, hc, hR⟩ := hV
  refine x_aload_n (pc' := 1) rfl rfl rfl rfl rfl ?_
  refine x_iload_n (pc' := 2) rfl rfl rfl ?_
  refine x_cv (ls0 := [_, _]) (rest := []) rfl rfl rfl rfl rfl ?_
  refine x_iload_n (pc' := 1) rfl rfl rfl ?_
  refine x_iconst (pc' := 2) rfl rfl ?_
  refine x_aload_n (pc' := 3) rfl rfl rfl rfl rfl ?_
  refine x_gI (pc' := 6) (x := (io T)) rfl rfl rfl ((gI hM rfl).trans hT) ?_
  refine x_iconst (pc' := 7) rfl rfl ?_
  refine x_isub (pc' := 8) (z := ((io T) - 1)) rfl rfl rfl ?_
  refine x_cs (ls0 := [_, _, _]) (rest := []) rfl rfl rfl rfl ?_
  refine r145_xg (ixo_x1 (Nat.lt_trans hT4 (by decide)) hp) ?_
  refine sK_i (pc' := 11) rfl ?_
  refine x_retz (z := false) rfl rfl ?_
  refine sK_i (pc' := 5) rfl ?_
  refine x_istore_n (pc' := 6) (ls' := [_, _, _, _]) rfl rfl rfl rfl ?_
  refine x_aload_n (pc' := 7) rfl rfl rfl rfl rfl ?_
  refine x_iload_n (pc' := 8) rfl rfl rfl ?_
  refine x_if (a' := 15) (pc' := 11) (z := false) rfl rfl rfl (by decide) (fun h => by cases h) (fun _ => ?_)
  refine x_iconst (pc' := 12) rfl rfl ?_
  refine x_goto (pc' := 29) rfl rfl ?_
  refine x_cv (ls0 := [_, _]) (rest := []) rfl rfl rfl rfl rfl ?_
  refine x_aload_n (pc' := 1) rfl rfl rfl rfl rfl ?_
  refine x_iload_n (pc' := 2) rfl rfl rfl ?_
  refine x_pI (pc' := 5) rfl rfl rfl ?_
  refine x_iload_n (pc' := 6) rfl rfl rfl ?_
  refine x_if (a' := 13) (pc' := 9) (z := true) rfl rfl rfl (by decide) (fun _ => ?_) (fun h => by cases h)
  refine x_iconst (pc' := 14) rfl rfl ?_
  refine x_retz (z := false) rfl rfl ?_
  refine sK_i (pc' := 32) rfl ?_
  refine x_if (a' := 37) (pc' := 35) (z := false) rfl rfl rfl (by decide) (fun h => by cases h) (fun _ => ?_)
  refine x_iconst (pc' := 36) rfl rfl ?_
  refine x_reti rfl rfl ?_
  exact k0
set_option maxHeartbeats 4000000 in
set_option maxRecDepth 10000 in
theorem r234 {t : sT} {Q : sRs → sT → Prop} {M : sM} {n : Nat} {m : Nat} {c : Nat}
    (hV : Vr t M n)
    (hm : m < 6)
    (hc3 : c < 3)
    (k0 : Q (.inl (some (.inl (mA M 6 ((3 * m) + c))))) (sIw t 768 0 0)) :
    X 234 0 [.inr (.inr (12, (some 0))), .inl (io m), .inl (io c)] [] t Q := by
  obtain ⟨hM, hc, hR⟩ := hV
  refine x_aload_n (pc' := 1) rfl rfl rfl rfl rfl ?_
  refine x_iload_n (pc' := 2) rfl rfl rfl ?_
  refine x_cs (ls0 := [_]) (rest := [_]) rfl rfl rfl rfl ?_
  refine x_iload_n (pc' := 1) rfl rfl rfl ?_
  refine x_iconst (pc' := 2) rfl rfl ?_
  refine x_iconst (pc' := 3) rfl rfl ?_
  refine x_cs (ls0 := [_, _, _]) (rest := []) rfl rfl rfl rfl ?_
  refine x_iload_n (pc' := 1) rfl rfl rfl ?_
  refine x_iload_n (pc' := 2) rfl rfl rfl ?_
  refine x_icmp (a' := 14) (pc' := 5) (z := decide (m < 0)) rfl rfl rfl (ic_lt (p := m) (q := 0) (gm31 hm) (by decide)) (fun h => absurd (of_decide_eq_true h) (by first | decide | omega | simp)) (fun _ => ?_)
  refine x_iload_n (pc' := 6) rfl rfl rfl ?_
  refine x_iload_n (pc' := 7) rfl rfl rfl ?_
  refine x_icmp (a' := 14) (pc' := 10) (z := decide (5 < m)) rfl rfl rfl (ic_gt (p := m) (q := 5) (gm31 hm) (by decide)) (fun h => absurd (of_decide_eq_true h) (show ¬ 5 < m by omega)) (fun _ => ?_)
  refine x_iconst (pc' := 11) rfl rfl ?_
  refine x_goto (pc' := 15) rfl rfl ?_
  refine x_retz (z := true) rfl rfl ?_
  refine sK_i (pc' := 6) rfl ?_
  refine x_retz (z := true) rfl rfl ?_
  refine sK_i (pc' := 5) rfl ?_
  refine x_if (a' := 19) (pc' := 8) (z := false) rfl rfl rfl (by decide) (fun h => by cases h) (fun _ => ?_)
  refine x_iload_n (pc' := 9) rfl rfl rfl ?_
  refine x_cs (ls0 := [_]) (rest := [_]) rfl rfl rfl rfl ?_
  refine x_iload_n (pc' := 1) rfl rfl rfl ?_
  refine x_iconst (pc' := 2) rfl rfl ?_
  refine x_iconst (pc' := 3) rfl rfl ?_
  refine x_cs (ls0 := [_, _, _]) (rest := []) rfl rfl rfl rfl ?_
  refine x_iload_n (pc' := 1) rfl rfl rfl ?_
  refine x_iload_n (pc' := 2) rfl rfl rfl ?_
  refine x_icmp (a' := 14) (pc' := 5) (z := decide (c < 0)) rfl rfl rfl (ic_lt (p := c) (q := 0) (gc31 hc3) (by decide)) (fun h => absurd (of_decide_eq_true h) (by first | decide | omega | simp)) (fun _ => ?_)
  refine x_iload_n (pc' := 6) rfl rfl rfl ?_
  refine x_iload_n (pc' := 7) rfl rfl rfl ?_
  refine x_icmp (a' := 14) (pc' := 10) (z := decide (2 < c)) rfl rfl rfl (ic_gt (p := c) (q := 2) (gc31 hc3) (by decide)) (fun h => absurd (of_decide_eq_true h) (show ¬ 2 < c by omega)) (fun _ => ?_)
  refine x_iconst (pc' := 11) rfl rfl ?_
  refine x_goto (pc' := 15) rfl rfl ?_
  refine x_retz (z := true) rfl rfl ?_
  refine sK_i (pc' := 6) rfl ?_
  refine x_retz (z := true) rfl rfl ?_
  refine sK_i (pc' := 12) rfl ?_
  refine x_if (a' := 19) (pc' := 15) (z := false) rfl rfl rfl (by decide) (fun h => by cases h) (fun _ => ?_)
  refine x_iconst (pc' := 16) rfl rfl ?_
  refine x_goto (pc' := 20) rfl rfl ?_
  refine x_cv (ls0 := [_, _]) (rest := []) rfl rfl rfl rfl rfl ?_
  refine x_aload_n (pc' := 1) rfl rfl rfl rfl rfl ?_
  refine x_iload_n (pc' := 2) rfl rfl rfl ?_
  refine x_pI (pc' := 5) rfl rfl rfl ?_
  refine x_iload_n (pc' := 6) rfl rfl rfl ?_
  refine x_if (a' := 13) (pc' := 9) (z := false) rfl rfl rfl (by decide) (fun h => by cases h) (fun _ => ?_)
  refine x_iconst (pc' := 10) rfl rfl ?_
  refine x_goto (pc' := 14) rfl rfl ?_
  refine x_retz (z := true) rfl rfl ?_
  refine sK_i (pc' := 23) rfl ?_
  refine x_if (a' := 39) (pc' := 26) (z := false) rfl rfl rfl (by decide) (fun h => by cases h) (fun _ => ?_)
  refine x_aload_n (pc' := 27) rfl rfl rfl rfl rfl ?_
  refine x_gR (pc' := 30) (r := (some 6)) rfl rfl rfl (Eq.trans (b := sR t 776 0) rfl (kR_776_0 hc)) ?_
  refine x_iconst (pc' := 31) rfl rfl ?_
  refine x_iload_n (pc' := 32) rfl rfl rfl ?_
  refine x_imul (pc' := 33) (z := (io (3 * m))) rfl rfl (io_mul 3 m) ?_
  refine x_iload_n (pc' := 34) rfl rfl rfl ?_
  refine x_iadd (pc' := 35) (z := (io ((3 * m) + c))) rfl rfl (io_add (3 * m) c) ?_
  refine x_iald (pc' := 36) (N := 18) (x := (mA M 6 ((3 * m) + c))) rfl rfl rfl (Eq.trans rdNI (kN_21_6 hc)) (io_in (p := ((3 * m) + c)) (N := 18) (show 3 * m + c < 18 by omega) (by decide)) (Eq.trans (congrArg (sA (sIw t 768 0 0) 21 6) (nn_io (p := ((3 * m) + c)) (Nat.lt_trans (show 3 * m + c < 18 by omega) (by decide)))) (Eq.trans (b := sA t 21 6 ((3 * m) + c)) rfl (gA hM rfl))) ?_
  refine x_goto (pc' := 40) rfl rfl ?_
  refine x_reti rfl rfl ?_
  exact k0
set_option maxHeartbeats 4000000 in
set_option maxRecDepth 10000 in
theorem r234_x0 {t : sT} {Q : sRs → sT → Prop} {M : sM} {n : Nat} {x : Int32} {v1 : Int32}
    (hV : Vr t M n)
    (hp : ixo x 6 = none)
    (k0 : Q (.inl (some (.inl 0))) (sIw t 768 0 1)) :
    X 234 0 [.inr (.inr (12, (some 0))), .inl x, .inl v1] [] t Q := by
  obtain ⟨hM, hc, hR⟩ := hV
  refine x_aload_n (pc' := 1) rfl rfl rfl rfl rfl ?_
  refine x_iload_n (pc' := 2) rfl rfl rfl ?_
  refine x_cs (ls0 := [_]) (rest := [_]) rfl rfl rfl rfl ?_
  refine x_iload_n (pc' := 1) rfl rfl rfl ?_
  refine x_iconst (pc' := 2) rfl rfl ?_
  refine x_iconst (pc' := 3) rfl rfl ?_
  refine x_cs (ls0 := [_, _, _]) (rest := []) rfl rfl rfl rfl ?_
  refine r145_xg (ixo_c6 hp) ?_
  refine sK_i (pc' := 6) rfl ?_
  refine x_retz (z := false) rfl rfl ?_
  refine sK_i (pc' := 5) rfl ?_
  refine x_if (a' := 19) (pc' := 8) (z := true) rfl rfl rfl (by decide) (fun _ => ?_) (fun h => by cases h)
  refine x_iconst (pc' := 20) rfl rfl ?_
  refine x_cv (ls0 := [_, _]) (rest := []) rfl rfl rfl rfl rfl ?_
  refine x_aload_n (pc' := 1) rfl rfl rfl rfl rfl ?_
  refine x_iload_n (pc' := 2) rfl rfl rfl ?_
  refine x_pI (pc' := 5) rfl rfl rfl ?_
  refine x_iload_n (pc' := 6) rfl rfl rfl ?_
  refine x_if (a' := 13) (pc' := 9) (z := true) rfl rfl rfl (by decide) (fun _ => ?_) (fun h => by cases h)
  refine x_iconst (pc' := 14) rfl rfl ?_
  refine x_retz (z := false) rfl rfl ?_
  refine sK_i (pc' := 23) rfl ?_
  refine x_if (a' := 39) (pc' := 26) (z := true) rfl rfl rfl (by decide) (fun _ => ?_) (fun h => by cases h)
  refine x_iconst (pc' := 40) rfl rfl ?_
  refine x_reti rfl rfl ?_
  exact k0
set_option maxHeartbeats 4000000 in
set_option maxRecDepth 10000 in
theorem r234_x1 {t : sT} {Q : sRs → sT → Prop} {M : sM} {n : Nat} {m : Nat} {x : Int32}
    (hV : Vr t M n)
    (hm : m < 6)
    (hp : ixo x 3 = none)
    (k0 : Q (.inl (some (.inl 0))) (sIw t 768 0 1)) :
    X 234 0 [.inr (.inr (12, (some 0))), .inl (io m), .inl x] [] t Q := by
  obtain ⟨hM, hc, hR⟩ := hV
  refine x_aload_n (pc' := 1) rfl rfl rfl rfl rfl ?_
  refine x_iload_n (pc' := 2) rfl rfl rfl ?_
  refine x_cs (ls0 := [_]) (rest := [_]) rfl rfl rfl rfl ?_
  refine x_iload_n (pc' := 1) rfl rfl rfl ?_
  refine x_iconst (pc' := 2) rfl rfl ?_
  refine x_iconst (pc' := 3) rfl rfl ?_
  refine x_cs (ls0 := [_, _, _]) (rest := []) rfl rfl rfl rfl ?_
  refine x_iload_n (pc' := 1) rfl rfl rfl ?_
  refine x_iload_n (pc' := 2) rfl rfl rfl ?_
  refine x_icmp (a' := 14) (pc' := 5) (z := decide (m < 0)) rfl rfl rfl (ic_lt (p := m) (q := 0) (gm31 hm) (by decide)) (fun h => absurd (of_decide_eq_true h) (by first | decide | omega | simp)) (fun _ => ?_)
  refine x_iload_n (pc' := 6) rfl rfl rfl ?_
  refine x_iload_n (pc' := 7) rfl rfl rfl ?_
  refine x_icmp (a' := 14) (pc' := 10) (z := decide (5 < m)) rfl rfl rfl (ic_gt (p := m) (q := 5) (gm31 hm) (by decide)) (fun h => absurd (of_decide_eq_true h) (show ¬ 5 < m by omega)) (fun _ => ?_)
  refine x_iconst (pc' := 11) rfl rfl ?_
  refine x_goto (pc' := 15) rfl rfl ?_
  refine x_retz (z := true) rfl rfl ?_
  refine sK_i (pc' := 6) rfl ?_
  refine x_retz (z := true) rfl rfl ?_
  refine sK_i (pc' := 5) rfl ?_
  refine x_if (a' := 19) (pc' := 8) (z := false) rfl rfl rfl (by decide) (fun h => by cases h) (fun _ => ?_)
  refine x_iload_n (pc' := 9) rfl rfl rfl ?_
  refine x_cs (ls0 := [_]) (rest := [_]) rfl rfl rfl rfl ?_
  refine x_iload_n (pc' := 1) rfl rfl rfl ?_
  refine x_iconst (pc' := 2) rfl rfl ?_
  refine x_iconst (pc' := 3) rfl rfl ?_
  refine x_cs (ls0 := [_, _, _]) (rest := []) rfl rfl rfl rfl ?_
  refine r145_xg (ixo_c3 hp) ?_
  refine sK_i (pc' := 6) rfl ?_
  refine x_retz (z := false) rfl rfl ?_
  refine sK_i (pc' := 12) rfl ?_
  refine x_if (a' := 19) (pc' := 15) (z := true) rfl rfl rfl (by decide) (fun _ => ?_) (fun h => by cases h)
  refine x_iconst (pc' := 20) rfl rfl ?_
  refine x_cv (ls0 := [_, _]) (rest := []) rfl rfl rfl rfl rfl ?_
  refine x_aload_n (pc' := 1) rfl rfl rfl rfl rfl ?_
  refine x_iload_n (pc' := 2) rfl rfl rfl ?_
  refine x_pI (pc' := 5) rfl rfl rfl ?_
  refine x_iload_n (pc' := 6) rfl rfl rfl ?_
  refine x_if (a' := 13) (pc' := 9) (z := true) rfl rfl rfl (by decide) (fun _ => ?_) (fun h => by cases h)
  refine x_iconst (pc' := 14) rfl rfl ?_
  refine x_retz (z := false) rfl rfl ?_
  refine sK_i (pc' := 23) rfl ?_
  refine x_if (a' := 39) (pc' := 26) (z := true) rfl rfl rfl (by decide) (fun _ => ?_) (fun h => by cases h)
  refine x_iconst (pc' := 40) rfl rfl ?_
  refine x_reti rfl rfl ?_
  exact k0
set_option maxHeartbeats 4000000 in
set_option maxRecDepth 10000 in
theorem r235 {t : sT} {Q : sRs → sT → Prop} {M : sM} {n : Nat} {T : Nat} {m : Nat} {c : Nat}
    (hV : Vr t M n)
    (hT : mI M 801 = io T)
    (hT4 : T < 4096)
    (hm : m < 6)
    (hc3 : c < 3)
    (k0 : X 235 33 [.inr (.inr (12, (some 0))), .inl (io m), .inl (io c), .inl 0, .inl 0, sJk] [] (sIw t 768 0 0) Q) :
    X 235 0 [.inr (.inr (12, (some 0))), .inl (io m), .inl (io c), sJk, sJk, sJk] [] t Q := by
  obtain ⟨hM, hc, hR⟩ := hV
  refine x_aload_n (pc' := 1) rfl rfl rfl rfl rfl ?_
  refine x_iload_n (pc' := 2) rfl rfl rfl ?_
  refine x_cs (ls0 := [_]) (rest := [_]) rfl rfl rfl rfl ?_
  refine x_iload_n (pc' := 1) rfl rfl rfl ?_
  refine x_iconst (pc' := 2) rfl rfl ?_
  refine x_iconst (pc' := 3) rfl rfl ?_
  refine x_cs (ls0 := [_, _, _]) (rest := []) rfl rfl rfl rfl ?_
  refine x_iload_n (pc' := 1) rfl rfl rfl ?_
  refine x_iload_n (pc' := 2) rfl rfl rfl ?_
  refine x_icmp (a' := 14) (pc' := 5) (z := decide (m < 0)) rfl rfl rfl (ic_lt (p := m) (q := 0) (gm31 hm) (by decide)) (fun h => absurd (of_decide_eq_true h) (by first | decide | omega | simp)) (fun _ => ?_)
  refine x_iload_n (pc' := 6) rfl rfl rfl ?_
  refine x_iload_n (pc' := 7) rfl rfl rfl ?_
  refine x_icmp (a' := 14) (pc' := 10) (z := decide (5 < m)) rfl rfl rfl (ic_gt (p := m) (q := 5) (gm31 hm) (by decide)) (fun h => absurd (of_decide_eq_true h) (show ¬ 5 < m by omega)) (fun _ => ?_)
  refine x_iconst (pc' := 11) rfl rfl ?_
  refine x_goto (pc' := 15) rfl rfl ?_
  refine x_retz (z := true) rfl rfl ?_
  refine sK_i (pc' := 6) rfl ?_
  refine x_retz (z := true) rfl rfl ?_
  refine sK_i (pc' := 5) rfl ?_
  refine x_if (a' := 19) (pc' := 8) (z := false) rfl rfl rfl (by decide) (fun h => by cases h) (fun _ => ?_)
  refine x_iload_n (pc' := 9) rfl rfl rfl ?_
  refine x_cs (ls0 := [_]) (rest := [_]) rfl rfl rfl rfl ?_
  refine x_iload_n (pc' := 1) rfl rfl rfl ?_
  refine x_iconst (pc' := 2) rfl rfl ?_
  refine x_iconst (pc' := 3) rfl rfl ?_
  refine x_cs (ls0 := [_, _, _]) (rest := []) rfl rfl rfl rfl ?_
  refine x_iload_n (pc' := 1) rfl rfl rfl ?_
  refine x_iload_n (pc' := 2) rfl rfl rfl ?_
  refine x_icmp (a' := 14) (pc' := 5) (z := decide (c < 0)) rfl rfl rfl (ic_lt (p := c) (q := 0) (gc31 hc3) (by decide)) (fun h => absurd (of_decide_eq_true h) (by first | decide | omega | simp)) (fun _ => ?_)
  refine x_iload_n (pc' := 6) rfl rfl rfl ?_
  refine x_iload_n (pc' := 7) rfl rfl rfl ?_
  refine x_icmp (a' := 14) (pc' := 10) (z := decide (2 < c)) rfl rfl rfl (ic_gt (p := c) (q := 2) (gc31 hc3) (by decide)) (fun h => absurd (of_decide_eq_true h) (show ¬ 2 < c by omega)) (fun _ => ?_)
  refine x_iconst (pc' := 11) rfl rfl ?_
  refine x_goto (pc' := 15) rfl rfl ?_
  refine x_retz (z := true) rfl rfl ?_
  refine sK_i (pc' := 6) rfl ?_
  refine x_retz (z := true) rfl rfl ?_
  refine sK_i (pc' := 12) rfl ?_
  refine x_if (a' := 19) (pc' := 15) (z := false) rfl rfl rfl (by decide) (fun h => by cases h) (fun _ => ?_)
  refine x_iconst (pc' := 16) rfl rfl ?_
  refine x_goto (pc' := 20) rfl rfl ?_
  refine x_cv (ls0 := [_, _]) (rest := []) rfl rfl rfl rfl rfl ?_
  refine x_aload_n (pc' := 1) rfl rfl rfl rfl rfl ?_
  refine x_iload_n (pc' := 2) rfl rfl rfl ?_
  refine x_pI (pc' := 5) rfl rfl rfl ?_
  refine x_iload_n (pc' := 6) rfl rfl rfl ?_
  refine x_if (a' := 13) (pc' := 9) (z := false) rfl rfl rfl (by decide) (fun h => by cases h) (fun _ => ?_)
  refine x_iconst (pc' := 10) rfl rfl ?_
  refine x_goto (pc' := 14) rfl rfl ?_
  refine x_retz (z := true) rfl rfl ?_
  refine sK_i (pc' := 23) rfl ?_
  refine x_if (a' := 28) (pc' := 26) (z := true) rfl rfl rfl (by decide) (fun _ => ?_) (fun h => by cases h)
  refine x_iconst (pc' := 29) rfl rfl ?_
  refine x_istore_n (pc' := 30) (ls' := [_, _, _, _, _, _]) rfl rfl rfl rfl ?_
  refine x_iconst (pc' := 31) rfl rfl ?_
  refine x_istore (pc' := 33) (ls' := [_, _, _, _, _, _]) rfl rfl rfl rfl ?_
  exact k0
set_option maxHeartbeats 4000000 in
set_option maxRecDepth 10000 in
theorem r235_x0 {t : sT} {Q : sRs → sT → Prop} {M : sM} {n : Nat} {T : Nat} {x : Int32} {v1 : Int32}
    (hV : Vr t M n)
    (hT : mI M 801 = io T)
    (hT4 : T < 4096)
    (hp : ixo x 6 = none)
    (k0 : Q (.inl (some (.inl 0))) (sIw t 768 0 1)) :
    X 235 0 [.inr (.inr (12, (some 0))), .inl x, .inl v1, sJk, sJk, sJk] [] t Q := by
  obtain ⟨hM, hc, hR⟩ := hV
  refine x_aload_n (pc' := 1) rfl rfl rfl rfl rfl ?_
  refine x_iload_n (pc' := 2) rfl rfl rfl ?_
  refine x_cs (ls0 := [_]) (rest := [_]) rfl rfl rfl rfl ?_
  refine x_iload_n (pc' := 1) rfl rfl rfl ?_
  refine x_iconst (pc' := 2) rfl rfl ?_
  refine x_iconst (pc' := 3) rfl rfl ?_
  refine x_cs (ls0 := [_, _, _]) (rest := []) rfl rfl rfl rfl ?_
  refine r145_xg (ixo_c6 hp) ?_
  refine sK_i (pc' := 6) rfl ?_
  refine x_retz (z := false) rfl rfl ?_
  refine sK_i (pc' := 5) rfl ?_
  refine x_if (a' := 19) (pc' := 8) (z := true) rfl rfl rfl (by decide) (fun _ => ?_) (fun h => by cases h)
  refine x_iconst (pc' := 20) rfl rfl ?_
  refine x_cv (ls0 := [_, _]) (rest := []) rfl rfl rfl rfl rfl ?_
  refine x_aload_n (pc' := 1) rfl rfl rfl rfl rfl ?_
  refine x_iload_n (pc' := 2) rfl rfl rfl ?_
  refine x_pI (pc' := 5) rfl rfl rfl ?_
  refine x_iload_n (pc' := 6) rfl rfl rfl ?_
  refine x_if (a' := 13) (pc' := 9) (z := true) rfl rfl rfl (by decide) (fun _ => ?_) (fun h => by cases h)
  refine x_iconst (pc' := 14) rfl rfl ?_
  refine x_retz (z := false) rfl rfl ?_
  refine sK_i (pc' := 23) rfl ?_
  refine x_if (a' := 28) (pc' := 26) (z := false) rfl rfl rfl (by decide) (fun h => by cases h) (fun _ => ?_)
  refine x_iconst (pc' := 27) rfl rfl ?_
  refine x_reti rfl rfl ?_
  exact k0
set_option maxHeartbeats 4000000 in
set_option maxRecDepth 10000 in
theorem r235_x1 {t : sT} {Q : sRs → sT → Prop} {M : sM} {n : Nat} {T : Nat} {m : Nat} {x : Int32}
    (hV : Vr t M n)
    (hT : mI M 801 = io T)
    (hT4 : T < 4096)
    (hm : m < 6)
    (hp : ixo x 3 = none)
    (k0 : Q (.inl (some (.inl 0))) (sIw t 768 0 1)) :
    X 235 0 [.inr (.inr (12, (some 0))), .inl (io m), .inl x, sJk, sJk, sJk] [] t Q := by
  obtain ⟨hM, hc, hR⟩ := hV
  refine x_aload_n (pc' := 1) rfl rfl rfl rfl rfl ?_
  refine x_iload_n (pc' := 2) rfl rfl rfl ?_
  refine x_cs (ls0 := [_]) (rest := [_]) rfl rfl rfl rfl ?_
  refine x_iload_n (pc' := 1) rfl rfl rfl ?_
  refine x_iconst (pc' := 2) rfl rfl ?_
  refine x_iconst (pc' := 3) rfl rfl ?_
  refine x_cs (ls0 := [_, _, _]) (rest := []) rfl rfl rfl rfl ?_
  refine x_iload_n (pc' := 1) rfl rfl rfl ?_
  refine x_iload_n (pc' := 2) rfl rfl rfl ?_
  refine x_icmp (a' := 14) (pc' := 5) (z := decide (m < 0)) rfl rfl rfl (ic_lt (p := m) (q := 0) (gm31 hm) (by decide)) (fun h => absurd (of_decide_eq_true h) (by first | decide | omega | simp)) (fun _ => ?_)
  refine x_iload_n (pc' := 6) rfl rfl rfl ?_
  refine x_iload_n (pc' := 7) rfl rfl rfl ?_
  refine x_icmp (a' := 14) (pc' := 10) (z := decide (5 < m)) rfl rfl rfl (ic_gt (p := m) (q := 5) (gm31 hm) (by decide)) (fun h => absurd (of_decide_eq_true h) (show ¬ 5 < m by omega)) (fun _ => ?_)
  refine x_iconst (pc' := 11) rfl rfl ?_
  refine x_goto (pc' := 15) rfl rfl ?_
  refine x_retz (z := true) rfl rfl ?_
  refine sK_i (pc' := 6) rfl ?_
  refine x_retz (z := true) rfl rfl ?_
  refine sK_i (pc' := 5) rfl ?_
  refine x_if (a' := 19) (pc' := 8) (z := false) rfl rfl rfl (by decide) (fun h => by cases h) (fun _ => ?_)
  refine x_iload_n (pc' := 9) rfl rfl rfl ?_
  refine x_cs (ls0 := [_]) (rest := [_]) rfl rfl rfl rfl ?_
  refine x_iload_n (pc' := 1) rfl rfl rfl ?_
  refine x_iconst (pc' := 2) rfl rfl ?_
  refine x_iconst (pc' := 3) rfl rfl ?_
  refine x_cs (ls0 := [_, _, _]) (rest := []) rfl rfl rfl rfl ?_
  refine r145_xg (ixo_c3 hp) ?_
  refine sK_i (pc' := 6) rfl ?_
  refine x_retz (z := false) rfl rfl ?_
  refine sK_i (pc' := 12) rfl ?_
  refine x_if (a' := 19) (pc' := 15) (z := true) rfl rfl rfl (by decide) (fun _ => ?_) (fun h => by cases h)
  refine x_iconst (pc' := 20) rfl rfl ?_
  refine x_cv (ls0 := [_, _]) (rest := []) rfl rfl rfl rfl rfl ?_
  refine x_aload_n (pc' := 1) rfl rfl rfl rfl rfl ?_
  refine x_iload_n (pc' := 2) rfl rfl rfl ?_
  refine x_pI (pc' := 5) rfl rfl rfl ?_
  refine x_iload_n (pc' := 6) rfl rfl rfl ?_
  refine x_if (a' := 13) (pc' := 9) (z := true) rfl rfl rfl (by decide) (fun _ => ?_) (fun h => by cases h)
  refine x_iconst (pc' := 14) rfl rfl ?_
  refine x_retz (z := false) rfl rfl ?_
  refine sK_i (pc' := 23) rfl ?_
  refine x_if (a' := 28) (pc' := 26) (z := false) rfl rfl rfl (by decide) (fun h => by cases h) (fun _ => ?_)
  refine x_iconst (pc' := 27) rfl rfl ?_
  refine x_reti rfl rfl ?_
  exact k0
set_option maxHeartbeats 4000000 in
set_option maxRecDepth 10000 in
theorem r237 {t : sT} {Q : sRs → sT → Prop} {M : sM} {n : Nat} {m : Nat}
    (hV : Vr t M n)
    (hm : m < 6)
    (k0 : Q (.inl (some (.inl (mA M 5 m)))) (sIw t 768 0 0)) :
    X 237 0 [.inr (.inr (12, (some 0))), .inl (io m)] [] t Q := by
  obtain ⟨hM, hc, hR⟩ := hV
  refine x_aload_n (pc' := 1) rfl rfl rfl rfl rfl ?_
  refine x_iload_n (pc' := 2) rfl rfl rfl ?_
  refine x_cv (ls0 := [_, _]) (rest := []) rfl rfl rfl rfl rfl ?_
  refine x_aload_n (pc' := 1) rfl rfl rfl rfl rfl ?_
  refine x_iload_n (pc' := 2) rfl rfl rfl ?_
  refine x_cs (ls0 := [_]) (rest := [_]) rfl rfl rfl rfl ?_
  refine x_iload_n (pc' := 1) rfl rfl rfl ?_
  refine x_iconst (pc' := 2) rfl rfl ?_
  refine x_iconst (pc' := 3) rfl rfl ?_
  refine x_cs (ls0 := [_, _, _]) (rest := []) rfl rfl rfl rfl ?_
  refine x_iload_n (pc' := 1) rfl rfl rfl ?_
  refine x_iload_n (pc' := 2) rfl rfl rfl ?_
  refine x_icmp (a' := 14) (pc' := 5) (z := decide (m < 0)) rfl rfl rfl (ic_lt (p := m) (q := 0) (gm31 hm) (by decide)) (fun h => absurd (of_decide_eq_true h) (by first | decide | omega | simp)) (fun _ => ?_)
  refine x_iload_n (pc' := 6) rfl rfl rfl ?_
  refine x_iload_n (pc' := 7) rfl rfl rfl ?_
  refine x_icmp (a' := 14) (pc' := 10) (z := decide (5 < m)) rfl rfl rfl (ic_gt (p := m) (q := 5) (gm31 hm) (by decide)) (fun h => absurd (of_decide_eq_true h) (show ¬ 5 < m by omega)) (fun _ => ?_)
  refine x_iconst (pc' := 11) rfl rfl ?_
  refine x_goto (pc' := 15) rfl rfl ?_
  refine x_retz (z := true) rfl rfl ?_
  refine sK_i (pc' := 6) rfl ?_
  refine x_retz (z := true) rfl rfl ?_
  refine sK_i (pc' := 5) rfl ?_
  refine x_if (a' := 12) (pc' := 8) (z := false) rfl rfl rfl (by decide) (fun h => by cases h) (fun _ => ?_)
  refine x_iconst (pc' := 9) rfl rfl ?_
  refine x_goto (pc' := 13) rfl rfl ?_
  refine x_cv (ls0 := [_, _]) (rest := []) rfl rfl rfl rfl rfl ?_
  refine x_aload_n (pc' := 1) rfl rfl rfl rfl rfl ?_
  refine x_iload_n (pc' := 2) rfl rfl rfl ?_
  refine x_pI (pc' := 5) rfl rfl rfl ?_
  refine x_iload_n (pc' := 6) rfl rfl rfl ?_
  refine x_if (a' := 13) (pc' := 9) (z := false) rfl rfl rfl (by decide) (fun h => by cases h) (fun _ => ?_)
  refine x_iconst (pc' := 10) rfl rfl ?_
  refine x_goto (pc' := 14) rfl rfl ?_
  refine x_retz (z := true) rfl rfl ?_
  refine sK_i (pc' := 16) rfl ?_
  refine x_retz (z := true) rfl rfl ?_
  refine sK_i (pc' := 5) rfl ?_
  refine x_if (a' := 17) (pc' := 8) (z := false) rfl rfl rfl (by decide) (fun h => by cases h) (fun _ => ?_)
  refine x_aload_n (pc' := 9) rfl rfl rfl rfl rfl ?_
  refine x_gR (pc' := 12) (r := (some 5)) rfl rfl rfl (Eq.trans (b := sR t 775 0) rfl (kR_775_0 hc)) ?_
  refine x_iload_n (pc' := 13) rfl rfl rfl ?_
  refine x_iald (pc' := 14) (N := 6) (x := (mA M 5 m)) rfl rfl rfl (Eq.trans rdNI (kN_21_5 hc)) (io_in (p := m) (N := 6) hm (by decide)) (Eq.trans (congrArg (sA (sIw t 768 0 0) 21 5) (nn_io (p := m) (Nat.lt_trans hm (by decide)))) (Eq.trans (b := sA t 21 5 m) rfl (gA hM rfl))) ?_
  refine x_goto (pc' := 18) rfl rfl ?_
  refine x_reti rfl rfl ?_
  exact k0
set_option maxHeartbeats 4000000 in
set_option maxRecDepth 10000 in
theorem r237_x0 {t : sT} {Q : sRs → sT → Prop} {M : sM} {n : Nat} {x : Int32}
    (hV : Vr t M n)
    (hp : ixo x 6 = none)
    (k0 : Q (.inl (some (.inl 0))) (sIw t 768 0 1)) :
    X 237 0 [.inr (.inr (12, (some 0))), .inl x] [] t Q := by
  obtain ⟨hM, hc, hR⟩ := hV
  refine x_aload_n (pc' := 1) rfl rfl rfl rfl rfl ?_
  refine x_iload_n (pc' := 2) rfl rfl rfl ?_
  refine x_cv (ls0 := [_, _]) (rest := []) rfl rfl rfl rfl rfl ?_
  refine x_aload_n (pc' := 1) rfl rfl rfl rfl rfl ?_
  refine x_iload_n (pc' := 2) rfl rfl rfl ?_
  refine x_cs (ls0 := [_]) (rest := [_]) rfl rfl rfl rfl ?_
  refine x_iload_n (pc' := 1) rfl rfl rfl ?_
  refine x_iconst (pc' := 2) rfl rfl ?_
  refine x_iconst (pc' := 3) rfl rfl ?_
  refine x_cs (ls0 := [_, _, _]) (rest := []) rfl rfl rfl rfl ?_
  refine r145_xg (ixo_c6 hp) ?_
  refine sK_i (pc' := 6) rfl ?_
  refine x_retz (z := false) rfl rfl ?_
  refine sK_i (pc' := 5) rfl ?_
  refine x_if (a' := 12) (pc' := 8) (z := true) rfl rfl rfl (by decide) (fun _ => ?_) (fun h => by cases h)
  refine x_iconst (pc' := 13) rfl rfl ?_
  refine x_cv (ls0 := [_, _]) (rest := []) rfl rfl rfl rfl rfl ?_
  refine x_aload_n (pc' := 1) rfl rfl rfl rfl rfl ?_
  refine x_iload_n (pc' := 2) rfl rfl rfl ?_
  refine x_pI (pc' := 5) rfl rfl rfl ?_
  refine x_iload_n (pc' := 6) rfl rfl rfl ?_
  refine x_if (a' := 13) (pc' := 9) (z := true) rfl rfl rfl (by decide) (fun _ => ?_) (fun h => by cases h)
  refine x_iconst (pc' := 14) rfl rfl ?_
  refine x_retz (z := false) rfl rfl ?_
  refine sK_i (pc' := 16) rfl ?_
  refine x_retz (z := false) rfl rfl ?_
  refine sK_i (pc' := 5) rfl ?_
  refine x_if (a' := 17) (pc' := 8) (z := true) rfl rfl rfl (by decide) (fun _ => ?_) (fun h => by cases h)
  refine x_iconst (pc' := 18) rfl rfl ?_
  refine x_reti rfl rfl ?_
  exact k0
set_option maxHeartbeats 4000000 in
set_option maxRecDepth 10000 in
theorem r238 {t : sT} {Q : sRs → sT → Prop} {M : sM} {n : Nat} {m : Nat}
    (hV : Vr t M n)
    (hm : m < 6)
    (k0 : Q (.inl (some (.inl (fdF (mIw M 768 0) n m)))) (sIw t 768 0 0)) :
    X 238 0 [.inr (.inr (12, (some 0))), .inl (io m)] [] t Q := by
  obtain ⟨hM, hc, hR⟩ := hV
  refine x_aload_n (pc' := 1) rfl rfl rfl rfl rfl ?_
  refine x_iload_n (pc' := 2) rfl rfl rfl ?_
  refine x_cv (ls0 := [_, _]) (rest := []) rfl rfl rfl rfl rfl ?_
  refine x_aload_n (pc' := 1) rfl rfl rfl rfl rfl ?_
  refine x_iload_n (pc' := 2) rfl rfl rfl ?_
  refine x_cs (ls0 := [_]) (rest := [_]) rfl rfl rfl rfl ?_
  refine x_iload_n (pc' := 1) rfl rfl rfl ?_
  refine x_iconst (pc' := 2) rfl rfl ?_
  refine x_iconst (pc' := 3) rfl rfl ?_
  refine x_cs (ls0 := [_, _, _]) (rest := []) rfl rfl rfl rfl ?_
  refine x_iload_n (pc' := 1) rfl rfl rfl ?_
  refine x_iload_n (pc' := 2) rfl rfl rfl ?_
  refine x_icmp (a' := 14) (pc' := 5) (z := decide (m < 0)) rfl rfl rfl (ic_lt (p := m) (q := 0) (gm31 hm) (by decide)) (fun h => absurd (of_decide_eq_true h) (by first | decide | omega | simp)) (fun _ => ?_)
  refine x_iload_n (pc' := 6) rfl rfl rfl ?_
  refine x_iload_n (pc' := 7) rfl rfl rfl ?_
  refine x_icmp (a' := 14) (pc' := 10) (z := decide (5 < m)) rfl rfl rfl (ic_gt (p := m) (q := 5) (gm31 hm) (by decide)) (fun h => absurd (of_decide_eq_true h) (show ¬ 5 < m by omega)) (fun _ => ?_)
  refine x_iconst (pc' := 11) rfl rfl ?_
  refine x_goto (pc' := 15) rfl rfl ?_
  refine x_retz (z := true) rfl rfl ?_
  refine sK_i (pc' := 6) rfl ?_
  refine x_retz (z := true) rfl rfl ?_
  refine sK_i (pc' := 5) rfl ?_
  refine x_if (a' := 12) (pc' := 8) (z := false) rfl rfl rfl (by decide) (fun h => by cases h) (fun _ => ?_)
  refine x_iconst (pc' := 9) rfl rfl ?_
  refine x_goto (pc' := 13) rfl rfl ?_
  refine x_cv (ls0 := [_, _]) (rest := []) rfl rfl rfl rfl rfl ?_
  refine x_aload_n (pc' := 1) rfl rfl rfl rfl rfl ?_
  refine x_iload_n (pc' := 2) rfl rfl rfl ?_
  refine x_pI (pc' := 5) rfl rfl rfl ?_
  refine x_iload_n (pc' := 6) rfl rfl rfl ?_
  refine x_if (a' := 13) (pc' := 9) (z := false) rfl rfl rfl (by decide) (fun h => by cases h) (fun _ => ?_)
  refine x_iconst (pc' := 10) rfl rfl ?_
  refine x_goto (pc' := 14) rfl rfl ?_
  refine x_retz (z := true) rfl rfl ?_
  refine sK_i (pc' := 16) rfl ?_
  refine x_retz (z := true) rfl rfl ?_
  refine sK_i (pc' := 5) rfl ?_
  refine x_if (a' := 16) (pc' := 8) (z := false) rfl rfl rfl (by decide) (fun h => by cases h) (fun _ => ?_)
  refine x_aload_n (pc' := 9) rfl rfl rfl rfl rfl ?_
  refine x_iload_n (pc' := 10) rfl rfl rfl ?_
  refine x_cv (ls0 := [_, _, sJk, sJk]) (rest := []) rfl rfl rfl rfl rfl ?_
  refine r182 ((rp_I rfl).trans (congrArg (fun z => mIw z 768 0) hM)) (Cn_cp (cp_I rfl) hc) (Fr.ri (Fr_I rfl (Fr.refl _)) hR) hm ?_
  refine sK_i (pc' := 13) rfl ?_
  refine x_goto (pc' := 17) rfl rfl ?_
  refine x_reti rfl rfl ?_
  exact k0
set_option maxHeartbeats 4000000 in
set_option maxRecDepth 10000 in
theorem r238_x0 {t : sT} {Q : sRs → sT → Prop} {M : sM} {n : Nat} {x : Int32}
    (hV : Vr t M n)
    (hp : ixo x 6 = none)
    (k0 : Q (.inl (some (.inl 0))) (sIw t 768 0 1)) :
    X 238 0 [.inr (.inr (12, (some 0))), .inl x] [] t Q := by
  obtain ⟨hM, hc, hR⟩ := hV
  refine x_aload_n (pc' := 1) rfl rfl rfl rfl rfl ?_
  refine x_iload_n (pc' := 2) rfl rfl rfl ?_
  refine x_cv (ls0 := [_, _]) (rest := []) rfl rfl rfl rfl rfl ?_
  refine x_aload_n (pc' := 1) rfl rfl rfl rfl rfl ?_
  refine x_iload_n (pc' := 2) rfl rfl rfl ?_
  refine x_cs (ls0 := [_]) (rest := [_]) rfl rfl rfl rfl ?_
  refine x_iload_n (pc' := 1) rfl rfl rfl ?_
  refine x_iconst (pc' := 2) rfl rfl ?_
  refine x_iconst (pc' := 3) rfl rfl ?_
  refine x_cs (ls0 := [_, _, _]) (rest := []) rfl rfl rfl rfl ?_
  refine r145_xg (ixo_c6 hp) ?_
  refine sK_i (pc' := 6) rfl ?_
  refine x_retz (z := false) rfl rfl ?_
  refine sK_i (pc' := 5) rfl ?_
  refine x_if (a' := 12) (pc' := 8) (z := true) rfl rfl rfl (by decide) (fun _ => ?_) (fun h => by cases h)
  refine x_iconst (pc' := 13) rfl rfl ?_
  refine x_cv (ls0 := [_, _]) (rest := []) rfl rfl rfl rfl rfl ?_
  refine x_aload_n (pc' := 1) rfl rfl rfl rfl rfl ?_
  refine x_iload_n (pc' := 2) rfl rfl rfl ?_
  refine x_pI (pc' := 5) rfl rfl rfl ?_
  refine x_iload_n (pc' := 6) rfl rfl rfl ?_
  refine x_if (a' := 13) (pc' := 9) (z := true) rfl rfl rfl (by decide) (fun _ => ?_) (fun h => by cases h)
  refine x_iconst (pc' := 14) rfl rfl ?_
  refine x_retz (z := false) rfl rfl ?_
  refine sK_i (pc' := 16) rfl ?_
  refine x_retz (z := false) rfl rfl ?_
  refine sK_i (pc' := 5) rfl ?_
  refine x_if (a' := 16) (pc' := 8) (z := true) rfl rfl rfl (by decide) (fun _ => ?_) (fun h => by cases h)
  refine x_iconst (pc' := 17) rfl rfl ?_
  refine x_reti rfl rfl ?_
  exact k0
set_option maxHeartbeats 4000000 in
set_option maxRecDepth 10000 in
theorem r239 {t : sT} {Q : sRs → sT → Prop} {M : sM} {n : Nat} {m : Nat}
    (hV : Vr t M n)
    (hm : m < 6)
    (k0 : Q (.inl (some (.inl (maF (mIw M 768 0) n m)))) (sIw t 768 0 0)) :
    X 239 0 [.inr (.inr (12, (some 0))), .inl (io m)] [] t Q := by
  obtain ⟨hM, hc, hR⟩ := hV
  refine x_aload_n (pc' := 1) rfl rfl rfl rfl rfl ?_
  refine x_iload_n (pc' := 2) rfl rfl rfl ?_
  refine x_cv (ls0 := [_, _]) (rest := []) rfl rfl rfl rfl rfl ?_
  refine x_aload_n (pc' := 1) rfl rfl rfl rfl rfl ?_
  refine x_iload_n (pc' := 2) rfl rfl rfl ?_
  refine x_cs (ls0 := [_]) (rest := [_]) rfl rfl rfl rfl ?_
  refine x_iload_n (pc' := 1) rfl rfl rfl ?_
  refine x_iconst (pc' := 2) rfl rfl ?_
  refine x_iconst (pc' := 3) rfl rfl ?_
  refine x_cs (ls0 := [_, _, _]) (rest := []) rfl rfl rfl rfl ?_
  refine x_iload_n (pc' := 1) rfl rfl rfl ?_
  refine x_iload_n (pc' := 2) rfl rfl rfl ?_
  refine x_icmp (a' := 14) (pc' := 5) (z := decide (m < 0)) rfl rfl rfl (ic_lt (p := m) (q := 0) (gm31 hm) (by decide)) (fun h => absurd (of_decide_eq_true h) (by first | decide | omega | simp)) (fun _ => ?_)
  refine x_iload_n (pc' := 6) rfl rfl rfl ?_
  refine x_iload_n (pc' := 7) rfl rfl rfl ?_
  refine x_icmp (a' := 14) (pc' := 10) (z := decide (5 < m)) rfl rfl rfl (ic_gt (p := m) (q := 5) (gm31 hm) (by decide)) (fun h => absurd (of_decide_eq_true h) (show ¬ 5 < m by omega)) (fun _ => ?_)
  refine x_iconst (pc' := 11) rfl rfl ?_
  refine x_goto (pc' := 15) rfl rfl ?_
  refine x_retz (z := true) rfl rfl ?_
  refine sK_i (pc' := 6) rfl ?_
  refine x_retz (z := true) rfl rfl ?_
  refine sK_i (pc' := 5) rfl ?_
  refine x_if (a' := 12) (pc' := 8) (z := false) rfl rfl rfl (by decide) (fun h => by cases h) (fun _ => ?_)
  refine x_iconst (pc' := 9) rfl rfl ?_
  refine x_goto (pc' := 13) rfl rfl ?_
  refine x_cv (ls0 := [_, _]) (rest := []) rfl rfl rfl rfl rfl ?_
  refine x_aload_n (pc' := 1) rfl rfl rfl rfl rfl ?_
  refine x_iload_n (pc' := 2) rfl rfl rfl ?_
  refine x_pI (pc' := 5) rfl rfl rfl ?_
  refine x_iload_n (pc' := 6) rfl rfl rfl ?_
  refine x_if (a' := 13) (pc' := 9) (z := false) rfl rfl rfl (by decide) (fun h => by cases h) (fun _ => ?_)
  refine x_iconst (pc' := 10) rfl rfl ?_
  refine x_goto (pc' := 14) rfl rfl ?_
  refine x_retz (z := true) rfl rfl ?_
  refine sK_i (pc' := 16) rfl ?_
  refine x_retz (z := true) rfl rfl ?_
  refine sK_i (pc' := 5) rfl ?_
  refine x_if (a' := 16) (pc' := 8) (z := false) rfl rfl rfl (by decide) (fun h => by cases h) (fun _ => ?_)
  refine x_aload_n (pc' := 9) rfl rfl rfl rfl rfl ?_
  refine x_iload_n (pc' := 10) rfl rfl rfl ?_
  refine x_cv (ls0 := [_, _]) (rest := []) rfl rfl rfl rfl rfl ?_
  refine r181 ((rp_I rfl).trans (congrArg (fun z => mIw z 768 0) hM)) (Cn_cp (cp_I rfl) hc) (Fr.ri (Fr_I rfl (Fr.refl _)) hR) hm ?_
  refine sK_i (pc' := 13) rfl ?_
  refine x_goto (pc' := 17) rfl rfl ?_
  refine x_reti rfl rfl ?_
  exact k0
set_option maxHeartbeats 4000000 in
set_option maxRecDepth 10000 in
theorem r239_x0 {t : sT} {Q : sRs → sT → Prop} {M : sM} {n : Nat} {x : Int32}
    (hV : Vr t M n)
    (hp : ixo x 6 = none)
    (k0 : Q (.inl (some (.inl 0))) (sIw t 768 0 1)) :
    X 239 0 [.inr (.inr (12, (some 0))), .inl x] [] t Q := by
  obtain ⟨hM, hc, hR⟩ := hV
  refine x_aload_n (pc' := 1) rfl rfl rfl rfl rfl ?_
  refine x_iload_n (pc' := 2) rfl rfl rfl ?_
  refine x_cv (ls0 := [_, _]) (rest := []) rfl rfl rfl rfl rfl ?_
  refine x_aload_n (pc' := 1) rfl rfl rfl rfl rfl ?_
  refine x_iload_n (pc' := 2) rfl rfl rfl ?_
  refine x_cs (ls0 := [_]) (rest := [_]) rfl rfl rfl rfl ?_
  refine x_iload_n (pc' := 1) rfl rfl rfl ?_
  refine x_iconst (pc' := 2) rfl rfl ?_
  refine x_iconst (pc' := 3) rfl rfl ?_
  refine x_cs (ls0 := [_, _, _]) (rest := []) rfl rfl rfl rfl ?_
  refine r145_xg (ixo_c6 hp) ?_
  refine sK_i (pc' := 6) rfl ?_
  refine x_retz (z := false) rfl rfl ?_
  refine sK_i (pc' := 5) rfl ?_
  refine x_if (a' := 12) (pc' := 8) (z := true) rfl rfl rfl (by decide) (fun _ => ?_) (fun h => by cases h)
  refine x_iconst (pc' := 13) rfl rfl ?_
  refine x_cv (ls0 := [_, _]) (rest := []) rfl rfl rfl rfl rfl ?_
  refine x_aload_n (pc' := 1) rfl rfl rfl rfl rfl ?_
  refine x_iload_n (pc' := 2) rfl rfl rfl ?_
  refine x_pI (pc' := 5) rfl rfl rfl ?_
  refine x_iload_n (pc' := 6) rfl rfl rfl ?_
  refine x_if (a' := 13) (pc' := 9) (z := true) rfl rfl rfl (by decide) (fun _ => ?_) (fun h => by cases h)
  refine x_iconst (pc' := 14) rfl rfl ?_
  refine x_retz (z := false) rfl rfl ?_
  refine sK_i (pc' := 16) rfl ?_
  refine x_retz (z := false) rfl rfl ?_
  refine sK_i (pc' := 5) rfl ?_
  refine x_if (a' := 16) (pc' := 8) (z := true) rfl rfl rfl (by decide) (fun _ => ?_) (fun h => by cases h)
  refine x_iconst (pc' := 17) rfl rfl ?_
  refine x_reti rfl rfl ?_
  exact k0
set_option maxHeartbeats 4000000 in
set_option maxRecDepth 10000 in
theorem r240 {t : sT} {Q : sRs → sT → Prop} {M : sM} {n : Nat} {m : Nat}
    (hV : Vr t M n)
    (hm : m < 6)
    (k0 : Q (.inl (some (.inl (ndF (mIw M 768 0) n m)))) (sIw t 768 0 0)) :
    X 240 0 [.inr (.inr (12, (some 0))), .inl (io m)] [] t Q := by
  obtain ⟨hM, hc, hR⟩ := hV
  refine x_aload_n (pc' := 1) rfl rfl rfl rfl rfl ?_
  refine x_iload_n (pc' := 2) rfl rfl rfl ?_
  refine x_cv (ls0 := [_, _]) (rest := []) rfl rfl rfl rfl rfl ?_
  refine x_aload_n (pc' := 1) rfl rfl rfl rfl rfl ?_
  refine x_iload_n (pc' := 2) rfl rfl rfl ?_
  refine x_cs (ls0 := [_]) (rest := [_]) rfl rfl rfl rfl ?_
  refine x_iload_n (pc' := 1) rfl rfl rfl ?_
  refine x_iconst (pc' := 2) rfl rfl ?_
  refine x_iconst (pc' := 3) rfl rfl ?_
  refine x_cs (ls0 := [_, _, _]) (rest := []) rfl rfl rfl rfl ?_
  refine x_iload_n (pc' := 1) rfl rfl rfl ?_
  refine x_iload_n (pc' := 2) rfl rfl rfl ?_
  refine x_icmp (a' := 14) (pc' := 5) (z := decide (m < 0)) rfl rfl rfl (ic_lt (p := m) (q := 0) (gm31 hm) (by decide)) (fun h => absurd (of_decide_eq_true h) (by first | decide | omega | simp)) (fun _ => ?_)
  refine x_iload_n (pc' := 6) rfl rfl rfl ?_
  refine x_iload_n (pc' := 7) rfl rfl rfl ?_
  refine x_icmp (a' := 14) (pc' := 10) (z := decide (5 < m)) rfl rfl rfl (ic_gt (p := m) (q := 5) (gm31 hm) (by decide)) (fun h => absurd (of_decide_eq_true h) (show ¬ 5 < m by omega)) (fun _ => ?_)
  refine x_iconst (pc' := 11) rfl rfl ?_
  refine x_goto (pc' := 15) rfl rfl ?_
  refine x_retz (z := true) rfl rfl ?_
  refine sK_i (pc' := 6) rfl ?_
  refine x_retz (z := true) rfl rfl ?_
  refine sK_i (pc' := 5) rfl ?_
  refine x_if (a' := 12) (pc' := 8) (z := false) rfl rfl rfl (by decide) (fun h => by cases h) (fun _ => ?_)
  refine x_iconst (pc' := 9) rfl rfl ?_
  refine x_goto (pc' := 13) rfl rfl ?_
  refine x_cv (ls0 := [_, _]) (rest := []) rfl rfl rfl rfl rfl ?_
  refine x_aload_n (pc' := 1) rfl rfl rfl rfl rfl ?_
  refine x_iload_n (pc' := 2) rfl rfl rfl ?_
  refine x_pI (pc' := 5) rfl rfl rfl ?_
  refine x_iload_n (pc' := 6) rfl rfl rfl ?_
  refine x_if (a' := 13) (pc' := 9) (z := false) rfl rfl rfl (by decide) (fun h => by cases h) (fun _ => ?_)
  refine x_iconst (pc' := 10) rfl rfl ?_
  refine x_goto (pc' := 14) rfl rfl ?_
  refine x_retz (z := true) rfl rfl ?_
  refine sK_i (pc' := 16) rfl ?_
  refine x_retz (z := true) rfl rfl ?_
  refine sK_i (pc' := 5) rfl ?_
  refine x_if (a' := 16) (pc' := 8) (z := false) rfl rfl rfl (by decide) (fun h => by cases h) (fun _ => ?_)
  refine x_aload_n (pc' := 9) rfl rfl rfl rfl rfl ?_
  refine x_iload_n (pc' := 10) rfl rfl rfl ?_
  refine x_cv (ls0 := [_, _, sJk, sJk, sJk]) (rest := []) rfl rfl rfl rfl rfl ?_
  refine r184 ((rp_I rfl).trans (congrArg (fun z => mIw z 768 0) hM)) (Cn_cp (cp_I rfl) hc) (Fr.ri (Fr_I rfl (Fr.refl _)) hR) hm ?_
  refine sK_i (pc' := 13) rfl ?_
  refine x_goto (pc' := 17) rfl rfl ?_
  refine x_reti rfl rfl ?_
  exact k0
set_option maxHeartbeats 4000000 in
set_option maxRecDepth 10000 in
theorem r240_x0 {t : sT} {Q : sRs → sT → Prop} {M : sM} {n : Nat} {x : Int32}
    (hV : Vr t M n)
    (hp : ixo x 6 = none)
    (k0 : Q (.inl (some (.inl 0))) (sIw t 768 0 1)) :
    X 240 0 [.inr (.inr (12, (some 0))), .inl x] [] t Q := by
  obtain ⟨hM, hc, hR⟩ := hV
  refine x_aload_n (pc' := 1) rfl rfl rfl rfl rfl ?_
  refine x_iload_n (pc' := 2) rfl rfl rfl ?_
  refine x_cv (ls0 := [_, _]) (rest := []) rfl rfl rfl rfl rfl ?_
  refine x_aload_n (pc' := 1) rfl rfl rfl rfl rfl ?_
  refine x_iload_n (pc' := 2) rfl rfl rfl ?_
  refine x_cs (ls0 := [_]) (rest := [_]) rfl rfl rfl rfl ?_
  refine x_iload_n (pc' := 1) rfl rfl rfl ?_
  refine x_iconst (pc' := 2) rfl rfl ?_
  refine x_iconst (pc' := 3) rfl rfl ?_
  refine x_cs (ls0 := [_, _, _]) (rest := []) rfl rfl rfl rfl ?_
  refine r145_xg (ixo_c6 hp) ?_
  refine sK_i (pc' := 6) rfl ?_
  refine x_retz (z := false) rfl rfl ?_
  refine sK_i (pc' := 5) rfl ?_
  refine x_if (a' := 12) (pc' := 8) (z := true) rfl rfl rfl (by decide) (fun _ => ?_) (fun h => by cases h)
  refine x_iconst (pc' := 13) rfl rfl ?_
  refine x_cv (ls0 := [_, _]) (rest := []) rfl rfl rfl rfl rfl ?_
  refine x_aload_n (pc' := 1) rfl rfl rfl rfl rfl ?_
  refine x_iload_n (pc' := 2) rfl rfl rfl ?_
  refine x_pI (pc' := 5) rfl rfl rfl ?_
  refine x_iload_n (pc' := 6) rfl rfl rfl ?_
  refine x_if (a' := 13) (pc' := 9) (z := true) rfl rfl rfl (by decide) (fun _ => ?_) (fun h => by cases h)
  refine x_iconst (pc' := 14) rfl rfl ?_
  refine x_retz (z := false) rfl rfl ?_
  refine sK_i (pc' := 16) rfl ?_
  refine x_retz (z := false) rfl rfl ?_
  refine sK_i (pc' := 5) rfl ?_
  refine x_if (a' := 16) (pc' := 8) (z := true) rfl rfl rfl (by decide) (fun _ => ?_) (fun h => by cases h)
  refine x_iconst (pc' := 17) rfl rfl ?_
  refine x_reti rfl rfl ?_
  exact k0
set_option maxHeartbeats 4000000 in
set_option maxRecDepth 10000 in
theorem r241 {t : sT} {Q : sRs → sT → Prop} {M : sM} {n : Nat} {m : Nat}
    (hV : Vr t M n)
    (hm : m < 6)
    (k0 : Q (.inl (some (.inl (mA M 7 m)))) (sIw t 768 0 0)) :
    X 241 0 [.inr (.inr (12, (some 0))), .inl (io m)] [] t Q := by
  obtain ⟨hM, hc, hR⟩ := hV
  refine x_aload_n (pc' := 1) rfl rfl rfl rfl rfl ?_
  refine x_iload_n (pc' := 2) rfl rfl rfl ?_
  refine x_cv (ls0 := [_, _]) (rest := []) rfl rfl rfl rfl rfl ?_
  refine x_aload_n (pc' := 1) rfl rfl rfl rfl rfl ?_
  refine x_iload_n (pc' := 2) rfl rfl rfl ?_
  refine x_cs (ls0 := [_]) (rest := [_]) rfl rfl rfl rfl ?_
  refine x_iload_n (pc' := 1) rfl rfl rfl ?_
  refine x_iconst (pc' := 2) rfl rfl ?_
  refine x_iconst (pc' := 3) rfl rfl ?_
  refine x_cs (ls0 := [_, _, _]) (rest := []) rfl rfl rfl rfl ?_
  refine x_iload_n (pc' := 1) rfl rfl rfl ?_
  refine x_iload_n (pc' := 2) rfl rfl rfl ?_
  refine x_icmp (a' := 14) (pc' := 5) (z := decide (m < 0)) rfl rfl rfl (ic_lt (p := m) (q := 0) (gm31 hm) (by decide)) (fun h => absurd (of_decide_eq_true h) (by first | decide | omega | simp)) (fun _ => ?_)
  refine x_iload_n (pc' := 6) rfl rfl rfl ?_
  refine x_iload_n (pc' := 7) rfl rfl rfl ?_
  refine x_icmp (a' := 14) (pc' := 10) (z := decide (5 < m)) rfl rfl rfl (ic_gt (p := m) (q := 5) (gm31 hm) (by decide)) (fun h => absurd (of_decide_eq_true h) (show ¬ 5 < m by omega)) (fun _ => ?_)
  refine x_iconst (pc' := 11) rfl rfl ?_
  refine x_goto (pc' := 15) rfl rfl ?_
  refine x_retz (z := true) rfl rfl ?_
  refine sK_i (pc' := 6) rfl ?_
  refine x_retz (z := true) rfl rfl ?_
  refine sK_i (pc' := 5) rfl ?_
  refine x_if (a' := 12) (pc' := 8) (z := false) rfl rfl rfl (by decide) (fun h => by cases h) (fun _ => ?_)
  refine x_iconst (pc' := 9) rfl rfl ?_
  refine x_goto (pc' := 13) rfl rfl ?_
  refine x_cv (ls0 := [_, _]) (rest := []) rfl rfl rfl rfl rfl ?_
  refine x_aload_n (pc' := 1) rfl rfl rfl rfl rfl ?_
  refine x_iload_n (pc' := 2) rfl rfl rfl ?_
  refine x_pI (pc' := 5) rfl rfl rfl ?_
  refine x_iload_n (pc' := 6) rfl rfl rfl ?_
  refine x_if (a' := 13) (pc' := 9) (z := false) rfl rfl rfl (by decide) (fun h => by cases h) (fun _ => ?_)
  refine x_iconst (pc' := 10) rfl rfl ?_
  refine x_goto (pc' := 14) rfl rfl ?_
  refine x_retz (z := true) rfl rfl ?_
  refine sK_i (pc' := 16) rfl ?_
  refine x_retz (z := true) rfl rfl ?_
  refine sK_i (pc' := 5) rfl ?_
  refine x_if (a' := 17) (pc' := 8) (z := false) rfl rfl rfl (by decide) (fun h => by cases h) (fun _ => ?_)
  refine x_aload_n (pc' := 9) rfl rfl rfl rfl rfl ?_
  refine x_gR (pc' := 12) (r := (some 7)) rfl rfl rfl (Eq.trans (b := sR t 777 0) rfl (kR_777_0 hc)) ?_
  refine x_iload_n (pc' := 13) rfl rfl rfl ?_
  refine x_iald (pc' := 14) (N := 6) (x := (mA M 7 m)) rfl rfl rfl (Eq.trans rdNI (kN_21_7 hc)) (io_in (p := m) (N := 6) hm (by decide)) (Eq.trans (congrArg (sA (sIw t 768 0 0) 21 7) (nn_io (p := m) (Nat.lt_trans hm (by decide)))) (Eq.trans (b := sA t 21 7 m) rfl (gA hM rfl))) ?_
  refine x_goto (pc' := 18) rfl rfl ?_
  refine x_reti rfl rfl ?_
  exact k0
set_option maxHeartbeats 4000000 in
set_option maxRecDepth 10000 in
theorem r241_x0 {t : sT} {Q : sRs → sT → Prop} {M : sM} {n : Nat} {x : Int32}
    (hV : Vr t M n)
    (hp : ixo x 6 = none)
    (k0 : Q (.inl (some (.inl 0))) (sIw t 768 0 1)) :
    X 241 0 [.inr (.inr (12, (some 0))), .inl x] [] t Q := by
  obtain ⟨hM, hc, hR⟩ := hV
  refine x_aload_n (pc' := 1) rfl rfl rfl rfl rfl ?_
  refine x_iload_n (pc' := 2) rfl rfl rfl ?_
  refine x_cv (ls0 := [_, _]) (rest := []) rfl rfl rfl rfl rfl ?_
  refine x_aload_n (pc' := 1) rfl rfl rfl rfl rfl ?_
  refine x_iload_n (pc' := 2) rfl rfl rfl ?_
  refine x_cs (ls0 := [_]) (rest := [_]) rfl rfl rfl rfl ?_
  refine x_iload_n (pc' := 1) rfl rfl rfl ?_
  refine x_iconst (pc' := 2) rfl rfl ?_
  refine x_iconst (pc' := 3) rfl rfl ?_
  refine x_cs (ls0 := [_, _, _]) (rest := []) rfl rfl rfl rfl ?_
  refine r145_xg (ixo_c6 hp) ?_
  refine sK_i (pc' := 6) rfl ?_
  refine x_retz (z := false) rfl rfl ?_
  refine sK_i (pc' := 5) rfl ?_
  refine x_if (a' := 12) (pc' := 8) (z := true) rfl rfl rfl (by decide) (fun _ => ?_) (fun h => by cases h)
  refine x_iconst (pc' := 13) rfl rfl ?_
  refine x_cv (ls0 := [_, _]) (rest := []) rfl rfl rfl rfl rfl ?_
  refine x_aload_n (pc' := 1) rfl rfl rfl rfl rfl ?_
  refine x_iload_n (pc' := 2) rfl rfl rfl ?_
  refine x_pI (pc' := 5) rfl rfl rfl ?_
  refine x_iload_n (pc' := 6) rfl rfl rfl ?_
  refine x_if (a' := 13) (pc' := 9) (z := true) rfl rfl rfl (by decide) (fun _ => ?_) (fun h => by cases h)
  refine x_iconst (pc' := 14) rfl rfl ?_
  refine x_retz (z := false) rfl rfl ?_
  refine sK_i (pc' := 16) rfl ?_
  refine x_retz (z := false) rfl rfl ?_
  refine sK_i (pc' := 5) rfl ?_
  refine x_if (a' := 17) (pc' := 8) (z := true) rfl rfl rfl (by decide) (fun _ => ?_) (fun h => by cases h)
  refine x_iconst (pc' := 18) rfl rfl ?_
  refine x_reti rfl rfl ?_
  exact k0
set_option maxHeartbeats 4000000 in
set_option maxRecDepth 10000 in
theorem r242 {t : sT} {Q : sRs → sT → Prop} {M : sM} {n : Nat} {m : Nat}
    (hV : Vr t M n)
    (hm : m < 6)
    (k0 : (mB M 2 m) = false → Q (.inl (some (.inl (bz false)))) (sIw t 768 0 0))
    (k1 : (mB M 2 m) = true → Q (.inl (some (.inl (bz true)))) (sIw t 768 0 0)) :
    X 242 0 [.inr (.inr (12, (some 0))), .inl (io m)] [] t Q := by
  obtain ⟨hM, hc, hR⟩ := hV
  refine x_aload_n (pc' := 1) rfl rfl rfl rfl rfl ?_
  refine x_iload_n (pc' := 2) rfl rfl rfl ?_
  refine x_cv (ls0 := [_, _]) (rest := []) rfl rfl rfl rfl rfl ?_
  refine x_aload_n (pc' := 1) rfl rfl rfl rfl rfl ?_
  refine x_iload_n (pc' := 2) rfl rfl rfl ?_
  refine x_cs (ls0 := [_]) (rest := [_]) rfl rfl rfl rfl ?_
  refine x_iload_n (pc' := 1) rfl rfl rfl ?_
  refine x_iconst (pc' := 2) rfl rfl ?_
  refine x_iconst (pc' := 3) rfl rfl ?_
  refine x_cs (ls0 := [_, _, _]) (rest := []) rfl rfl rfl rfl ?_
  refine x_iload_n (pc' := 1) rfl rfl rfl ?_
  refine x_iload_n (pc' := 2) rfl rfl rfl ?_
  refine x_icmp (a' := 14) (pc' := 5) (z := decide (m < 0)) rfl rfl rfl (ic_lt (p := m) (q := 0) (gm31 hm) (by decide)) (fun h => absurd (of_decide_eq_true h) (by first | decide | omega | simp)) (fun _ => ?_)
  refine x_iload_n (pc' := 6) rfl rfl rfl ?_
  refine x_iload_n (pc' := 7) rfl rfl rfl ?_
  refine x_icmp (a' := 14) (pc' := 10) (z := decide (5 < m)) rfl rfl rfl (ic_gt (p := m) (q := 5) (gm31 hm) (by decide)) (fun h => absurd (of_decide_eq_true h) (show ¬ 5 < m by omega)) (fun _ => ?_)
  refine x_iconst (pc' := 11) rfl rfl ?_
  refine x_goto (pc' := 15) rfl rfl ?_
  refine x_retz (z := true) rfl rfl ?_
  refine sK_i (pc' := 6) rfl ?_
  refine x_retz (z := true) rfl rfl ?_
  refine sK_i (pc' := 5) rfl ?_
  refine x_if (a' := 12) (pc' := 8) (z := false) rfl rfl rfl (by decide) (fun h => by cases h) (fun _ => ?_)
  refine x_iconst (pc' := 9) rfl rfl ?_
  refine x_goto (pc' := 13) rfl rfl ?_
  refine x_cv (ls0 := [_, _]) (rest := []) rfl rfl rfl rfl rfl ?_
  refine x_aload_n (pc' := 1) rfl rfl rfl rfl rfl ?_
  refine x_iload_n (pc' := 2) rfl rfl rfl ?_
  refine x_pI (pc' := 5) rfl rfl rfl ?_
  refine x_iload_n (pc' := 6) rfl rfl rfl ?_
  refine x_if (a' := 13) (pc' := 9) (z := false) rfl rfl rfl (by decide) (fun h => by cases h) (fun _ => ?_)
  refine x_iconst (pc' := 10) rfl rfl ?_
  refine x_goto (pc' := 14) rfl rfl ?_
  refine x_retz (z := true) rfl rfl ?_
  refine sK_i (pc' := 16) rfl ?_
  refine x_retz (z := true) rfl rfl ?_
  refine sK_i (pc' := 5) rfl ?_
  refine x_if (a' := 21) (pc' := 8) (z := false) rfl rfl rfl (by decide) (fun h => by cases h) (fun _ => ?_)
  refine x_aload_n (pc' := 9) rfl rfl rfl rfl rfl ?_
  refine x_gR (pc' := 12) (r := (some 2)) rfl rfl rfl (Eq.trans (b := sR t 781 0) rfl (kR_781_0 hc)) ?_
  refine x_iload_n (pc' := 13) rfl rfl rfl ?_
  refine x_bald (pc' := 14) (N := 6) (z := (mB M 2 m)) rfl rfl (Eq.trans rdNI (kN_22_2 hc)) (io_in (p := m) (N := 6) hm (by decide)) (Eq.trans (congrArg (sB (sIw t 768 0 0) 22 2) (nn_io (p := m) (Nat.lt_trans hm (by decide)))) (Eq.trans (b := sB t 22 2 m) rfl (gB hM))) ?_
  refine x_ifeq_z (a' := 21) (pc' := 17) (z := (mB M 2 m)) rfl rfl rfl (fun q6 => ?_) (fun q6 => ?_)
  · refine x_iconst (pc' := 22) rfl rfl ?_
    refine x_retz (z := false) rfl rfl ?_
    exact k0 q6
  · refine x_iconst (pc' := 18) rfl rfl ?_
    refine x_goto (pc' := 22) rfl rfl ?_
    refine x_retz (z := true) rfl rfl ?_
    exact k1 q6
set_option maxHeartbeats 4000000 in
set_option maxRecDepth 10000 in
theorem r242_x0 {t : sT} {Q : sRs → sT → Prop} {M : sM} {n : Nat} {x : Int32}
    (hV : Vr t M n)
    (hp : ixo x 6 = none)
    (k0 : Q (.inl (some (.inl (bz false)))) (sIw t 768 0 1)) :
    X 242 0 [.inr (.inr (12, (some 0))), .inl x] [] t Q := by
  obtain ⟨hM, hc, hR⟩ := hV
  refine x_aload_n (pc' := 1) rfl rfl rfl rfl rfl ?_
  refine x_iload_n (pc' := 2) rfl rfl rfl ?_
  refine x_cv (ls0 := [_, _]) (rest := []) rfl rfl rfl rfl rfl ?_
  refine x_aload_n (pc' := 1) rfl rfl rfl rfl rfl ?_
  refine x_iload_n (pc' := 2) rfl rfl rfl ?_
  refine x_cs (ls0 := [_]) (rest := [_]) rfl rfl rfl rfl ?_
  refine x_iload_n (pc' := 1) rfl rfl rfl ?_
  refine x_iconst (pc' := 2) rfl rfl ?_
  refine x_iconst (pc' := 3) rfl rfl ?_
  refine x_cs (ls0 := [_, _, _]) (rest := []) rfl rfl rfl rfl ?_
  refine r145_xg (ixo_c6 hp) ?_
  refine sK_i (pc' := 6) rfl ?_
  refine x_retz (z := false) rfl rfl ?_
  refine sK_i (pc' := 5) rfl ?_
  refine x_if (a' := 12) (pc' := 8) (z := true) rfl rfl rfl (by decide) (fun _ => ?_) (fun h => by cases h)
  refine x_iconst (pc' := 13) rfl rfl ?_
  refine x_cv (ls0 := [_, _]) (rest := []) rfl rfl rfl rfl rfl ?_
  refine x_aload_n (pc' := 1) rfl rfl rfl rfl rfl ?_
  refine x_iload_n (pc' := 2) rfl rfl rfl ?_
  refine x_pI (pc' := 5) rfl rfl rfl ?_
  refine x_iload_n (pc' := 6) rfl rfl rfl ?_
  refine x_if (a' := 13) (pc' := 9) (z := true) rfl rfl rfl (by decide) (fun _ => ?_) (fun h => by cases h)
  refine x_iconst (pc' := 14) rfl rfl ?_
  refine x_retz (z := false) rfl rfl ?_
  refine sK_i (pc' := 16) rfl ?_
  refine x_retz (z := false) rfl rfl ?_
  refine sK_i (pc' := 5) rfl ?_
  refine x_if (a' := 21) (pc' := 8) (z := true) rfl rfl rfl (by decide) (fun _ => ?_) (fun h => by cases h)
  refine x_iconst (pc' := 22) rfl rfl ?_
  refine x_retz (z := false) rfl rfl ?_
  exact k0
set_option maxHeartbeats 4000000 in
set_option maxRecDepth 10000 in
theorem r243 {t : sT} {Q : sRs → sT → Prop} {M : sM} {n : Nat}
    (hV : Vr t M n)
    (k0 : Q (.inl (some (.inl (mI M 784)))) (sIw t 768 0 0)) :
    X 243 0 [.inr (.inr (12, (some 0)))] [] t Q := by
  obtain ⟨hM, hc, hR⟩ := hV
  refine x_aload_n (pc' := 1) rfl rfl rfl rfl rfl ?_
  refine x_iconst (pc' := 2) rfl rfl ?_
  refine x_pI (pc' := 5) rfl rfl rfl ?_
  refine x_aload_n (pc' := 6) rfl rfl rfl rfl rfl ?_
  refine x_gI (pc' := 9) (x := (mI M 784)) rfl rfl rfl (Eq.trans (b := sI t 784 0) rfl (gI hM rfl)) ?_
  refine x_reti rfl rfl ?_
  exact k0
set_option maxHeartbeats 4000000 in
set_option maxRecDepth 10000 in
theorem r244 {t : sT} {Q : sRs → sT → Prop} {M : sM} {n : Nat}
    (hV : Vr t M n)
    (k0 : Q (.inl (some (.inl (mI M 785)))) (sIw t 768 0 0)) :
    X 244 0 [.inr (.inr (12, (some 0)))] [] t Q := by
  obtain ⟨hM, hc, hR⟩ := hV
  refine x_aload_n (pc' := 1) rfl rfl rfl rfl rfl ?_
  refine x_iconst (pc' := 2) rfl rfl ?_
  refine x_pI (pc' := 5) rfl rfl rfl ?_
  refine x_aload_n (pc' := 6) rfl rfl rfl rfl rfl ?_
  refine x_gI (pc' := 9) (x := (mI M 785)) rfl rfl rfl (Eq.trans (b := sI t 785 0) rfl (gI hM rfl)) ?_
  refine x_reti rfl rfl ?_
  exact k0
