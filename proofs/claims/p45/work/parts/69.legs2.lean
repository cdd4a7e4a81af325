/-! the legs of a way: the class takes the orders of the reference (printed by step69.py) -/
set_option maxHeartbeats 4000000 in
set_option maxRecDepth 10000 in
theorem n81_m0 {t : sT} {Q : sRs → sT → Prop} {M : sM} {n : Nat} {T : Nat} {L0 : List Nat} {A : Nat} {B : Nat} {s : Bool}
    (hW : Wc t M n T L0 A B)
    (k0 : Q (.inl (some (.inl (-10000)))) t) :
    X 81 0 [.inr (.inr (10, (some 0))), .inr (.inr (1, (some 0))), .inl (-1), .inl (bz s), sJk, sJk, sJk, sJk] [] t Q := by
  obtain ⟨hM, hc, hR, hC, hL, hL9⟩ := hW
  refine x_aload_n (pc' := 1) rfl rfl rfl rfl rfl ?_
  refine x_aload_n (pc' := 2) rfl rfl rfl rfl rfl ?_
  refine x_iload_n (pc' := 3) rfl rfl rfl ?_
  refine x_iconst (pc' := 4) rfl rfl ?_
  refine x_cv (ls0 := [_, _, _, _, sJk, sJk]) (rest := []) rfl rfl rfl rfl rfl ?_
  refine x_aload_n (pc' := 1) rfl rfl rfl rfl rfl ?_
  refine x_gI (pc' := 4) (x := 0) rfl rfl rfl (kI_64_0 hc.1) ?_
  refine x_iconst (pc' := 5) rfl rfl ?_
  refine x_imul (pc' := 6) (z := 0) rfl rfl (by decide) ?_
  refine x_iload_n (pc' := 7) rfl rfl rfl ?_
  refine x_iadd (pc' := 8) (z := (-1)) rfl rfl (by decide) ?_
  refine x_iconst (pc' := 9) rfl rfl ?_
  refine x_imul (pc' := 10) (z := (-3)) rfl rfl (by decide) ?_
  refine x_iload_n (pc' := 11) rfl rfl rfl ?_
  refine x_iadd (pc' := 12) (z := (-3)) rfl rfl (by decide) ?_
  refine x_istore (pc' := 14) (ls' := [_, _, _, _, _, _]) rfl rfl rfl rfl ?_
  refine x_iload_n (pc' := 15) rfl rfl rfl ?_
  refine x_if (a' := 36) (pc' := 18) (z := true) rfl rfl rfl (by decide) (fun _ => ?_) (fun h => by cases h)
  refine x_iconst (pc' := 37) rfl rfl ?_
  refine x_istore (pc' := 39) (ls' := [_, _, _, _, _, _]) rfl rfl rfl rfl ?_
  refine x_iload (pc' := 41) rfl rfl rfl ?_
  refine x_if (a' := 67) (pc' := 44) (z := true) rfl rfl rfl (by decide) (fun _ => ?_) (fun h => by cases h)
  refine x_iconst (pc' := 68) rfl rfl ?_
  refine x_reti rfl rfl ?_
  refine sK_i (pc' := 7) rfl ?_
  refine x_if (a' := 14) (pc' := 10) (z := false) rfl rfl rfl (by decide) (fun h => by cases h) (fun _ => ?_)
  refine x_sipush (pc' := 13) rfl rfl ?_
  refine x_reti rfl rfl ?_
  exact k0
set_option maxHeartbeats 4000000 in
set_option maxRecDepth 10000 in
theorem n81_m1 {t : sT} {Q : sRs → sT → Prop} {M : sM} {n : Nat} {T : Nat} {L0 : List Nat} {A : Nat} {B : Nat} {s : Bool}
    (hW : Wc t M n T L0 A B)
    (k0 : Q (.inl (some (.inl (-10000)))) t) :
    X 81 0 [.inr (.inr (10, (some 0))), .inr (.inr (1, (some 1))), .inl (-1), .inl (bz s), sJk, sJk, sJk, sJk] [] t Q := by
  obtain ⟨hM, hc, hR, hC, hL, hL9⟩ := hW
  refine x_aload_n (pc' := 1) rfl rfl rfl rfl rfl ?_
  refine x_aload_n (pc' := 2) rfl rfl rfl rfl rfl ?_
  refine x_iload_n (pc' := 3) rfl rfl rfl ?_
  refine x_iconst (pc' := 4) rfl rfl ?_
  refine x_cv (ls0 := [_, _, _, _, sJk, sJk]) (rest := []) rfl rfl rfl rfl rfl ?_
  refine x_aload_n (pc' := 1) rfl rfl rfl rfl rfl ?_
  refine x_gI (pc' := 4) (x := 1) rfl rfl rfl (kI_64_1 hc.1) ?_
  refine x_iconst (pc' := 5) rfl rfl ?_
  refine x_imul (pc' := 6) (z := 3) rfl rfl (by decide) ?_
  refine x_iload_n (pc' := 7) rfl rfl rfl ?_
  refine x_iadd (pc' := 8) (z := 2) rfl rfl (by decide) ?_
  refine x_iconst (pc' := 9) rfl rfl ?_
  refine x_imul (pc' := 10) (z := 6) rfl rfl (by decide) ?_
  refine x_iload_n (pc' := 11) rfl rfl rfl ?_
  refine x_iadd (pc' := 12) (z := 6) rfl rfl (by decide) ?_
  refine x_istore (pc' := 14) (ls' := [_, _, _, _, _, _]) rfl rfl rfl rfl ?_
  refine x_iload_n (pc' := 15) rfl rfl rfl ?_
  refine x_if (a' := 36) (pc' := 18) (z := true) rfl rfl rfl (by decide) (fun _ => ?_) (fun h => by cases h)
  refine x_iconst (pc' := 37) rfl rfl ?_
  refine x_istore (pc' := 39) (ls' := [_, _, _, _, _, _]) rfl rfl rfl rfl ?_
  refine x_iload (pc' := 41) rfl rfl rfl ?_
  refine x_if (a' := 67) (pc' := 44) (z := true) rfl rfl rfl (by decide) (fun _ => ?_) (fun h => by cases h)
  refine x_iconst (pc' := 68) rfl rfl ?_
  refine x_reti rfl rfl ?_
  refine sK_i (pc' := 7) rfl ?_
  refine x_if (a' := 14) (pc' := 10) (z := false) rfl rfl rfl (by decide) (fun h => by cases h) (fun _ => ?_)
  refine x_sipush (pc' := 13) rfl rfl ?_
  refine x_reti rfl rfl ?_
  exact k0
set_option maxHeartbeats 4000000 in
set_option maxRecDepth 10000 in
theorem n81_m2 {t : sT} {Q : sRs → sT → Prop} {M : sM} {n : Nat} {T : Nat} {L0 : List Nat} {A : Nat} {B : Nat} {s : Bool}
    (hW : Wc t M n T L0 A B)
    (k0 : Q (.inl (some (.inl (-10000)))) t) :
    X 81 0 [.inr (.inr (10, (some 0))), .inr (.inr (1, (some 2))), .inl (-1), .inl (bz s), sJk, sJk, sJk, sJk] [] t Q := by
  obtain ⟨hM, hc, hR, hC, hL, hL9⟩ := hW
  refine x_aload_n (pc' := 1) rfl rfl rfl rfl rfl ?_
  refine x_aload_n (pc' := 2) rfl rfl rfl rfl rfl ?_
  refine x_iload_n (pc' := 3) rfl rfl rfl ?_
  refine x_iconst (pc' := 4) rfl rfl ?_
  refine x_cv (ls0 := [_, _, _, _, sJk, sJk]) (rest := []) rfl rfl rfl rfl rfl ?_
  refine x_aload_n (pc' := 1) rfl rfl rfl rfl rfl ?_
  refine x_gI (pc' := 4) (x := 2) rfl rfl rfl (kI_64_2 hc.1) ?_
  refine x_iconst (pc' := 5) rfl rfl ?_
  refine x_imul (pc' := 6) (z := 6) rfl rfl (by decide) ?_
  refine x_iload_n (pc' := 7) rfl rfl rfl ?_
  refine x_iadd (pc' := 8) (z := 5) rfl rfl (by decide) ?_
  refine x_iconst (pc' := 9) rfl rfl ?_
  refine x_imul (pc' := 10) (z := 15) rfl rfl (by decide) ?_
  refine x_iload_n (pc' := 11) rfl rfl rfl ?_
  refine x_iadd (pc' := 12) (z := 15) rfl rfl (by decide) ?_
  refine x_istore (pc' := 14) (ls' := [_, _, _, _, _, _]) rfl rfl rfl rfl ?_
  refine x_iload_n (pc' := 15) rfl rfl rfl ?_
  refine x_if (a' := 36) (pc' := 18) (z := true) rfl rfl rfl (by decide) (fun _ => ?_) (fun h => by cases h)
  refine x_iconst (pc' := 37) rfl rfl ?_
  refine x_istore (pc' := 39) (ls' := [_, _, _, _, _, _]) rfl rfl rfl rfl ?_
  refine x_iload (pc' := 41) rfl rfl rfl ?_
  refine x_if (a' := 67) (pc' := 44) (z := true) rfl rfl rfl (by decide) (fun _ => ?_) (fun h => by cases h)
  refine x_iconst (pc' := 68) rfl rfl ?_
  refine x_reti rfl rfl ?_
  refine sK_i (pc' := 7) rfl ?_
  refine x_if (a' := 14) (pc' := 10) (z := false) rfl rfl rfl (by decide) (fun h => by cases h) (fun _ => ?_)
  refine x_sipush (pc' := 13) rfl rfl ?_
  refine x_reti rfl rfl ?_
  exact k0
set_option maxHeartbeats 4000000 in
set_option maxRecDepth 10000 in
theorem n81_m3 {t : sT} {Q : sRs → sT → Prop} {M : sM} {n : Nat} {T : Nat} {L0 : List Nat} {A : Nat} {B : Nat} {s : Bool}
    (hW : Wc t M n T L0 A B)
    (k0 : Q (.inl (some (.inl (-10000)))) t) :
    X 81 0 [.inr (.inr (10, (some 0))), .inr (.inr (1, (some 3))), .inl (-1), .inl (bz s), sJk, sJk, sJk, sJk] [] t Q := by
  obtain ⟨hM, hc, hR, hC, hL, hL9⟩ := hW
  refine x_aload_n (pc' := 1) rfl rfl rfl rfl rfl ?_
  refine x_aload_n (pc' := 2) rfl rfl rfl rfl rfl ?_
  refine x_iload_n (pc' := 3) rfl rfl rfl ?_
  refine x_iconst (pc' := 4) rfl rfl ?_
  refine x_cv (ls0 := [_, _, _, _, sJk, sJk]) (rest := []) rfl rfl rfl rfl rfl ?_
  refine x_aload_n (pc' := 1) rfl rfl rfl rfl rfl ?_
  refine x_gI (pc' := 4) (x := 3) rfl rfl rfl (kI_64_3 hc.1) ?_
  refine x_iconst (pc' := 5) rfl rfl ?_
  refine x_imul (pc' := 6) (z := 9) rfl rfl (by decide) ?_
  refine x_iload_n (pc' := 7) rfl rfl rfl ?_
  refine x_iadd (pc' := 8) (z := 8) rfl rfl (by decide) ?_
  refine x_iconst (pc' := 9) rfl rfl ?_
  refine x_imul (pc' := 10) (z := 24) rfl rfl (by decide) ?_
  refine x_iload_n (pc' := 11) rfl rfl rfl ?_
  refine x_iadd (pc' := 12) (z := 24) rfl rfl (by decide) ?_
  refine x_istore (pc' := 14) (ls' := [_, _, _, _, _, _]) rfl rfl rfl rfl ?_
  refine x_iload_n (pc' := 15) rfl rfl rfl ?_
  refine x_if (a' := 36) (pc' := 18) (z := true) rfl rfl rfl (by decide) (fun _ => ?_) (fun h => by cases h)
  refine x_iconst (pc' := 37) rfl rfl ?_
  refine x_istore (pc' := 39) (ls' := [_, _, _, _, _, _]) rfl rfl rfl rfl ?_
  refine x_iload (pc' := 41) rfl rfl rfl ?_
  refine x_if (a' := 67) (pc' := 44) (z := true) rfl rfl rfl (by decide) (fun _ => ?_) (fun h => by cases h)
  refine x_iconst (pc' := 68) rfl rfl ?_
  refine x_reti rfl rfl ?_
  refine sK_i (pc' := 7) rfl ?_
  refine x_if (a' := 14) (pc' := 10) (z := false) rfl rfl rfl (by decide) (fun h => by cases h) (fun _ => ?_)
  refine x_sipush (pc' := 13) rfl rfl ?_
  refine x_reti rfl rfl ?_
  exact k0
set_option maxHeartbeats 4000000 in
set_option maxRecDepth 10000 in
theorem n81_m4 {t : sT} {Q : sRs → sT → Prop} {M : sM} {n : Nat} {T : Nat} {L0 : List Nat} {A : Nat} {B : Nat} {s : Bool}
    (hW : Wc t M n T L0 A B)
    (k0 : Q (.inl (some (.inl (-10000)))) t) :
    X 81 0 [.inr (.inr (10, (some 0))), .inr (.inr (1, (some 4))), .inl (-1), .inl (bz s), sJk, sJk, sJk, sJk] [] t Q := by
  obtain ⟨hM, hc, hR, hC, hL, hL9⟩ := hW
  refine x_aload_n (pc' := 1) rfl rfl rfl rfl rfl ?_
  refine x_aload_n (pc' := 2) rfl rfl rfl rfl rfl ?_
  refine x_iload_n (pc' := 3) rfl rfl rfl ?_
  refine x_iconst (pc' := 4) rfl rfl ?_
  refine x_cv (ls0 := [_, _, _, _, sJk, sJk]) (rest := []) rfl rfl rfl rfl rfl ?_
  refine x_aload_n (pc' := 1) rfl rfl rfl rfl rfl ?_
  refine x_gI (pc' := 4) (x := 4) rfl rfl rfl (kI_64_4 hc.1) ?_
  refine x_iconst (pc' := 5) rfl rfl ?_
  refine x_imul (pc' := 6) (z := 12) rfl rfl (by decide) ?_
  refine x_iload_n (pc' := 7) rfl rfl rfl ?_
  refine x_iadd (pc' := 8) (z := 11) rfl rfl (by decide) ?_
  refine x_iconst (pc' := 9) rfl rfl ?_
  refine x_imul (pc' := 10) (z := 33) rfl rfl (by decide) ?_
  refine x_iload_n (pc' := 11) rfl rfl rfl ?_
  refine x_iadd (pc' := 12) (z := 33) rfl rfl (by decide) ?_
  refine x_istore (pc' := 14) (ls' := [_, _, _, _, _, _]) rfl rfl rfl rfl ?_
  refine x_iload_n (pc' := 15) rfl rfl rfl ?_
  refine x_if (a' := 36) (pc' := 18) (z := true) rfl rfl rfl (by decide) (fun _ => ?_) (fun h => by cases h)
  refine x_iconst (pc' := 37) rfl rfl ?_
  refine x_istore (pc' := 39) (ls' := [_, _, _, _, _, _]) rfl rfl rfl rfl ?_
  refine x_iload (pc' := 41) rfl rfl rfl ?_
  refine x_if (a' := 67) (pc' := 44) (z := true) rfl rfl rfl (by decide) (fun _ => ?_) (fun h => by cases h)
  refine x_iconst (pc' := 68) rfl rfl ?_
  refine x_reti rfl rfl ?_
  refine sK_i (pc' := 7) rfl ?_
  refine x_if (a' := 14) (pc' := 10) (z := false) rfl rfl rfl (by decide) (fun h => by cases h) (fun _ => ?_)
  refine x_sipush (pc' := 13) rfl rfl ?_
  refine x_reti rfl rfl ?_
  exact k0
section S69
variable {t t' t0 : sT} {M M' M0 N : sM} {n T A B b c m o k x y K w f : Nat} {p a d sz : Int32} {s z : Bool} {L L' l : List Nat} {V : TV} {Q : sRs → sT → Prop}
theorem w81m (hW : Wc t M n T L A B) (hb : b < 5) (k0 : Q (.inl (some (.inl (-10000)))) t) :
    X 81 0 [.inr (.inr (10, (some 0))), .inr (.inr (1, (some b))), .inl (-1), .inl (bz s), sJk, sJk, sJk, sJk] [] t Q := by
  match b, hb with
  | 0, _ => exact n81_m0 hW k0
  | 1, _ => exact n81_m1 hW k0
  | 2, _ => exact n81_m2 hW k0
  | 3, _ => exact n81_m3 hW k0
  | 4, _ => exact n81_m4 hW k0
theorem tbT_b : ∀ (g : Nat → Int32) (l : List Nat) (T : Nat), T ≤ tbT b g l T ∧ tbT b g l T ≤ T + 2 * l.length
  | _, [], T => ⟨Nat.le_refl _, Nat.le_refl _⟩
  | g, x :: l, T => by
    have hd := dbT_le (b := b) (T := T)
    obtain ⟨i1, i2⟩ := tbT_b g l (dbT b T)
    obtain ⟨j1, j2⟩ := tbT_b g l T
    have e : tbT b g (x :: l) T = (bif decide (0 < g x) then tbT b g l (dbT b T) else tbT b g l T) := rfl
    rw [e]
    have hl : (x :: l).length = l.length + 1 := rfl
    rw [hl]
    cases decide (0 < g x) with
    | true => exact ⟨show T ≤ tbT b g l (dbT b T) by omega, show tbT b g l (dbT b T) ≤ _ by omega⟩
    | false => exact ⟨show T ≤ tbT b g l T by omega, show tbT b g l T ≤ _ by omega⟩
theorem ltS_lt (h : ∀ d, V.2.2.1 x = some d → d < 3) {f : Option Nat} (hf : ∀ j, f = some j → j < 3) : ∀ j, ltS M V f x = some j → j < 3 := by
  intro j hj
  cases f with
  | none =>
    unfold ltS at hj
    cases h1 : V.2.2.1 x with
    | none => rw [h1] at hj; cases hj
    | some d =>
      rw [h1] at hj
      have hj2 : (bif tfB M d (V.2.1 x) then some d else none) = some j := hj
      rcases bif_e hj2 with e | e
      · cases e; exact h _ h1
      · cases e
  | some g =>
    unfold ltS at hj
    cases h1 : V.2.2.1 x with
    | none => rw [h1] at hj; exact hf j hj
    | some d =>
      rw [h1] at hj
      have hj2 : (bif tfB M d (V.2.1 x) then (bif decide (d < g) then some d else some g) else some g) = some j := hj
      rcases bif_e hj2 with e | e
      · rcases bif_e e with e | e
        · cases e; exact h _ h1
        · exact hf j e
      · exact hf j e
theorem ltF_lt : ∀ {l : List Nat} {f : Option Nat}, (∀ x, x ∈ l → ∀ d, V.2.2.1 x = some d → d < 3) → (∀ j, f = some j → j < 3) → ∀ j, ltF M V f l = some j → j < 3
  | [], f, _, hf, j, hj => hf j hj
  | x :: l, f, h, hf, j, hj => ltF_lt (fun y hy => h y (List.mem_cons_of_mem x hy)) (ltS_lt (h x List.mem_cons_self) hf) j hj
theorem ga_00 (h : lgO M n 0 s 0 = some L) : gaL M n 0 0 s 3 = L := by
    obtain ⟨g1, g2⟩ := lgF_all (Q9 := [(0, false)]) h
    cases s with
    | false =>
      have e1 : olF M n 0 false = none := rfl
      have e2 : olF M n 0 false = none := rfl
      have k0 := g2 (0, false) List.mem_cons_self
      have e0 : olF M n (1) false = some (ovD (bsF M n 0 (!(xor false false)))) := ol_ok (i := 0) k0.1 k0.2
      show (([] ++ (olF M n (1) false).toList) ++ (olF M n (0) false).toList) ++ (olF M n (0) false).toList = L
      rw [e0, e1, g1]
      rfl
    | true =>
      have e1 : olF M n 0 true = none := rfl
      have e2 : olF M n 0 true = none := rfl
      have k0 := g2 (0, false) List.mem_cons_self
      have e0 : olF M n (1) true = some (ovD (bsF M n 0 (!(xor false true)))) := ol_ok (i := 0) k0.1 k0.2
      show (([] ++ (olF M n (1) true).toList) ++ (olF M n (0) true).toList) ++ (olF M n (0) true).toList = L
      rw [e0, e1, g1]
      rfl
theorem ga_01 (h : lgO M n 0 s 1 = some L) : gaL M n 0 1 s 3 = L := by
    obtain ⟨g1, g2⟩ := lgF_all (Q9 := [(3, false), (1, false)]) h
    cases s with
    | false =>
      have e2 : olF M n 0 false = none := rfl
      have k0 := g2 (3, false) List.mem_cons_self
      have e0 : olF M n (4) false = some (ovD (bsF M n 3 (!(xor false false)))) := ol_ok (i := 3) k0.1 k0.2
      have k1 := g2 (1, false) (List.mem_cons_of_mem _ List.mem_cons_self)
      have e1 : olF M n (2) false = some (ovD (bsF M n 1 (!(xor false false)))) := ol_ok (i := 1) k1.1 k1.2
      show (([] ++ (olF M n (4) false).toList) ++ (olF M n (2) false).toList) ++ (olF M n (0) false).toList = L
      rw [e0, e1, e2, g1]
      rfl
    | true =>
      have e2 : olF M n 0 true = none := rfl
      have k0 := g2 (3, false) List.mem_cons_self
      have e0 : olF M n (4) true = some (ovD (bsF M n 3 (!(xor false true)))) := ol_ok (i := 3) k0.1 k0.2
      have k1 := g2 (1, false) (List.mem_cons_of_mem _ List.mem_cons_self)
      have e1 : olF M n (2) true = some (ovD (bsF M n 1 (!(xor false true)))) := ol_ok (i := 1) k1.1 k1.2
      show (([] ++ (olF M n (4) true).toList) ++ (olF M n (2) true).toList) ++ (olF M n (0) true).toList = L
      rw [e0, e1, e2, g1]
      rfl
theorem ga_02 (h : lgO M n 0 s 2 = some L) : gaL M n 0 2 s 3 = L := by
    obtain ⟨g1, g2⟩ := lgF_all (Q9 := [(3, false), (4, false), (2, false)]) h
    cases s with
    | false =>
      have k0 := g2 (3, false) List.mem_cons_self
      have e0 : olF M n (4) false = some (ovD (bsF M n 3 (!(xor false false)))) := ol_ok (i := 3) k0.1 k0.2
      have k1 := g2 (4, false) (List.mem_cons_of_mem _ List.mem_cons_self)
      have e1 : olF M n (5) false = some (ovD (bsF M n 4 (!(xor false false)))) := ol_ok (i := 4) k1.1 k1.2
      have k2 := g2 (2, false) (List.mem_cons_of_mem _ (List.mem_cons_of_mem _ List.mem_cons_self))
      have e2 : olF M n (3) false = some (ovD (bsF M n 2 (!(xor false false)))) := ol_ok (i := 2) k2.1 k2.2
      show (([] ++ (olF M n (4) false).toList) ++ (olF M n (5) false).toList) ++ (olF M n (3) false).toList = L
      rw [e0, e1, e2, g1]
      rfl
    | true =>
      have k0 := g2 (3, false) List.mem_cons_self
      have e0 : olF M n (4) true = some (ovD (bsF M n 3 (!(xor false true)))) := ol_ok (i := 3) k0.1 k0.2
      have k1 := g2 (4, false) (List.mem_cons_of_mem _ List.mem_cons_self)
      have e1 : olF M n (5) true = some (ovD (bsF M n 4 (!(xor false true)))) := ol_ok (i := 4) k1.1 k1.2
      have k2 := g2 (2, false) (List.mem_cons_of_mem _ (List.mem_cons_of_mem _ List.mem_cons_self))
      have e2 : olF M n (3) true = some (ovD (bsF M n 2 (!(xor false true)))) := ol_ok (i := 2) k2.1 k2.2
      show (([] ++ (olF M n (4) true).toList) ++ (olF M n (5) true).toList) ++ (olF M n (3) true).toList = L
      rw [e0, e1, e2, g1]
      rfl
theorem ga_10 (h : lgO M n 1 s 0 = some L) : gaL M n 1 0 s 3 = L := by
    obtain ⟨g1, g2⟩ := lgF_all (Q9 := [(1, false)]) h
    cases s with
    | false =>
      have e1 : olF M n 0 false = none := rfl
      have e2 : olF M n 0 false = none := rfl
      have k0 := g2 (1, false) List.mem_cons_self
      have e0 : olF M n (2) false = some (ovD (bsF M n 1 (!(xor false false)))) := ol_ok (i := 1) k0.1 k0.2
      show (([] ++ (olF M n (2) false).toList) ++ (olF M n (0) false).toList) ++ (olF M n (0) false).toList = L
      rw [e0, e1, g1]
      rfl
    | true =>
      have e1 : olF M n 0 true = none := rfl
      have e2 : olF M n 0 true = none := rfl
      have k0 := g2 (1, false) List.mem_cons_self
      have e0 : olF M n (2) true = some (ovD (bsF M n 1 (!(xor false true)))) := ol_ok (i := 1) k0.1 k0.2
      show (([] ++ (olF M n (2) true).toList) ++ (olF M n (0) true).toList) ++ (olF M n (0) true).toList = L
      rw [e0, e1, g1]
      rfl
theorem ga_11 (h : lgO M n 1 s 1 = some L) : gaL M n 1 1 s 3 = L := by
    obtain ⟨g1, g2⟩ := lgF_all (Q9 := [(4, false), (2, false)]) h
    cases s with
    | false =>
      have e2 : olF M n 0 false = none := rfl
      have k0 := g2 (4, false) List.mem_cons_self
      have e0 : olF M n (5) false = some (ovD (bsF M n 4 (!(xor false false)))) := ol_ok (i := 4) k0.1 k0.2
      have k1 := g2 (2, false) (List.mem_cons_of_mem _ List.mem_cons_self)
      have e1 : olF M n (3) false = some (ovD (bsF M n 2 (!(xor false false)))) := ol_ok (i := 2) k1.1 k1.2
      show (([] ++ (olF M n (5) false).toList) ++ (olF M n (3) false).toList) ++ (olF M n (0) false).toList = L
      rw [e0, e1, e2, g1]
      rfl
    | true =>
      have e2 : olF M n 0 true = none := rfl
      have k0 := g2 (4, false) List.mem_cons_self
      have e0 : olF M n (5) true = some (ovD (bsF M n 4 (!(xor false true)))) := ol_ok (i := 4) k0.1 k0.2
      have k1 := g2 (2, false) (List.mem_cons_of_mem _ List.mem_cons_self)
      have e1 : olF M n (3) true = some (ovD (bsF M n 2 (!(xor false true)))) := ol_ok (i := 2) k1.1 k1.2
      show (([] ++ (olF M n (5) true).toList) ++ (olF M n (3) true).toList) ++ (olF M n (0) true).toList = L
      rw [e0, e1, e2, g1]
      rfl
theorem ga_12 (h : lgO M n 1 s 2 = some L) : gaL M n 1 2 s 3 = L := by
    obtain ⟨g1, g2⟩ := lgF_all (Q9 := [(3, true), (0, false)]) h
    cases s with
    | false =>
      have e2 : olF M n 0 false = none := rfl
      have k0 := g2 (3, true) List.mem_cons_self
      have e0 : olF M n (-4) false = some (ovD (bsF M n 3 (!(xor true false)))) := ol_ok (i := 3) k0.1 k0.2
      have k1 := g2 (0, false) (List.mem_cons_of_mem _ List.mem_cons_self)
      have e1 : olF M n (1) false = some (ovD (bsF M n 0 (!(xor false false)))) := ol_ok (i := 0) k1.1 k1.2
      show (([] ++ (olF M n (-4) false).toList) ++ (olF M n (1) false).toList) ++ (olF M n (0) false).toList = L
      rw [e0, e1, e2, g1]
      rfl
    | true =>
      have e2 : olF M n 0 true = none := rfl
      have k0 := g2 (3, true) List.mem_cons_self
      have e0 : olF M n (-4) true = some (ovD (bsF M n 3 (!(xor true true)))) := ol_ok (i := 3) k0.1 k0.2
      have k1 := g2 (0, false) (List.mem_cons_of_mem _ List.mem_cons_self)
      have e1 : olF M n (1) true = some (ovD (bsF M n 0 (!(xor false true)))) := ol_ok (i := 0) k1.1 k1.2
      show (([] ++ (olF M n (-4) true).toList) ++ (olF M n (1) true).toList) ++ (olF M n (0) true).toList = L
      rw [e0, e1, e2, g1]
      rfl
theorem ga_20 (h : lgO M n 2 s 0 = some L) : gaL M n 2 0 s 3 = L := by
    obtain ⟨g1, g2⟩ := lgF_all (Q9 := [(2, false)]) h
    cases s with
    | false =>
      have e1 : olF M n 0 false = none := rfl
      have e2 : olF M n 0 false = none := rfl
      have k0 := g2 (2, false) List.mem_cons_self
      have e0 : olF M n (3) false = some (ovD (bsF M n 2 (!(xor false false)))) := ol_ok (i := 2) k0.1 k0.2
      show (([] ++ (olF M n (3) false).toList) ++ (olF M n (0) false).toList) ++ (olF M n (0) false).toList = L
      rw [e0, e1, g1]
      rfl
    | true =>
      have e1 : olF M n 0 true = none := rfl
      have e2 : olF M n 0 true = none := rfl
      have k0 := g2 (2, false) List.mem_cons_self
      have e0 : olF M n (3) true = some (ovD (bsF M n 2 (!(xor false true)))) := ol_ok (i := 2) k0.1 k0.2
      show (([] ++ (olF M n (3) true).toList) ++ (olF M n (0) true).toList) ++ (olF M n (0) true).toList = L
      rw [e0, e1, g1]
      rfl
theorem ga_21 (h : lgO M n 2 s 1 = some L) : gaL M n 2 1 s 3 = L := by
    obtain ⟨g1, g2⟩ := lgF_all (Q9 := [(4, true), (1, false)]) h
    cases s with
    | false =>
      have e2 : olF M n 0 false = none := rfl
      have k0 := g2 (4, true) List.mem_cons_self
      have e0 : olF M n (-5) false = some (ovD (bsF M n 4 (!(xor true false)))) := ol_ok (i := 4) k0.1 k0.2
      have k1 := g2 (1, false) (List.mem_cons_of_mem _ List.mem_cons_self)
      have e1 : olF M n (2) false = some (ovD (bsF M n 1 (!(xor false false)))) := ol_ok (i := 1) k1.1 k1.2
      show (([] ++ (olF M n (-5) false).toList) ++ (olF M n (2) false).toList) ++ (olF M n (0) false).toList = L
      rw [e0, e1, e2, g1]
      rfl
    | true =>
      have e2 : olF M n 0 true = none := rfl
      have k0 := g2 (4, true) List.mem_cons_self
      have e0 : olF M n (-5) true = some (ovD (bsF M n 4 (!(xor true true)))) := ol_ok (i := 4) k0.1 k0.2
      have k1 := g2 (1, false) (List.mem_cons_of_mem _ List.mem_cons_self)
      have e1 : olF M n (2) true = some (ovD (bsF M n 1 (!(xor false true)))) := ol_ok (i := 1) k1.1 k1.2
      show (([] ++ (olF M n (-5) true).toList) ++ (olF M n (2) true).toList) ++ (olF M n (0) true).toList = L
      rw [e0, e1, e2, g1]
      rfl
theorem ga_22 (h : lgO M n 2 s 2 = some L) : gaL M n 2 2 s 3 = L := by
    obtain ⟨g1, g2⟩ := lgF_all (Q9 := [(4, true), (3, true), (0, false)]) h
    cases s with
    | false =>
      have k0 := g2 (4, true) List.mem_cons_self
      have e0 : olF M n (-5) false = some (ovD (bsF M n 4 (!(xor true false)))) := ol_ok (i := 4) k0.1 k0.2
      have k1 := g2 (3, true) (List.mem_cons_of_mem _ List.mem_cons_self)
      have e1 : olF M n (-4) false = some (ovD (bsF M n 3 (!(xor true false)))) := ol_ok (i := 3) k1.1 k1.2
      have k2 := g2 (0, false) (List.mem_cons_of_mem _ (List.mem_cons_of_mem _ List.mem_cons_self))
      have e2 : olF M n (1) false = some (ovD (bsF M n 0 (!(xor false false)))) := ol_ok (i := 0) k2.1 k2.2
      show (([] ++ (olF M n (-5) false).toList) ++ (olF M n (-4) false).toList) ++ (olF M n (1) false).toList = L
      rw [e0, e1, e2, g1]
      rfl
    | true =>
      have k0 := g2 (4, true) List.mem_cons_self
      have e0 : olF M n (-5) true = some (ovD (bsF M n 4 (!(xor true true)))) := ol_ok (i := 4) k0.1 k0.2
      have k1 := g2 (3, true) (List.mem_cons_of_mem _ List.mem_cons_self)
      have e1 : olF M n (-4) true = some (ovD (bsF M n 3 (!(xor true true)))) := ol_ok (i := 3) k1.1 k1.2
      have k2 := g2 (0, false) (List.mem_cons_of_mem _ (List.mem_cons_of_mem _ List.mem_cons_self))
      have e2 : olF M n (1) true = some (ovD (bsF M n 0 (!(xor false true)))) := ol_ok (i := 0) k2.1 k2.2
      show (([] ++ (olF M n (-5) true).toList) ++ (olF M n (-4) true).toList) ++ (olF M n (1) true).toList = L
      rw [e0, e1, e2, g1]
      rfl
theorem ga_30 (h : lgO M n 3 s 0 = some L) : gaL M n 3 0 s 3 = L := by
    obtain ⟨g1, g2⟩ := lgF_all (Q9 := [(3, false)]) h
    cases s with
    | false =>
      have e1 : olF M n 0 false = none := rfl
      have e2 : olF M n 0 false = none := rfl
      have k0 := g2 (3, false) List.mem_cons_self
      have e0 : olF M n (4) false = some (ovD (bsF M n 3 (!(xor false false)))) := ol_ok (i := 3) k0.1 k0.2
      show (([] ++ (olF M n (4) false).toList) ++ (olF M n (0) false).toList) ++ (olF M n (0) false).toList = L
      rw [e0, e1, g1]
      rfl
    | true =>
      have e1 : olF M n 0 true = none := rfl
      have e2 : olF M n 0 true = none := rfl
      have k0 := g2 (3, false) List.mem_cons_self
      have e0 : olF M n (4) true = some (ovD (bsF M n 3 (!(xor false true)))) := ol_ok (i := 3) k0.1 k0.2
      show (([] ++ (olF M n (4) true).toList) ++ (olF M n (0) true).toList) ++ (olF M n (0) true).toList = L
      rw [e0, e1, g1]
      rfl
theorem ga_31 (h : lgO M n 3 s 1 = some L) : gaL M n 3 1 s 3 = L := by
    obtain ⟨g1, g2⟩ := lgF_all (Q9 := [(0, false), (1, true)]) h
    cases s with
    | false =>
      have e2 : olF M n 0 false = none := rfl
      have k0 := g2 (0, false) List.mem_cons_self
      have e0 : olF M n (1) false = some (ovD (bsF M n 0 (!(xor false false)))) := ol_ok (i := 0) k0.1 k0.2
      have k1 := g2 (1, true) (List.mem_cons_of_mem _ List.mem_cons_self)
      have e1 : olF M n (-2) false = some (ovD (bsF M n 1 (!(xor true false)))) := ol_ok (i := 1) k1.1 k1.2
      show (([] ++ (olF M n (1) false).toList) ++ (olF M n (-2) false).toList) ++ (olF M n (0) false).toList = L
      rw [e0, e1, e2, g1]
      rfl
    | true =>
      have e2 : olF M n 0 true = none := rfl
      have k0 := g2 (0, false) List.mem_cons_self
      have e0 : olF M n (1) true = some (ovD (bsF M n 0 (!(xor false true)))) := ol_ok (i := 0) k0.1 k0.2
      have k1 := g2 (1, true) (List.mem_cons_of_mem _ List.mem_cons_self)
      have e1 : olF M n (-2) true = some (ovD (bsF M n 1 (!(xor true true)))) := ol_ok (i := 1) k1.1 k1.2
      show (([] ++ (olF M n (1) true).toList) ++ (olF M n (-2) true).toList) ++ (olF M n (0) true).toList = L
      rw [e0, e1, e2, g1]
      rfl
theorem ga_40 (h : lgO M n 4 s 0 = some L) : gaL M n 4 0 s 3 = L := by
    obtain ⟨g1, g2⟩ := lgF_all (Q9 := [(4, false)]) h
    cases s with
    | false =>
      have e1 : olF M n 0 false = none := rfl
      have e2 : olF M n 0 false = none := rfl
      have k0 := g2 (4, false) List.mem_cons_self
      have e0 : olF M n (5) false = some (ovD (bsF M n 4 (!(xor false false)))) := ol_ok (i := 4) k0.1 k0.2
      show (([] ++ (olF M n (5) false).toList) ++ (olF M n (0) false).toList) ++ (olF M n (0) false).toList = L
      rw [e0, e1, g1]
      rfl
    | true =>
      have e1 : olF M n 0 true = none := rfl
      have e2 : olF M n 0 true = none := rfl
      have k0 := g2 (4, false) List.mem_cons_self
      have e0 : olF M n (5) true = some (ovD (bsF M n 4 (!(xor false true)))) := ol_ok (i := 4) k0.1 k0.2
      show (([] ++ (olF M n (5) true).toList) ++ (olF M n (0) true).toList) ++ (olF M n (0) true).toList = L
      rw [e0, e1, g1]
      rfl
theorem ga_41 (h : lgO M n 4 s 1 = some L) : gaL M n 4 1 s 3 = L := by
    obtain ⟨g1, g2⟩ := lgF_all (Q9 := [(1, false), (2, true)]) h
    cases s with
    | false =>
      have e2 : olF M n 0 false = none := rfl
      have k0 := g2 (1, false) List.mem_cons_self
      have e0 : olF M n (2) false = some (ovD (bsF M n 1 (!(xor false false)))) := ol_ok (i := 1) k0.1 k0.2
      have k1 := g2 (2, true) (List.mem_cons_of_mem _ List.mem_cons_self)
      have e1 : olF M n (-3) false = some (ovD (bsF M n 2 (!(xor true false)))) := ol_ok (i := 2) k1.1 k1.2
      show (([] ++ (olF M n (2) false).toList) ++ (olF M n (-3) false).toList) ++ (olF M n (0) false).toList = L
      rw [e0, e1, e2, g1]
      rfl
    | true =>
      have e2 : olF M n 0 true = none := rfl
      have k0 := g2 (1, false) List.mem_cons_self
      have e0 : olF M n (2) true = some (ovD (bsF M n 1 (!(xor false true)))) := ol_ok (i := 1) k0.1 k0.2
      have k1 := g2 (2, true) (List.mem_cons_of_mem _ List.mem_cons_self)
      have e1 : olF M n (-3) true = some (ovD (bsF M n 2 (!(xor true true)))) := ol_ok (i := 2) k1.1 k1.2
      show (([] ++ (olF M n (2) true).toList) ++ (olF M n (-3) true).toList) ++ (olF M n (0) true).toList = L
      rw [e0, e1, e2, g1]
      rfl
theorem lg_mem (hb : b < 5) (hw : w < 3) (h : lgO M n b s w = some L) : (∀ x, x ∈ L → x < n ∧ mA M 19 x = 1) ∧ L.Nodup ∧ L.length ≤ 3 ∧ (b < 3 ∨ ¬ w = 1 ∨ ∃ o0 o1, L = [o0, o1]) ∧ gaL M n b w s 3 = L ∧ (w = 0 → ∃ x, L = [x] ∧ oB M x = b) := by
  match b, hb, w, hw with
  | 0, _, 0, _ =>
    obtain ⟨g1, g2⟩ := lgF_all (Q9 := [(0, false)]) h
    have hLw := Lw_of (Q9 := [(0, false)]) h
    have ga := ga_00 h
    have hlen := congrArg List.length hLw.2
    rw [List.length_map] at hlen
    have hlen2 : L.length = 1 := hlen
    have hnd : L.Nodup := nd_map (f := oB M) (by rw [hLw.2]; decide)
    refine ⟨fun x hx => ⟨(hLw.1 x hx).1, (hLw.1 x hx).2.1⟩, hnd, by omega, Or.inl (by decide), ga, fun hw0 => ?_⟩
    have e2 := hLw.2
    rw [g1] at e2 ⊢
    exact ⟨_, rfl, (List.cons.inj e2).1⟩
  | 0, _, 1, _ =>
    obtain ⟨g1, g2⟩ := lgF_all (Q9 := [(3, false), (1, false)]) h
    have hLw := Lw_of (Q9 := [(3, false), (1, false)]) h
    have ga := ga_01 h
    have hlen := congrArg List.length hLw.2
    rw [List.length_map] at hlen
    have hlen2 : L.length = 2 := hlen
    have hnd : L.Nodup := nd_map (f := oB M) (by rw [hLw.2]; decide)
    refine ⟨fun x hx => ⟨(hLw.1 x hx).1, (hLw.1 x hx).2.1⟩, hnd, by omega, Or.inl (by decide), ga, fun hw0 => ?_⟩
    exact absurd hw0 (by decide)
  | 0, _, 2, _ =>
    obtain ⟨g1, g2⟩ := lgF_all (Q9 := [(3, false), (4, false), (2, false)]) h
    have hLw := Lw_of (Q9 := [(3, false), (4, false), (2, false)]) h
    have ga := ga_02 h
    have hlen := congrArg List.length hLw.2
    rw [List.length_map] at hlen
    have hlen2 : L.length = 3 := hlen
    have hnd : L.Nodup := nd_map (f := oB M) (by rw [hLw.2]; decide)
    refine ⟨fun x hx => ⟨(hLw.1 x hx).1, (hLw.1 x hx).2.1⟩, hnd, by omega, Or.inl (by decide), ga, fun hw0 => ?_⟩
    exact absurd hw0 (by decide)
  | 1, _, 0, _ =>
    obtain ⟨g1, g2⟩ := lgF_all (Q9 := [(1, false)]) h
    have hLw := Lw_of (Q9 := [(1, false)]) h
    have ga := ga_10 h
    have hlen := congrArg List.length hLw.2
    rw [List.length_map] at hlen
    have hlen2 : L.length = 1 := hlen
    have hnd : L.Nodup := nd_map (f := oB M) (by rw [hLw.2]; decide)
    refine ⟨fun x hx => ⟨(hLw.1 x hx).1, (hLw.1 x hx).2.1⟩, hnd, by omega, Or.inl (by decide), ga, fun hw0 => ?_⟩
    have e2 := hLw.2
    rw [g1] at e2 ⊢
    exact ⟨_, rfl, (List.cons.inj e2).1⟩
  | 1, _, 1, _ =>
    obtain ⟨g1, g2⟩ := lgF_all (Q9 := [(4, false), (2, false)]) h
    have hLw := Lw_of (Q9 := [(4, false), (2, false)]) h
    have ga := ga_11 h
    have hlen := congrArg List.length hLw.2
    rw [List.length_map] at hlen
    have hlen2 : L.length = 2 := hlen
    have hnd : L.Nodup := nd_map (f := oB M) (by rw [hLw.2]; decide)
    refine ⟨fun x hx => ⟨(hLw.1 x hx).1, (hLw.1 x hx).2.1⟩, hnd, by omega, Or.inl (by decide), ga, fun hw0 => ?_⟩
    exact absurd hw0 (by decide)
  | 1, _, 2, _ =>
    obtain ⟨g1, g2⟩ := lgF_all (Q9 := [(3, true), (0, false)]) h
    have hLw := Lw_of (Q9 := [(3, true), (0, false)]) h
    have ga := ga_12 h
    have hlen := congrArg List.length hLw.2
    rw [List.length_map] at hlen
    have hlen2 : L.length = 2 := hlen
    have hnd : L.Nodup := nd_map (f := oB M) (by rw [hLw.2]; decide)
    refine ⟨fun x hx => ⟨(hLw.1 x hx).1, (hLw.1 x hx).2.1⟩, hnd, by omega, Or.inl (by decide), ga, fun hw0 => ?_⟩
    exact absurd hw0 (by decide)
  | 2, _, 0, _ =>
    obtain ⟨g1, g2⟩ := lgF_all (Q9 := [(2, false)]) h
    have hLw := Lw_of (Q9 := [(2, false)]) h
    have ga := ga_20 h
    have hlen := congrArg List.length hLw.2
    rw [List.length_map] at hlen
    have hlen2 : L.length = 1 := hlen
    have hnd : L.Nodup := nd_map (f := oB M) (by rw [hLw.2]; decide)
    refine ⟨fun x hx => ⟨(hLw.1 x hx).1, (hLw.1 x hx).2.1⟩, hnd, by omega, Or.inl (by decide), ga, fun hw0 => ?_⟩
    have e2 := hLw.2
    rw [g1] at e2 ⊢
    exact ⟨_, rfl, (List.cons.inj e2).1⟩
  | 2, _, 1, _ =>
    obtain ⟨g1, g2⟩ := lgF_all (Q9 := [(4, true), (1, false)]) h
    have hLw := Lw_of (Q9 := [(4, true), (1, false)]) h
    have ga := ga_21 h
    have hlen := congrArg List.length hLw.2
    rw [List.length_map] at hlen
    have hlen2 : L.length = 2 := hlen
    have hnd : L.Nodup := nd_map (f := oB M) (by rw [hLw.2]; decide)
    refine ⟨fun x hx => ⟨(hLw.1 x hx).1, (hLw.1 x hx).2.1⟩, hnd, by omega, Or.inl (by decide), ga, fun hw0 => ?_⟩
    exact absurd hw0 (by decide)
  | 2, _, 2, _ =>
    obtain ⟨g1, g2⟩ := lgF_all (Q9 := [(4, true), (3, true), (0, false)]) h
    have hLw := Lw_of (Q9 := [(4, true), (3, true), (0, false)]) h
    have ga := ga_22 h
    have hlen := congrArg List.length hLw.2
    rw [List.length_map] at hlen
    have hlen2 : L.length = 3 := hlen
    have hnd : L.Nodup := nd_map (f := oB M) (by rw [hLw.2]; decide)
    refine ⟨fun x hx => ⟨(hLw.1 x hx).1, (hLw.1 x hx).2.1⟩, hnd, by omega, Or.inl (by decide), ga, fun hw0 => ?_⟩
    exact absurd hw0 (by decide)
  | 3, _, 0, _ =>
    obtain ⟨g1, g2⟩ := lgF_all (Q9 := [(3, false)]) h
    have hLw := Lw_of (Q9 := [(3, false)]) h
    have ga := ga_30 h
    have hlen := congrArg List.length hLw.2
    rw [List.length_map] at hlen
    have hlen2 : L.length = 1 := hlen
    have hnd : L.Nodup := nd_map (f := oB M) (by rw [hLw.2]; decide)
    refine ⟨fun x hx => ⟨(hLw.1 x hx).1, (hLw.1 x hx).2.1⟩, hnd, by omega, Or.inr (Or.inl (by decide)), ga, fun hw0 => ?_⟩
    have e2 := hLw.2
    rw [g1] at e2 ⊢
    exact ⟨_, rfl, (List.cons.inj e2).1⟩
  | 3, _, 1, _ =>
    obtain ⟨g1, g2⟩ := lgF_all (Q9 := [(0, false), (1, true)]) h
    have hLw := Lw_of (Q9 := [(0, false), (1, true)]) h
    have ga := ga_31 h
    have hlen := congrArg List.length hLw.2
    rw [List.length_map] at hlen
    have hlen2 : L.length = 2 := hlen
    have hnd : L.Nodup := nd_map (f := oB M) (by rw [hLw.2]; decide)
    refine ⟨fun x hx => ⟨(hLw.1 x hx).1, (hLw.1 x hx).2.1⟩, hnd, by omega, Or.inr (Or.inr ⟨_, _, g1⟩), ga, fun hw0 => ?_⟩
    exact absurd hw0 (by decide)
  | 3, _, 2, _ => cases h
  | 4, _, 0, _ =>
    obtain ⟨g1, g2⟩ := lgF_all (Q9 := [(4, false)]) h
    have hLw := Lw_of (Q9 := [(4, false)]) h
    have ga := ga_40 h
    have hlen := congrArg List.length hLw.2
    rw [List.length_map] at hlen
    have hlen2 : L.length = 1 := hlen
    have hnd : L.Nodup := nd_map (f := oB M) (by rw [hLw.2]; decide)
    refine ⟨fun x hx => ⟨(hLw.1 x hx).1, (hLw.1 x hx).2.1⟩, hnd, by omega, Or.inr (Or.inl (by decide)), ga, fun hw0 => ?_⟩
    have e2 := hLw.2
    rw [g1] at e2 ⊢
    exact ⟨_, rfl, (List.cons.inj e2).1⟩
  | 4, _, 1, _ =>
    obtain ⟨g1, g2⟩ := lgF_all (Q9 := [(1, false), (2, true)]) h
    have hLw := Lw_of (Q9 := [(1, false), (2, true)]) h
    have ga := ga_41 h
    have hlen := congrArg List.length hLw.2
    rw [List.length_map] at hlen
    have hlen2 : L.length = 2 := hlen
    have hnd : L.Nodup := nd_map (f := oB M) (by rw [hLw.2]; decide)
    refine ⟨fun x hx => ⟨(hLw.1 x hx).1, (hLw.1 x hx).2.1⟩, hnd, by omega, Or.inr (Or.inr ⟨_, _, g1⟩), ga, fun hw0 => ?_⟩
    exact absurd hw0 (by decide)
  | 4, _, 2, _ => cases h
set_option maxHeartbeats 2000000 in
theorem far_L (hI : Iv M n) (hbq : oB M o = b) (hb : b < 5) (hw : w < 3) (hw1 : 1 ≤ w) (h : lgO M n b s w = some L) : ltF M (plV M (oB M o) false (prF M b w L) L V) none L = obF M n (LgF M b w (prF M b w L) L) (LgF M b w (prF M b w L) L).length ∧ (∀ y d, (plV M (oB M o) false (prF M b w L) L V).2.2.1 y = some d → y ∈ L → d < 3) ∧ ∀ T, T ≤ tlU (plV M (oB M o) false (prF M b w L) L V) L T ∧ tlU (plV M (oB M o) false (prF M b w L) L V) L T ≤ T + 3 := by
  have hbd := hI.2.2.2.1
  match b, hb, w, hw, hw1 with
  | _, _, 0, _, hw1 => exact absurd hw1 (by decide)
  | 0, _, 1, _, _ =>
    obtain ⟨g1, g2⟩ := lgF_all (Q9 := [(3, false), (1, false)]) h
    have hLw := Lw_of (Q9 := [(3, false), (1, false)]) h
    obtain ⟨o0, ho0⟩ : ∃ u, u = ovD (bsF M n 3 (!(xor false s))) := ⟨_, rfl⟩
    obtain ⟨o1, ho1⟩ : ∃ u, u = ovD (bsF M n 1 (!(xor false s))) := ⟨_, rfl⟩
    have eL : L = [o0, o1] := by rw [g1, ho0, ho1]; rfl
    clear g1 g2 ho0 ho1
    subst eL
    have b0 : oB M o0 = 3 := (List.cons.inj hLw.2).1
    have b1 : oB M o1 = 1 := (List.cons.inj (List.cons.inj hLw.2).2).1
    have h01 : ¬ o0 = o1 := fun e => by rw [e, b1] at b0; cases b0
    obtain ⟨f1, f2, f3⟩ := far_01 (n := n) (V0 := V) hbq b0 b1 h01 hbd
    exact ⟨f1, f2, fun T => by rw [f3 T]; exact ⟨by omega, by omega⟩⟩
  | 0, _, 2, _, _ =>
    obtain ⟨g1, g2⟩ := lgF_all (Q9 := [(3, false), (4, false), (2, false)]) h
    have hLw := Lw_of (Q9 := [(3, false), (4, false), (2, false)]) h
    obtain ⟨o0, ho0⟩ : ∃ u, u = ovD (bsF M n 3 (!(xor false s))) := ⟨_, rfl⟩
    obtain ⟨o1, ho1⟩ : ∃ u, u = ovD (bsF M n 4 (!(xor false s))) := ⟨_, rfl⟩
    obtain ⟨o2, ho2⟩ : ∃ u, u = ovD (bsF M n 2 (!(xor false s))) := ⟨_, rfl⟩
    have eL : L = [o0, o1, o2] := by rw [g1, ho0, ho1, ho2]; rfl
    clear g1 g2 ho0 ho1 ho2
    subst eL
    have b0 : oB M o0 = 3 := (List.cons.inj hLw.2).1
    have b1 : oB M o1 = 4 := (List.cons.inj (List.cons.inj hLw.2).2).1
    have b2 : oB M o2 = 2 := (List.cons.inj (List.cons.inj (List.cons.inj hLw.2).2).2).1
    have h01 : ¬ o0 = o1 := fun e => by rw [e, b1] at b0; cases b0
    have h02 : ¬ o0 = o2 := fun e => by rw [e, b2] at b0; cases b0
    have h12 : ¬ o1 = o2 := fun e => by rw [e, b2] at b1; cases b1
    obtain ⟨f1, f2, f3⟩ := far_02 (n := n) (V0 := V) hbq b0 b1 b2 h01 h02 h12 hbd
    exact ⟨f1, f2, fun T => by rw [f3 T]; exact ⟨by omega, by omega⟩⟩
  | 1, _, 1, _, _ =>
    obtain ⟨g1, g2⟩ := lgF_all (Q9 := [(4, false), (2, false)]) h
    have hLw := Lw_of (Q9 := [(4, false), (2, false)]) h
    obtain ⟨o0, ho0⟩ : ∃ u, u = ovD (bsF M n 4 (!(xor false s))) := ⟨_, rfl⟩
    obtain ⟨o1, ho1⟩ : ∃ u, u = ovD (bsF M n 2 (!(xor false s))) := ⟨_, rfl⟩
    have eL : L = [o0, o1] := by rw [g1, ho0, ho1]; rfl
    clear g1 g2 ho0 ho1
    subst eL
    have b0 : oB M o0 = 4 := (List.cons.inj hLw.2).1
    have b1 : oB M o1 = 2 := (List.cons.inj (List.cons.inj hLw.2).2).1
    have h01 : ¬ o0 = o1 := fun e => by rw [e, b1] at b0; cases b0
    obtain ⟨f1, f2, f3⟩ := far_11 (n := n) (V0 := V) hbq b0 b1 h01 hbd
    exact ⟨f1, f2, fun T => by rw [f3 T]; exact ⟨by omega, by omega⟩⟩
  | 1, _, 2, _, _ =>
    obtain ⟨g1, g2⟩ := lgF_all (Q9 := [(3, true), (0, false)]) h
    have hLw := Lw_of (Q9 := [(3, true), (0, false)]) h
    obtain ⟨o0, ho0⟩ : ∃ u, u = ovD (bsF M n 3 (!(xor true s))) := ⟨_, rfl⟩
    obtain ⟨o1, ho1⟩ : ∃ u, u = ovD (bsF M n 0 (!(xor false s))) := ⟨_, rfl⟩
    have eL : L = [o0, o1] := by rw [g1, ho0, ho1]; rfl
    clear g1 g2 ho0 ho1
    subst eL
    have b0 : oB M o0 = 3 := (List.cons.inj hLw.2).1
    have b1 : oB M o1 = 0 := (List.cons.inj (List.cons.inj hLw.2).2).1
    have h01 : ¬ o0 = o1 := fun e => by rw [e, b1] at b0; cases b0
    obtain ⟨f1, f2, f3⟩ := far_12 (n := n) (V0 := V) hbq b0 b1 h01 hbd
    exact ⟨f1, f2, fun T => by rw [f3 T]; exact ⟨by omega, by omega⟩⟩
  | 2, _, 1, _, _ =>
    obtain ⟨g1, g2⟩ := lgF_all (Q9 := [(4, true), (1, false)]) h
    have hLw := Lw_of (Q9 := [(4, true), (1, false)]) h
    obtain ⟨o0, ho0⟩ : ∃ u, u = ovD (bsF M n 4 (!(xor true s))) := ⟨_, rfl⟩
    obtain ⟨o1, ho1⟩ : ∃ u, u = ovD (bsF M n 1 (!(xor false s))) := ⟨_, rfl⟩
    have eL : L = [o0, o1] := by rw [g1, ho0, ho1]; rfl
    clear g1 g2 ho0 ho1
    subst eL
    have b0 : oB M o0 = 4 := (List.cons.inj hLw.2).1
    have b1 : oB M o1 = 1 := (List.cons.inj (List.cons.inj hLw.2).2).1
    have h01 : ¬ o0 = o1 := fun e => by rw [e, b1] at b0; cases b0
    obtain ⟨f1, f2, f3⟩ := far_21 (n := n) (V0 := V) hbq b0 b1 h01 hbd
    exact ⟨f1, f2, fun T => by rw [f3 T]; exact ⟨by omega, by omega⟩⟩
  | 2, _, 2, _, _ =>
    obtain ⟨g1, g2⟩ := lgF_all (Q9 := [(4, true), (3, true), (0, false)]) h
    have hLw := Lw_of (Q9 := [(4, true), (3, true), (0, false)]) h
    obtain ⟨o0, ho0⟩ : ∃ u, u = ovD (bsF M n 4 (!(xor true s))) := ⟨_, rfl⟩
    obtain ⟨o1, ho1⟩ : ∃ u, u = ovD (bsF M n 3 (!(xor true s))) := ⟨_, rfl⟩
    obtain ⟨o2, ho2⟩ : ∃ u, u = ovD (bsF M n 0 (!(xor false s))) := ⟨_, rfl⟩
    have eL : L = [o0, o1, o2] := by rw [g1, ho0, ho1, ho2]; rfl
    clear g1 g2 ho0 ho1 ho2
    subst eL
    have b0 : oB M o0 = 4 := (List.cons.inj hLw.2).1
    have b1 : oB M o1 = 3 := (List.cons.inj (List.cons.inj hLw.2).2).1
    have b2 : oB M o2 = 0 := (List.cons.inj (List.cons.inj (List.cons.inj hLw.2).2).2).1
    have h01 : ¬ o0 = o1 := fun e => by rw [e, b1] at b0; cases b0
    have h02 : ¬ o0 = o2 := fun e => by rw [e, b2] at b0; cases b0
    have h12 : ¬ o1 = o2 := fun e => by rw [e, b2] at b1; cases b1
    obtain ⟨f1, f2, f3⟩ := far_22 (n := n) (V0 := V) hbq b0 b1 b2 h01 h02 h12 hbd
    exact ⟨f1, f2, fun T => by rw [f3 T]; exact ⟨by omega, by omega⟩⟩
  | 3, _, 1, _, _ =>
    obtain ⟨g1, g2⟩ := lgF_all (Q9 := [(0, false), (1, true)]) h
    have hLw := Lw_of (Q9 := [(0, false), (1, true)]) h
    obtain ⟨o0, ho0⟩ : ∃ u, u = ovD (bsF M n 0 (!(xor false s))) := ⟨_, rfl⟩
    obtain ⟨o1, ho1⟩ : ∃ u, u = ovD (bsF M n 1 (!(xor true s))) := ⟨_, rfl⟩
    have eL : L = [o0, o1] := by rw [g1, ho0, ho1]; rfl
    clear g1 g2 ho0 ho1
    subst eL
    have b0 : oB M o0 = 0 := (List.cons.inj hLw.2).1
    have b1 : oB M o1 = 1 := (List.cons.inj (List.cons.inj hLw.2).2).1
    have h01 : ¬ o0 = o1 := fun e => by rw [e, b1] at b0; cases b0
    obtain ⟨f1, f2, f3⟩ := far_31 (n := n) (V0 := V) hbq b0 b1 h01 hbd
    exact ⟨f1, f2, fun T => by rw [f3 T]; exact ⟨by omega, by omega⟩⟩
  | 3, _, 2, _, _ => cases h
  | 4, _, 1, _, _ =>
    obtain ⟨g1, g2⟩ := lgF_all (Q9 := [(1, false), (2, true)]) h
    have hLw := Lw_of (Q9 := [(1, false), (2, true)]) h
    obtain ⟨o0, ho0⟩ : ∃ u, u = ovD (bsF M n 1 (!(xor false s))) := ⟨_, rfl⟩
    obtain ⟨o1, ho1⟩ : ∃ u, u = ovD (bsF M n 2 (!(xor true s))) := ⟨_, rfl⟩
    have eL : L = [o0, o1] := by rw [g1, ho0, ho1]; rfl
    clear g1 g2 ho0 ho1
    subst eL
    have b0 : oB M o0 = 1 := (List.cons.inj hLw.2).1
    have b1 : oB M o1 = 2 := (List.cons.inj (List.cons.inj hLw.2).2).1
    have h01 : ¬ o0 = o1 := fun e => by rw [e, b1] at b0; cases b0
    obtain ⟨f1, f2, f3⟩ := far_41 (n := n) (V0 := V) hbq b0 b1 h01 hbd
    exact ⟨f1, f2, fun T => by rw [f3 T]; exact ⟨by omega, by omega⟩⟩
  | 4, _, 2, _, _ => cases h
end S69
