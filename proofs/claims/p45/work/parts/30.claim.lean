/-! a run of the small machine that answers 1, within the room, is all that is owed -/
def sGm (base b lg tk de : Nat) (t' : sT) : Nat → Nat → Nat := fun k i => if k = 27 ∧ i = 0 then de else if k = 28 ∧ i = 0 then lg else if k = 28 ∧ i = 1 then tk else if k = 29 ∧ i = 0 then b else base + sG t' k i
theorem sC_T0 (L : Nat) (xs : Nat → Int32) (k : Nat) : sC (sT0 L xs) k = if k = 27 then 1 else if k = 28 then 2 else if k = 29 then 1 else 0 := rfl
theorem sT0_rep {D : va_G} {s : State} {b L lg tk de : Nat} {xs : Nat → Int32} {t' : sT} (hX : va_X b L xs s s.heap) (hL31 : L < 2 ^ 31)
    (l2 : va_T .int lg 45 (fun j => .int (sLeg.getD j 0)) (fun q => s.heap.size ≤ q) s s.heap) (k2 : va_T .int tk 45 (fun j => .int (sTak.getD j 0)) (fun q => s.heap.size ≤ q) s s.heap) (d2 : va_T (.object "java/lang/Object") de 0 (fun _ => .null) (fun q => s.heap.size ≤ q) s s.heap) :
    sRep D s (sGm s.heap.size b lg tk de t') (sT0 L xs) s.heap := by
  have hno : ∀ k i, sVd (sT0 L xs) k i → (k = 27 ∧ i = 0) ∨ (k = 28 ∧ i = 0) ∨ (k = 28 ∧ i = 1) ∨ (k = 29 ∧ i = 0) := by
    intro k i h
    have h2 := h.2
    rw [sC_T0] at h2
    split at h2
    · omega
    · split at h2
      · omega
      · split at h2 <;> omega
  refine ⟨rfl, fun _ _ => rfl, fun k i hk hi => ?_, fun k i h20 h30 hi => ?_, fun k i k' i' h1 h2 ho => ?_, fun k i h1 ho => ?_, sT0_wf L xs⟩
  · exfalso
    rcases hno k i ⟨Or.inl hk, hi⟩ with h | h | h | h <;> omega
  · rcases hno k i ⟨Or.inr ⟨h20, h30⟩, hi⟩ with ⟨rfl, rfl⟩ | ⟨rfl, rfl⟩ | ⟨rfl, rfl⟩ | ⟨rfl, rfl⟩
    · obtain ⟨cell, c1, c2, c3, c4, c5, c6, -⟩ := d2
      exact ⟨cell, c1, c2, c3, ⟨c4, c5⟩, fun p hp => absurd hp (Nat.not_lt_zero p), fun _ _ h => absurd h (Nat.lt_irrefl 0)⟩
    · obtain ⟨cell, c1, c2, c3, c4, c5, c6, -⟩ := l2
      exact ⟨cell, c1, c2, c3, ⟨c4, c5⟩, fun p hp => c6 p hp, fun _ h => absurd h (by omega)⟩
    · obtain ⟨cell, c1, c2, c3, c4, c5, c6, -⟩ := k2
      exact ⟨cell, c1, c2, c3, ⟨c4, c5⟩, fun p hp => c6 p hp, fun _ h => absurd h (by omega)⟩
    · obtain ⟨cell, c1, c2, c3, c4, c5⟩ := hX
      exact ⟨cell, c1, c2, c3, ⟨Nat.le_of_eq c4.symm, by rw [c4]; rfl⟩, fun p hp => c5 p hp, fun _ h => absurd h (by omega)⟩
  · exfalso
    unfold sOwn at ho
    rcases hno k i h1 with h | h | h | h <;> omega
  · exfalso
    unfold sOwn at ho
    rcases hno k i h1 with h | h | h | h <;> omega
theorem sWhole {p : Program} {e : Env} {s : State} {m : MethodId} {below : List Frame} {meth : Method} {c : Code} (l : Launch) (hflags : l.flags = flags0) {b L : Nat} {xs : Nat → Int32} (hL : L ≤ 260) (C0 : lw_At p s m meth c b L xs)
    (hrun : ∃ (f : Nat) (t' : sT), sRun f 297 0 (sEn [.inr (.inr (29, some 0))] 7) [] (sT0 L xs) = some (.inl (some (.inl 1)), t') ∧ sn t' ≤ 600074 ∧ sw t' ≤ 7301550) :
    W p l e room_1 s m #[Value.ref b] below meth c s.heap [] 0 0 (lw_Z below #[Value.ref b] s) (entryFrame m ([Value.ref b] : List Value).toArray 7) := by
  obtain ⟨f, t', hr, hn, hw⟩ := hrun
  obtain ⟨D, lg, tk, de, hD, l1, l2, k1, k2, d1, d2, u1, u2, hstr, hE, hG0, mi, hMi⟩ := sStart hflags C0
  obtain ⟨hx, hb, hret, hml, hown, -, hX, hbl, hlk, -⟩ := C0
  have hstc : sStc s (sGm s.heap.size b lg tk de t') s := by
    intro a b' h
    rcases h with ⟨rfl, rfl⟩ | ⟨rfl, h⟩
    · exact d1
    · have h2 : b' = 0 ∨ b' = 1 := by omega
      rcases h2 with rfl | rfl
      · exact l1
      · exact k1
  have hG : sGl D s (sGm s.heap.size b lg tk de t') l := ⟨hG0, hD, hstc, sFlags l hflags, u1, u2, hstr⟩
  have hpr : sPr s (sGm s.heap.size b lg tk de t') t' := by
    intro k i _ ho
    unfold sOwn at ho
    unfold sGm
    rw [if_neg (by omega), if_neg (by omega), if_neg (by omega), if_neg (by omega)]
  have hR := sT0_rep (D := D) (t' := t') hX (by omega) l2 k2 d2
  have hY : sY 297 = yL_law := by decide +kernel
  have X : sCx D s (sGm s.heap.size b lg tk de t') 0 (sY 297) (sBy 297) p s m #[Value.ref b] meth c := by
    refine ⟨hx, hb, by rw [hY]; exact hown, sGW_at (State.WarmedH.refl s) hG0, (State.WarmedH.refl s).alike, hD, fun q => ?_, rfl, fun _ _ => rfl, hstc⟩
    rw [hY] at q
    exact absurd q (by decide)
  have key := sSound sTab_ok sCl_ok (sCp_ok hG sCl_ok hMi) sHt_ok hG hE f 297 0 (sEn [.inr (.inr (29, some 0))] 7) [] (sT0 L xs) _ t' hr hpr (p := p) (e := e) (R := room_1) (m := m) (args := #[Value.ref b]) (below := below) (meth := meth) (c := c) (n0 := 0) (w0 := 0) X (State.WarmedH.refl s) (by rw [hml]; decide +kernel) (by rw [hret]; decide +kernel) hlk (fun q => absurd rfl q) (by decide +kernel) (by decide +kernel) (Nat.zero_le _) (Nat.zero_le _) hn hw
  have hl := lv_entry ([Value.ref b]) (n := 7) (Nat.le_of_ble_eq_true rfl)
  have hv : ∀ y ∈ ([.inr (.inr (29, some 0))] : List sV), ¬ sJ y ∧ sOkV (sT0 L xs) y := by
    intro y hy
    rw [List.mem_singleton.mp hy]
    exact ⟨by show ¬ (29 = 31); decide, by show 0 < 1; decide⟩
  have k3 := key s.heap [] _ [] hR (fun q h => by cases h) (sEn_lr (n := 7) hv (by decide) hl) trivial (by rw [hl.1, hml])
  rw [lg_entry_eq]
  intro T hT XT
  obtain ⟨t, a1, o, b1, b2, b3⟩ := k3 T hT XT
  refine ⟨t, a1, o, b1, b2, ?_⟩
  rcases b3 with ⟨⟨⟨v, y1, y2, -⟩, -⟩, L9, ⟨⟨v9, z1⟩, z2, z3⟩, hfree⟩ | ⟨q, -, E, ce, L9, ⟨k, y1, -⟩, -⟩
  · cases y1
    refine ⟨y2, ⟨_, z1⟩, z2, z3.weaken (fun y hy hlt => absurd hlt (Nat.not_lt.mpr (hfree y hy))) (by show sn t' - 0 ≤ _; omega) (by show sw t' - 0 ≤ _; omega)⟩
  · cases y1
