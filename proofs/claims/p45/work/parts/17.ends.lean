section S16b
variable {p : Program} {l : Launch} {e : Env} {R : Room} {s : State} {m : MethodId} {args : Array Value} {below : List Frame} {meth : Method} {c : Code} {D : va_G} {s0 : State} {γ : Nat → Nat → Nat} {n0 w0 : Nat}
/-- an end of a method -/
theorem s_rets {i : Nat} {x : Instr} {n a b c9 : Nat} {v : Int32} {pc : Nat} {ls st : List sV} {t : sT} {rt : sRs × sT} (hx : p.tables.exec = Jvm.exec) (hb : c.code = sBy i) (hret : meth.sig.returnType = sRt i) (hlk : meth.locks = false)
    (hd : decode (sBy i) pc = .ok (x, n)) (hk : sLk (sY i) pc x n a b c9 v) (hq : sLq i pc x a b c9) (h : sAct x n a b c9 v pc (sRb i) ls st t = some (.inr (.inr rt))) (hnw : ∀ j, x ≠ .new j) :
    sOk p l e R s m args below meth c (vx_MQ below (sQc D s0 γ rt.1 rt.2) (sXc D s0 γ rt.1 rt.2) args s (sn rt.2 - n0) (sw rt.2 - w0) (fun q => s0.heap.size ≤ q)) D s0 γ n0 w0 t pc ls st := by
  have hc : ∀ {a b c pc n : Nat} {ls st : List sV}, ¬ sCall a b c pc n ls st t = some (.inr (.inr rt)) := by
    intro a b c pc n ls st h
    unfold sCall at h
    split at h
    · split at h
      · split at h <;> cases h
      · split at h
        · split at h <;> cases h
        · cases h
      · split at h
        · split at h <;> cases h
        · cases h
      · split at h
        · split at h <;> cases h
        · cases h
      · split at h <;> cases h
      · split at h <;> cases h
      · split at h <;> cases h
      · split at h <;> cases h
      · cases h
    · cases h
  unfold sAct at h
  split at h
  · exact (hc h).elim
  · exact (hc h).elim
  · exact (hc h).elim
  · split at h
    · next i1 =>
      split at h
      · next h01 =>
        cases h
        intro H locs arr mst hR hL hl hs hz
        obtain ⟨v, vs, rfl, q1, q2⟩ := hs.cons
        have e0 := q2.nil
        have e1 := q1.i
        subst e0 e1
        have hk : n = 1 := hk
        subst hk
        have hq : sRt i = some .int ∨ sRt i = some .boolean := hq
        refine vx_ret ?_
        rcases hq with q | q
        · exact W.zret hx hb (hret.trans q) rfl (fun u hu hW => ⟨⟨some (.inl i1), rfl, rfl, fun x hx => by cases hx; exact ⟨fun q => q, trivial⟩⟩, by rw [hu]; exact hR⟩) hL hd hlk
        · have hn : narrow .boolean (.int i1) = .int i1 := by
            have hrb : sRb i = true := by unfold sRb; rw [q]; rfl
            rcases h01 with z | z | z
            · rw [hrb] at z; cases z
            · subst z; rfl
            · subst z; rfl
          exact W.zret hx hb (hret.trans q) hn (fun u hu hW => ⟨⟨some (.inl i1), rfl, rfl, fun x hx => by cases hx; exact ⟨fun q => q, trivial⟩⟩, by rw [hu]; exact hR⟩) hL hd hlk
      · cases h
    · cases h
  · split at h
    · next i1 =>
      cases h
      intro H locs arr mst hR hL hl hs hz
      obtain ⟨v, vs, rfl, q1, q2⟩ := hs.cons
      have e0 := q2.nil
      have e1 := q1.l
      subst e0 e1
      have hk : n = 1 := hk
      subst hk
      have hq : sRt i = some .long := hq
      exact vx_ret (W.lret hx hb (hret.trans hq) (fun u hu hW => ⟨⟨some (.inr (.inl i1)), rfl, rfl, fun x hx => by cases hx; exact ⟨fun q => q, trivial⟩⟩, by rw [hu]; exact hR⟩) hL hd hlk)
    · cases h
  · split at h
    · next k1 r1 =>
      split at h
      · cases h
      · next h31 =>
        cases h
        intro H locs arr mst hR hL hl hs hz
        obtain ⟨v, vs, rfl, q1, q2⟩ := hs.cons
        have e0 := q2.nil
        obtain ⟨e1, v1⟩ := q1.r h31
        subst e0 e1
        have hk : n = 1 := hk
        subst hk
        obtain ⟨rt9, z1, z2⟩ := hq
        refine vx_ret (W.aret hx hb (hret.trans z1) z2 (by cases r1 with | none => exact Or.inl rfl | some i => exact Or.inr ⟨_, rfl⟩) (fun u hu hW => ⟨⟨some (.inr (.inr (k1, r1))), rfl, rfl, fun x hx => ?_⟩, by rw [hu]; exact hR⟩) hL hd hlk)
        cases hx
        refine ⟨h31, ?_⟩
        cases r1 with
        | none => trivial
        | some i => exact v1 i rfl
    · cases h
  · split at h
    · cases h
      intro H locs arr mst hR hL hl hs hz
      have e0 := hs.nil
      subst e0
      have hk : n = 1 := hk
      subst hk
      have hq : sRt i = none := hq
      exact vx_ret (W.vret hx hb (hret.trans hq) (fun u hu hW => ⟨⟨none, rfl, rfl, fun x hx => by cases hx⟩, by rw [hu]; exact hR⟩) hL hd hlk)
    · cases h
  · next j => exact (hnw j rfl).elim
  · obtain ⟨t1, e1, e2⟩ := Option.map_eq_some_iff.mp h
    cases e2
theorem s_thr {i pc j a : Nat} {ls st : List sV} {t : sT} (hG : sGl D s0 γ l) (X : sCx D s0 γ n0 (sY i) (sBy i) p s m args meth c) (hW0 : s0.WarmedH s.vm) (hlk : meth.locks = false) (htab : ¬ i = 297 → c.exceptionTable.toList = tableOf (sHh i)) (hF : sFr i ≤ R.frames) (hLo : sLo i ≤ R.locals)
    (hd : decode (sBy i) pc = .ok (.new j, 3)) (hq : sKt i pc j a) (hn : n0 ≤ sn t) (hw0 : w0 ≤ sw t) (hrc : sn (sThr t) - n0 ≤ R.cells) (hrs : sw (sThr t) - w0 ≤ R.slots) (h8 : (st.map sCat).sum ≤ 8) :
    sOk p l e R s m args below meth c (vx_MQ below (sQc D s0 γ (.inr a) (sThr t)) (sXc D s0 γ (.inr a) (sThr t)) args s (sn (sThr t) - n0) (sw (sThr t) - w0) (fun q => s0.heap.size ≤ q)) D s0 γ n0 w0 t pc ls st := by
  intro H locs arr mst hR hL hl hs hz
  obtain ⟨hx, hb, hown, hts, hal, hK, hini, hsz, hol, hst⟩ := X
  obtain ⟨h297, ha3, hh, hf6, hl90, is, ic, text, d3, d4, d7, d10, hstr, hws, hfit⟩ := hq
  obtain ⟨sa, hsa⟩ := hG.2.2.2.2.2.2 _ hstr
  have hrc' : sn t + 1 - n0 ≤ R.cells := hrc
  have hrs' : sw t + 6 - w0 ≤ R.slots := hrs
  have hS : va_S (fun q => s0.heap.size ≤ q) s.heap H locs := ⟨by rw [hsz, hR.1]; omega, fun q h1 h2 => by rw [hR.2.1 q (by omega), hol q (by omega)], hL⟩
  have hkp : ∀ a : Nat, a < s0.heap.size → ¬ s0.heap.size ≤ a → s.heap[a]? = s0.heap[a]? := fun q h1 _ => hol q h1
  have hcats := hs.cats
  refine sThrowS hx hb hG.2.2.2.1 (own := (sY i).cls) (cls := sEc a) (text := text) (names := sSup) (ik := j) (is := is) (ic := ic) (sa := sa) (A := fun q => s0.heap.size ≤ q) hown hfit (by decide) (hts _ (hws _ List.mem_cons_self).1) (hts _ (hws _ (List.mem_cons_of_mem _ List.mem_cons_self)).1) (vk_R.warm hW0 hsa) (fun w hw => hts _ (hws _ (List.mem_cons_of_mem _ (List.mem_cons_of_mem _ hw))).1) (fun w hw => (hws w hw).2)
    (vx_Zq.moved hal (hG.2.2.2.2.1.kept hkp)) (vx_Zq.moved hal (hG.2.2.2.2.2.1.kept hkp)) hS hz hd d3 d4 d7 d10 (fun x hx => by rw [htab h297, hh] at hx; cases hx) ?_ ?_ (by omega) (by omega) hlk (fun u hu h1 h2 => ⟨a, rfl, ha3, rfl, ?_⟩) hL ?_ ?_
  · show 2 + 3 < R.frames
    omega
  · show _ + (13 * (2 + 1) + 43) ≤ R.locals
    omega
  · refine hR.push (k := 31) (Or.inr (Or.inr ⟨rfl, rfl⟩)) (fun k1 => by simp; rfl) rfl (fun _ _ _ => rfl) (fun _ _ _ => rfl) (fun _ _ _ _ => rfl) h1 h2 (fun q => absurd rfl q) (fun q => by omega) (fun q1 q2 => by omega) sNf_le hR.2.2.2.2.2.2
  · show sn t - n0 + 1 ≤ sn t + 1 - n0
    omega
  · show sw t - w0 + 6 ≤ sw t + 6 - w0
    omega
end S16b
