/-! every run of the small machine is the machine's -/
section S19
variable {p : Program} {l : Launch} {e : Env} {R : Room} {s : State} {m : MethodId} {args : Array Value} {below : List Frame} {meth : Method} {c : Code} {Q : State → Prop} {D : va_G} {s0 : State} {γ : Nat → Nat → Nat} {n0 w0 : Nat}
/-- what Math's members do -/
def sMth (c : Nat) (t t' : sT) (st st' : List sV) : Prop := t' = t ∧ ((c = 5 ∧ ∃ x r, st = .inl x :: r ∧ st' = .inl (if 0 ≤ x then x else 0 - x) :: r) ∨ (c = 6 ∧ ∃ x y r, st = .inl y :: .inl x :: r ∧ st' = .inl (if x < y then y else x) :: r) ∨
  (c = 7 ∧ ∃ x y r, st = .inl y :: .inl x :: r ∧ st' = .inl (if y < x then y else x) :: r) ∨ (c = 8 ∧ ∃ x y r, st = .inr (.inl y) :: .inr (.inl x) :: r ∧ st' = .inr (.inl (if y < x then y else x)) :: r))
theorem sMth_c {c : Nat} {t t' : sT} {st st' : List sV} (h : sMth c t t' st st') : 5 ≤ c ∧ c ≤ 8 := by
  rcases h.2 with ⟨h, -⟩ | ⟨h, -⟩ | ⟨h, -⟩ | ⟨h, -⟩ <;> omega
theorem sCall_inl {a b c9 pc n : Nat} {ls st : List sV} {t : sT} {pc' : Nat} {ls' st' : List sV} {t' : sT} (h : sCall a b c9 pc n ls st t = some (.inl (pc', ls', st', t'))) :
    pc' = pc + n ∧ ls' = ls ∧ ((c9 = 1 ∧ t' = t ∧ ∃ k o, st = .inr (.inr (k, some o)) :: st' ∧ k < 14) ∨ (c9 = 2 ∧ ∃ x i st2, st = .inl x :: .inr (.inr (27, some i)) :: st2 ∧ st' = .inr (.inr (27, some (sC t 27))) :: st2 ∧ t' = sCpy t i x.toNatClampNeg ∧ sN t 27 i ≤ x.toNatClampNeg ∧ 0 < sN t 27 i ∧ (0 ≤ x ∧ x ≤ 100000)) ∨ sMth c9 t t' st st') ∧
    b ≤ st.length ∧ ((st.drop b).map sCat).sum ≤ 8 := by
  unfold sCall at h
  split at h
  · next hb =>
    split at h
    · split at h <;> cases h
    · split at h
      · split at h <;> cases h
      · cases h
    · split at h
      · split at h
        · next hk => cases h; exact ⟨rfl, rfl, Or.inl ⟨rfl, rfl, _, _, rfl, hk⟩, hb.1, hb.2⟩
        · cases h
      · cases h
    · split at h
      · split at h
        · next hk => cases h; exact ⟨rfl, rfl, Or.inr (Or.inl ⟨rfl, _, _, _, rfl, rfl, rfl, hk.1.1, hk.1.2, hk.2⟩), hb.1, hb.2⟩
        · cases h
      · cases h
    · split at h
      · cases h; exact ⟨rfl, rfl, Or.inr (Or.inr ⟨rfl, Or.inl ⟨rfl, _, _, rfl, rfl⟩⟩), hb.1, hb.2⟩
      · cases h
    · split at h
      · cases h; exact ⟨rfl, rfl, Or.inr (Or.inr ⟨rfl, Or.inr (Or.inl ⟨rfl, _, _, _, rfl, rfl⟩)⟩), hb.1, hb.2⟩
      · cases h
    · split at h
      · cases h; exact ⟨rfl, rfl, Or.inr (Or.inr ⟨rfl, Or.inr (Or.inr (Or.inl ⟨rfl, _, _, _, rfl, rfl⟩))⟩), hb.1, hb.2⟩
      · cases h
    · split at h
      · cases h; exact ⟨rfl, rfl, Or.inr (Or.inr ⟨rfl, Or.inr (Or.inr (Or.inr ⟨rfl, _, _, _, rfl, rfl⟩))⟩), hb.1, hb.2⟩
      · cases h
    · cases h
  · cases h
theorem sCall_inr {a b c9 pc n : Nat} {ls st : List sV} {t : sT} {g : Nat} {as rest : List sV} (h : sCall a b c9 pc n ls st t = some (.inr (.inl (g, as, rest)))) :
    g = a ∧ as = (st.take b).reverse ∧ rest = st.drop b ∧ b ≤ st.length ∧ ((st.drop b).map sCat).sum ≤ (bif Nat.beq c9 0 then 9 else 8) ∧ sAk a b st = true ∧ (c9 = 0 ∨ (c9 = 4 ∧ ∃ o tl, (st.take b).reverse = .inr (.inr (sRk a, some o)) :: tl)) := by
  unfold sCall at h
  split at h
  · next hb =>
    split at h
    · split at h
      · next hk => cases h; exact ⟨rfl, rfl, rfl, hb.1, hb.2, hk, Or.inl rfl⟩
      · cases h
    · split at h
      · next k o tl he =>
        split at h
        · next hk => cases h; exact ⟨rfl, rfl, rfl, hb.1, hb.2, hk.2, Or.inr ⟨rfl, o, tl, by rw [← hk.1]; exact he⟩⟩
        · cases h
      · cases h
    · split at h
      · split at h <;> cases h
      · cases h
    · split at h
      · split at h <;> cases h
      · cases h
    · split at h <;> cases h
    · split at h <;> cases h
    · split at h <;> cases h
    · split at h <;> cases h
    · cases h
  · cases h
theorem sStepAct (hC : sClOk) (hCp : sCpOk l D s0 γ) {i : Nat} {x : Instr} {n a b c9 : Nat} {v : Int32} {pc pc' : Nat} {ls st ls' st' : List sV} {t t' : sT} {rb : Bool} (X : sCx D s0 γ n0 (sY i) (sBy i) p s m args meth c) (hW0 : s0.WarmedH s.vm) (hd : decode (sBy i) pc = .ok (x, n)) (hk : sLk (sY i) pc x n a b c9 v) (hl : sLq i pc x a b c9)
    (hs : sAct x n a b c9 v pc rb ls st t = some (.inl (pc', ls', st', t'))) (hF : sFr i ≤ R.frames) (hLo : sLo i ≤ R.locals) (hn : n0 ≤ sn t) (hw0 : w0 ≤ sw t) (hrc : sn t' - n0 ≤ R.cells) (hrs : sw t' - w0 ≤ R.slots) (hpr : sPr s0 γ t')
    (kk : sOk p l e R s m args below meth c Q D s0 γ n0 w0 t' pc' ls' st') : sOk p l e R s m args below meth c Q D s0 γ n0 w0 t pc ls st := by
  unfold sAct at hs
  split at hs
  · next j =>
    obtain ⟨-, -, h, -⟩ := sCall_inl hs
    have hl : c9 = 9 ∨ (c9 = 4 ∧ _) := hl
    exfalso
    rcases h with ⟨h, -⟩ | ⟨h, -⟩ | h
    · rcases hl with q | ⟨q, -⟩ <;> omega
    · rcases hl with q | ⟨q, -⟩ <;> omega
    · have := sMth_c h
      rcases hl with q | ⟨q, -⟩ <;> omega
  · next j =>
    obtain ⟨rfl, rfl, h, hb, h8⟩ := sCall_inl hs
    have hk : n = 3 := hk
    subst hk
    rcases h with ⟨hc1, rfl, k, o, rfl, hk14⟩ | ⟨h, -⟩ | h
    · rcases hl with q | ⟨q, rfl, ⟨z1, z2, z3⟩, z4, z5⟩ | ⟨q, -⟩
      · exfalso; omega
      · obtain ⟨hx, hb9, hown, hts, -⟩ := X
        exact s_oinit hx hb9 hown (by omega) (hts _ z1) (hts _ z2) (hts _ z3) hd (Nat.le_trans z4 hF) (Nat.le_trans z5 hLo) h8 kk
      · exfalso; omega
    · exfalso
      rcases hl with q | ⟨q, -⟩ | ⟨q, -⟩ <;> omega
    · have := sMth_c h
      exfalso
      rcases hl with q | ⟨q, -⟩ | ⟨q, -⟩ <;> omega
  · next j =>
    obtain ⟨rfl, rfl, h, hb, h8⟩ := sCall_inl hs
    have hk : n = 3 := hk
    subst hk
    rcases h with ⟨h, -⟩ | ⟨hc2, x, i2, st2, rfl, rfl, rfl, y1, y2, y3⟩ | h
    · exfalso
      rcases hl with q | ⟨q, -⟩ | ⟨q, -⟩ | ⟨⟨-, -, -, q⟩, -⟩
      · omega
      · omega
      · omega
      · rcases q with ⟨q, -⟩ | ⟨q, -⟩ | ⟨q, -⟩ | ⟨q, -⟩ <;> omega
    · rcases hl with q | ⟨q, -⟩ | ⟨q, rfl, z1, rfl, z3, z4⟩ | ⟨⟨-, -, -, q⟩, -⟩
      · exfalso; omega
      · exfalso; omega
      · exact hCp X hW0 z1 rfl hd (Nat.le_trans z3 hF) (Nat.le_trans z4 hLo) h8 y1 y2 y3 hn hw0 hrc hrs hpr kk
      · exfalso
        rcases q with ⟨q, -⟩ | ⟨q, -⟩ | ⟨q, -⟩ | ⟨q, -⟩ <;> omega
    · have hc58 := sMth_c h
      rcases hl with q | ⟨q, -⟩ | ⟨q, -⟩ | ⟨⟨z1, z2, z3, q⟩, hb2⟩
      · exfalso; omega
      · exfalso; omega
      · exfalso; omega
      · obtain ⟨hx, hb9, hown, hts, -⟩ := X
        obtain ⟨rfl, h⟩ := h
        have hml9 : ∀ arr : Array Slot, arr.size = c.maxLocals → c.maxLocals = arr.size := fun _ h => h.symm
        rcases h with ⟨hc, x, r, rfl, rfl⟩ | ⟨hc, x, y, r, rfl, rfl⟩ | ⟨hc, x, y, r, rfl, rfl⟩ | ⟨hc, x, y, r, rfl, rfl⟩
        · rcases q with ⟨-, q1, q2, q3⟩ | ⟨q, -⟩ | ⟨q, -⟩ | ⟨q, -⟩
          · subst hc
            rw [if_pos rfl] at hb2
            subst hb2
            intro H locs arr mst hR hL hl hs hz
            obtain ⟨v1, vs, rfl, y1, y2⟩ := hs.cons
            rw [y1.i]
            have h9 := y2.cats
            exact va_mabs hx hb9 hz.symm hown (hts _ q1) (hts _ q2) (hts _ z3) (hts _ q3) (Nat.le_trans z1 hF) (by have h8' : (r.map sCat).sum ≤ 8 := h8; omega) hrc hrs hd (kk H locs arr _ hR hL hl ⟨.mkI _, y2⟩ hz)
          · exfalso; omega
          · exfalso; omega
          · exfalso; omega
        · rcases q with ⟨q, -⟩ | ⟨-, q1, q2, q3⟩ | ⟨q, -⟩ | ⟨q, -⟩
          · exfalso; omega
          · subst hc
            rw [if_neg (by omega)] at hb2
            subst hb2
            intro H locs arr mst hR hL hl hs hz
            obtain ⟨v1, vs0, rfl, y1, y9⟩ := hs.cons
            obtain ⟨v2, vs, rfl, y0, y2⟩ := y9.cons
            rw [y1.i, y0.i]
            have h9 := y2.cats
            exact va_mmax hx hb9 hz.symm hown (hts _ q1) (hts _ q2) (hts _ z3) (hts _ q3) (Nat.le_trans z1 hF) (by have h8' : (r.map sCat).sum ≤ 8 := h8; omega) hrc hrs hd (kk H locs arr _ hR hL hl ⟨.mkI _, y2⟩ hz)
          · exfalso; omega
          · exfalso; omega
        · rcases q with ⟨q, -⟩ | ⟨q, -⟩ | ⟨-, q1, q2, q3⟩ | ⟨q, -⟩
          · exfalso; omega
          · exfalso; omega
          · subst hc
            rw [if_neg (by omega)] at hb2
            subst hb2
            intro H locs arr mst hR hL hl hs hz
            obtain ⟨v1, vs0, rfl, y1, y9⟩ := hs.cons
            obtain ⟨v2, vs, rfl, y0, y2⟩ := y9.cons
            rw [y1.i, y0.i]
            have h9 := y2.cats
            exact va_mmin hx hb9 hz.symm hown (hts _ q1) (hts _ q2) (hts _ z3) (hts _ q3) (Nat.le_trans z1 hF) (by have h8' : (r.map sCat).sum ≤ 8 := h8; omega) hrc hrs hd (kk H locs arr _ hR hL hl ⟨.mkI _, y2⟩ hz)
          · exfalso; omega
        · rcases q with ⟨q, -⟩ | ⟨q, -⟩ | ⟨q, -⟩ | ⟨-, q1, q2, q3⟩
          · exfalso; omega
          · exfalso; omega
          · exfalso; omega
          · subst hc
            rw [if_neg (by omega)] at hb2
            subst hb2
            intro H locs arr mst hR hL hl hs hz
            obtain ⟨v1, vs0, rfl, y1, y9⟩ := hs.cons
            obtain ⟨v2, vs, rfl, y0, y2⟩ := y9.cons
            rw [y1.l, y0.l]
            have h9 := y2.cats
            exact va_mmin_long hx hb9 hz.symm hown (hts _ q1) (hts _ q2) (hts _ z3) (hts _ q3) (Nat.le_trans z1 hF) (by have h8' : (r.map sCat).sum ≤ 8 := h8; omega) hrc hrs hd (kk H locs arr _ hR hL hl ⟨.mkL _, y2⟩ hz)
  · split at hs
    · split at hs <;> cases hs
    · cases hs
  · split at hs <;> cases hs
  · split at hs
    · split at hs <;> cases hs
    · cases hs
  · split at hs <;> cases hs
  · split at hs
    · split at hs <;> cases hs
    · obtain ⟨q, e1, e2⟩ := Option.map_eq_some_iff.mp hs
      cases e2
      exact sStepOk hC X hd hk e1 hn hw0 hrc hrs hpr kk
  · obtain ⟨q, e1, e2⟩ := Option.map_eq_some_iff.mp hs
    cases e2
    exact sStepOk hC X hd hk e1 hn hw0 hrc hrs hpr kk
/-- a thrown thing, at a call: caught here, or it goes on -/
theorem s_caught (hH : sHtOk) (hE : sExOk s0) {i k pc : Nat} (hi : i < sNm) {H : Heap} {locs : List Loc} {cells slots : Nat} {arr : Array Slot} {rest : List Value} {q : Addr} {ce : Cell} (hk : k < 3) (hown : s.vm.findClass (sY i).cls = some m.cls) (hts : ∀ w ∈ sGW, w.before args s = true) (hal : s0.vm.Alike s.vm) (htab : c.exceptionTable.toList = tableOf (sHh i)) (hcell : H[q]? = some ce) (hv : ce.vm = .none) (hcl : s.vm.findClass (sEc k) = some ce.cls) :
    (∀ h, sHnd i pc k = some h → W p l e R s m args below meth c H locs cells slots Q (F0 m h arr [.ref q]) → vx_W p l e R s m args below meth c H locs cells slots Q (F0 m pc arr rest) q) ∧
    (sHnd i pc k = none → ∀ z ∈ c.exceptionTable.toList, covers z pc = false ∨ (z.catchType ≠ 0 ∧ ∃ nm : String, (Cond.classLink (sY i).cls z.catchType nm).before args s = true ∧ va_Nc (sEc k) nm s)) := by
  have pass : ∀ r ∈ sHh i, ¬ ((Nat.ble r.1 pc && Nat.blt pc r.2.1 && Nat.beq (sCt r.2.2.2) k) = true) → covers (⟨r.1, r.2.1, r.2.2.1, r.2.2.2⟩ : ExceptionTableEntry) pc = false ∨ (r.2.2.2 ≠ 0 ∧ ∃ nm : String, (Cond.classLink (sY i).cls r.2.2.2 nm).before args s = true ∧ va_Nc (sEc k) nm s) := by
    intro r hr hne
    obtain ⟨h1, h2, h3⟩ := hH i hi r hr
    by_cases hcv : r.1 ≤ pc ∧ pc < r.2.1
    · right
      refine ⟨h1, _, hts _ h3, va_Nc.moved hal (hE.1 k _ hk h2 fun q => hne ?_)⟩
      simp [Nat.ble_eq, Nat.blt_eq, hcv.1, hcv.2, ← q]
    · left
      simp only [covers, Bool.and_eq_false_iff, decide_eq_false_iff_not]
      omega
  constructor
  · intro h hh kk
    unfold sHnd at hh
    obtain ⟨r, hf, e⟩ := Option.map_eq_some_iff.mp hh
    subst e
    obtain ⟨hp, pre, suf, hsp, hpre⟩ := List.find?_eq_some_iff_append.mp hf
    have hr : r ∈ sHh i := by rw [hsp]; simp
    obtain ⟨h1, h2, h3⟩ := hH i hi r hr
    simp only [Bool.and_eq_true, Nat.ble_eq, Nat.blt_eq, Nat.beq_eq] at hp
    obtain ⟨⟨p1, p2⟩, p3⟩ := hp
    refine vx_catch (E := sEc k) (name := sEc (sCt r.2.2.2)) hown (tableOf pre) ⟨r.1, r.2.1, r.2.2.1, r.2.2.2⟩ (tableOf suf) (by rw [htab, hsp]; simp [tableOf]) (fun z hz => ?_) (by simp [covers, p1, p2]) h1 (hts _ h3) (by rw [p3]; exact hts _ (hE.2 k hk)) hcell hv hcl kk
    obtain ⟨r2, hr2, e2⟩ := List.mem_map.mp hz
    subst e2
    exact pass r2 (by rw [hsp]; simp [hr2]) (fun q => by have h9 := hpre r2 hr2; rw [q] at h9; cases h9)
  · intro hh z hz
    unfold sHnd at hh
    have hf : (sHh i).find? _ = none := Option.map_eq_none_iff.mp hh
    rw [htab] at hz
    obtain ⟨r2, hr2, e2⟩ := List.mem_map.mp hz
    subst e2
    exact pass r2 hr2 (List.find?_eq_none.mp hf r2 hr2)
end S19
section S19b
variable {l : Launch} {D : va_G} {s0 : State} {γ : Nat → Nat → Nat}
theorem sSound (hT : sTabOk) (hC : sClOk) (hCp : sCpOk l D s0 γ) (hH : sHtOk) (hG : sGl D s0 γ l) (hE : sExOk s0) : ∀ f, sSnd D s0 γ l f := by
  intro f
  induction f with
  | zero => intro i pc ls st t r t' h; cases h
  | succ f ih =>
    intro i pc ls st t r t' h hpr p e R s m args below meth c n0 w0 X hW0 hml hret hlk htab hF hLo hn hw0 hrc hrs
    have hext := sRun_ext _ _ _ _ _ _ _ _ h
    unfold sRun at h
    split at h
    · cases h
    · next pc1 ls1 st1 t1 h1 =>
      obtain ⟨q, hq, h2⟩ := Option.bind_eq_some_iff.mp h1
      obtain ⟨hd, hk, hl⟩ := hT i pc q hq
      have e1 := sAct_ext h2
      have e2 := sRun_ext _ _ _ _ _ _ _ _ h
      have kk := ih i pc1 ls1 st1 t1 r t' h hpr X hW0 hml hret hlk htab hF hLo (Nat.le_trans hn e1.2.2.1) (Nat.le_trans hw0 e1.2.2.2) hrc hrs (e := e) (R := R) (below := below)
      exact sStepAct hC hCp X hW0 hd hk hl h2 hF hLo hn hw0 (by have := e2.2.2.1; omega) (by have := e2.2.2.2; omega) (hpr.back e2) kk
    · next g as rest h1 =>
      obtain ⟨q, hq, h2⟩ := Option.bind_eq_some_iff.mp h1
      obtain ⟨hd, hk, hl⟩ := hT i pc q hq
      obtain ⟨x, n, a, b, c9, v⟩ := q
      dsimp only at hd hk hl h2
      -- the call, as a call
      have hcall : ∃ j, (x = .invokevirtual j ∨ x = .invokespecial j ∨ x = .invokestatic j) ∧ sCall a b c9 pc n ls st t = some (.inr (.inl (g, as, rest))) := by
        unfold sAct at h2
        split at h2
        · exact ⟨_, Or.inl rfl, h2⟩
        · exact ⟨_, Or.inr (Or.inl rfl), h2⟩
        · exact ⟨_, Or.inr (Or.inr rfl), h2⟩
        · split at h2
          · split at h2 <;> cases h2
          · cases h2
        · split at h2 <;> cases h2
        · split at h2
          · split at h2 <;> cases h2
          · cases h2
        · split at h2 <;> cases h2
        · split at h2
          · split at h2 <;> cases h2
          · obtain ⟨z, z1, z2⟩ := Option.map_eq_some_iff.mp h2
            cases z2
        · obtain ⟨z, z1, z2⟩ := Option.map_eq_some_iff.mp h2
          cases z2
      obtain ⟨j, hxj, hcl⟩ := hcall
      obtain ⟨rfl, rfl, rfl, hb, h8, hak, hc9⟩ := sCall_inr hcl
      have h9 : ((st.drop b).map sCat).sum ≤ 9 := by
        rcases hc9 with y | ⟨y, -⟩
        · rw [y] at h8; exact h8
        · rw [y] at h8; exact Nat.le_trans (show _ ≤ 8 from h8) (by decide)
      have h8n : (¬ ∃ j9, x = .invokestatic j9) → ((st.drop b).map sCat).sum ≤ 8 := fun hx9 => by
        rcases hc9 with y | ⟨y, -⟩
        · exfalso
          rcases hxj with h | h | h
          · subst h
            rcases hl with q | ⟨q, -⟩ <;> omega
          · subst h
            rcases hl with q | ⟨q, -⟩ | ⟨q, -⟩ <;> omega
          · exact hx9 ⟨_, h⟩
        · rw [y] at h8; exact h8
      clear h8
      unfold sAk at hak
      rw [Bool.and_eq_true] at hak
      have hlen : (sEx (st.take b).reverse).length ≤ sML g := by simpa using hak.2
      have hn3 : n = 3 := by rcases hxj with h | h | h <;> subst h <;> exact hk
      subst hn3
      have hkk : (x = .invokestatic j ∧ sKa i j g b ∧ Cond.static (sY g) ∈ sGG) ∨
          (x = .invokevirtual j ∧ 0 < b ∧ sKa i j g (b - 1) ∧ sHh g = [] ∧ Cond.instanceMethod (sY g) ∈ sGG ∧ Cond.selects (sY g).cls (sY g) (sY g) ∈ sGG ∧ sRk g < 14 ∧ (∃ q : vw_C, sCl[sRk g]? = some q ∧ q.1 = (sY g).cls) ∧ ∃ o tl, (st.take b).reverse = .inr (.inr (sRk g, some o)) :: tl) ∨
          (x = .invokespecial j ∧ 0 < b ∧ sKa i j g (b - 1) ∧ sHh g = [] ∧ Cond.instanceMethod (sY g) ∈ sGG ∧ (sY g).name = "<init>" ∧ sRt g = none ∧ ∃ k o tl, (st.take b).reverse = .inr (.inr (k, some o)) :: tl) := by
        rcases hxj with h | h | h
        · subst h
          rcases hl with q | ⟨q, z1, z2, z3, z4, z5, z6, z7⟩
          · exfalso; rcases hc9 with y | ⟨y, -⟩ <;> omega
          · rcases hc9 with y | ⟨-, y⟩
            · exfalso; omega
            · exact Or.inr (Or.inl ⟨rfl, z1, z2, z3, z4, z5, z6, z7, y⟩)
        · subst h
          rcases hl with q | ⟨q, -⟩ | ⟨q, z1, z2, z3, z4, z5, z6⟩
          · exfalso; rcases hc9 with y | ⟨y, -⟩ <;> omega
          · exfalso; rcases hc9 with y | ⟨y, -⟩ <;> omega
          · rcases hc9 with y | ⟨-, y⟩
            · exfalso; omega
            · obtain ⟨o, tl, y⟩ := y
              exact Or.inr (Or.inr ⟨rfl, z1, z2, z3, z4, z5, z6, _, o, tl, y⟩)
        · subst h
          rcases hl with q | ⟨q, z1, z2⟩ | ⟨q, -⟩ | ⟨⟨-, -, -, q⟩, -⟩
          · exfalso; rcases hc9 with y | ⟨y, -⟩ <;> omega
          · exact Or.inl ⟨rfl, z1, z2⟩
          · exfalso; rcases hc9 with y | ⟨y, -⟩ <;> omega
          · exfalso
            rcases q with ⟨q, -⟩ | ⟨q, -⟩ | ⟨q, -⟩ | ⟨q, -⟩ <;> rcases hc9 with y | ⟨y, -⟩ <;> omega
      split at h
      · cases h
      · next r1 t1 hr1 =>
        have e1 := sRun_ext _ _ _ _ _ _ _ _ hr1
        have e2 := sRun_ext _ _ _ _ _ _ _ _ h
        have kk := ih i (pc + 3) ls (r1.toList ++ st.drop b) t1 r t' h hpr X hW0 hml hret hlk htab hF hLo (Nat.le_trans hn e1.2.2.1) (Nat.le_trans hw0 e1.2.2.2) hrc hrs (e := e) (R := R) (below := below)
        intro H locs arr mst hR hL hls hs hz
        have hrun := s_run hG ih X hW0 hml hF hLo hr1 (hpr.back e2) hlen hak.1 hb h9 h8n hn hw0 (by have := e2.2.2.1; omega) (by have := e2.2.2.2; omega) hkk (fun _ => ⟨_, rfl⟩) hd hR hL hs hz (e := e) (below := below) (meth := meth)
        obtain ⟨-, -, hrest⟩ := sSr_take b hs hak.1
        intro T hT9 XT
        rcases hrun T hT9 XT with ⟨v1, st₀, u, T', L, q1, q2, q3, q4, q5, ⟨⟨v0, y1, y2, y3⟩, hR1⟩, q7⟩ | ⟨q, st₀, u, T', L, E, ce, q1, q2, q3, q4, q5, ⟨k, y1, -⟩, -⟩
        · cases y1
          cases y2
          have hst1 : sSr γ t1 (r1.toList ++ st.drop b) ((r1.map (sTr γ)).toList ++ mst.drop b) := by
            cases r1 with
            | none => exact hrest.ext e1
            | some x1 => exact ⟨.mkT (y3 x1 rfl).2, hrest.ext e1⟩
          have k1 := kk T'.heap (locs ++ L) arr _ (by rw [q4]; exact hR1) (fun z hz => by
            rcases List.mem_append.mp hz with h | h
            · exact hL z h
            · exact q3 z h) (hls.ext e1) hst1 hz
          obtain ⟨t2, a1, b1⟩ := (W.cs (by have := e1.2.2.1; omega) (by have := e1.2.2.2; omega) k1) T' rfl q2
          exact ⟨t2, q7 t2 a1, b1⟩
        · cases y1
      · next E t1 hr1 =>
        have e1 := sRun_ext _ _ _ _ _ _ _ _ hr1
        split at h
        · cases h
        · next hni0 =>
          have hni : ¬ sIni g = true := fun z => hni0 (by rw [z]; rfl)
          have h297 : ¬ i = 297 := fun z => hni0 (by rw [z]; exact Bool.or_true _)
          have hnsp : x = .invokespecial j → ∃ v, (Sum.inr E : sRs) = .inl v := by
            intro hx
            exfalso
            rcases hkk with ⟨y, -⟩ | ⟨y, -⟩ | ⟨-, -, -, -, -, y, -⟩
            · rw [hx] at y; cases y
            · rw [hx] at y; cases y
            · exact hni (by unfold sIni; rw [y]; rfl)
          have hpr1 : sPr s0 γ t1 := by
            split at h
            · exact hpr.back (sRun_ext _ _ _ _ _ _ _ _ h)
            · cases h; exact hpr
          have hle1 : sn t1 ≤ sn t' ∧ sw t1 ≤ sw t' := by
            split at h
            · exact (sRun_ext _ _ _ _ _ _ _ _ h).2.2
            · cases h; exact ⟨Nat.le_refl _, Nat.le_refl _⟩
          intro H locs arr mst hR hL hls hs hz
          have hrun := s_run hG ih X hW0 hml hF hLo hr1 hpr1 hlen hak.1 hb h9 h8n hn hw0 (by omega) (by omega) hkk hnsp hd hR hL hs hz (e := e) (below := below) (meth := meth)
          obtain ⟨-, -, hrest⟩ := sSr_take b hs hak.1
          intro T hT9 XT
          rcases hrun T hT9 XT with ⟨v1, st₀, u, T', L, q1, q2, q3, q4, q5, ⟨⟨v0, y1, -⟩, -⟩, -⟩ | ⟨q, st₀, u, T', L, E9, ce, q1, q2, q3, q4, q5, ⟨k, y1, hk3, rfl, hR1⟩, hce, hcv, hcc, q7⟩
          · cases y1
          · cases y1
            have hL1 : ∀ z ∈ locs ++ L, s0.heap.size ≤ z.base := fun z hz => by
              rcases List.mem_append.mp hz with h | h
              · exact hL z h
              · exact q3 z h
            have X0 := X
            obtain ⟨-, -, hown, hts, hal, -⟩ := X0
            have hcau := s_caught (Q := vx_MQ below (sQc D s0 γ r t') (sXc D s0 γ r t') args s (sn t' - n0) (sw t' - w0) (fun q => s0.heap.size ≤ q)) (p := p) (l := l) (e := e) (R := R) (m := m) (below := below) (meth := meth) (locs := locs ++ L) (cells := sn t - n0 + (sn t1 - sn t)) (slots := sw t - w0 + (sw t1 - sw t)) (arr := arr) (rest := mst.drop b) (pc := pc) hH hE (sCode_lt hq) hk3 hown hts hal (htab h297) (H := T'.heap) (by rw [q4]; exact hce) hcv hcc
            have hW : vx_W p l e R s m args below meth c T'.heap (locs ++ L) (sn t - n0 + (sn t1 - sn t)) (sw t - w0 + (sw t1 - sw t)) (vx_MQ below (sQc D s0 γ r t') (sXc D s0 γ r t') args s (sn t' - n0) (sw t' - w0) (fun q => s0.heap.size ≤ q)) (F0 m pc arr (mst.drop b)) q := by
              split at h
              · next hpc hh =>
                refine hcau.1 hpc hh ?_
                have kk := ih i hpc ls [.inr (.inr (31, some 0))] t1 r t' h hpr X hW0 hml hret hlk htab hF hLo (Nat.le_trans hn e1.2.2.1) (Nat.le_trans hw0 e1.2.2.2) hrc hrs (e := e) (R := R) (below := below)
                have k1 := kk T'.heap (locs ++ L) arr [.ref q] (by rw [q4]; exact hR1) hL1 (hls.ext e1) ⟨⟨fun _ => ⟨rfl, fun _ _ => ⟨_, rfl⟩⟩, fun h => absurd rfl h⟩, trivial⟩ hz
                exact W.cs (by have := e1.2.2.1; omega) (by have := e1.2.2.2; omega) k1
              · next hh =>
                cases h
                exact vx_outP hown hlk (hcau.2 hh) (by rw [q4]; exact hce) hcv hcc (fun u9 hu _ => ⟨_, rfl, hk3, rfl, by rw [hu, q4]; exact hR1⟩) hL1 (by have := e1.2.2.1; omega) (by have := e1.2.2.2; omega)
            obtain ⟨t2, a1, b1⟩ := hW T' rfl q2
            exact ⟨t2, q7.trans a1, b1⟩
    · next rt h1 =>
      cases h
      obtain ⟨q, hq, h2⟩ := Option.bind_eq_some_iff.mp h1
      obtain ⟨hd, hk, hl⟩ := hT i pc q hq
      obtain ⟨x, n, a, b, c9, v⟩ := q
      dsimp only at hd hk hl h2
      by_cases hnw : ∃ j, x = .new j
      · obtain ⟨j, rfl⟩ := hnw
        have h3 : (if c9 = 1 then (if (st.map sCat).sum ≤ 8 then some (.inr (.inr (.inr a, sThr t))) else none) else (sStp (.new j) n a b c9 v pc ls st t).map .inl : sAc) = some (.inr (.inr (r, t'))) := h2
        split at h3
        · next hc1 =>
          split at h3
          · next h8 =>
            cases h3
            have hd3 : n = 3 := hk.1
            subst hd3
            exact s_thr hG X hW0 hlk htab hF hLo hd (hl hc1) hn hw0 hrc hrs h8
          · cases h3
        · obtain ⟨z, z1, z2⟩ := Option.map_eq_some_iff.mp h3
          cases z2
      · obtain ⟨hx, hbc, -⟩ := X
        exact s_rets hx hbc hret hlk hd hk hl h2 (fun j hj => hnw ⟨j, hj⟩)
end S19b
