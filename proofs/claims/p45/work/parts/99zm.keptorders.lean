/-! what holds between the calls: kept by orders, stops, quotes, uncrossings -/
section S99zm
variable {t t' t0 : sT} {M M' M0 N Y Z R : sM} {n T A B b c m o k x K w e i j d H C D : Nat} {p a h u p0 p1 : Int32} {s z : Bool} {L L' l : List Nat} {V : List Nat} {v : Int32} {P : Nat → Bool}
theorem Hv_com (hv : Hv M n e) (he : e ≤ 600) (ho : o < n) (hs : mA M 19 o = 0) : Hv (comF M n o) n e := by
  obtain ⟨d1, _, d3⟩ := com_D hv.1 ho (Or.inl hs)
  exact Hv_go hv.2.1 he (com_all hv.1 ho (Or.inl hs)).1 d1 d3 (no4_D d1 hv.2.2.1) hv.2.2.2 (com_t hv.1 ho (Or.inl hs))
theorem Hv_fol (hv : Hv M n e) (he : e ≤ 600) {f : Nat} : Hv (folF n f M) n e := by
  obtain ⟨d1, d2, d3⟩ := fol_D f M hv.1
  exact Hv_go hv.2.1 he (fol_K f M hv.1) d1 d2 (no4_D d1 hv.2.2.1) hv.2.2.2 d3
/-- an order laid -/
theorem Qa_lay (h : Qa M n) (hm : m < 6) (hb : b < 5) : Qa (layM M n m b s p a u) (n + 1) := fun m' b' hm' hb' => by
  obtain ⟨r, h1, h2, h3⟩ := h m' b' hm' hb'
  have eM : ∀ k, k < n → oM (layM M n m b s p a u) k = oM M k := fun k hk => by unfold oM; rw [lay_eA (by omega)]
  have eB : ∀ k, k < n → oB (layM M n m b s p a u) k = oB M k := fun k hk => by unfold oB; rw [lay_eA (by omega)]
  refine ⟨r, (lay_eA (by omega)).trans h1, fun q hq => ?_, fun k hk g1 g2 g3 g4 => ?_⟩
  · obtain ⟨a1, a2⟩ := h2 q hq
    refine ⟨by omega, fun k hk => ?_⟩
    have hk2 : k < n := by omega
    rw [lay_eB (by omega), eM k hk2, eB k hk2]
    exact a2 k hk
  · by_cases ek : k = n
    · rw [ek, lay_B4] at g1; cases g1
    · have hk2 : k < n := by omega
      rw [lay_eB (by omega)] at g1
      rw [eM k hk2] at g2
      rw [eB k hk2] at g3
      rw [lay_eA (by omega)] at g4
      exact h3 k hk2 g1 g2 g3 g4
theorem lay_gA {q : Nat} (hq : q < 12 ∨ 20 < q) : mA (layM M n m b s p a u) q = mA M q := funext fun k => lay_eA (by omega)
theorem lay_gB {q : Nat} (hq : q < 3 ∨ 6 < q) : mB (layM M n m b s p a u) q = mB M q := funext fun k => lay_eB (by omega)
theorem Hv_lay (hv : Hv M n e) (hn : n < 200) (hm : m < 6) (hb : b < 5) (ha : inB a 1 100 = true) (hh : ∃ f, u = io f ∧ 1 ≤ f ∧ f ≤ 100) (hp : prB b p = true) : Hv (layM M n m b s p a u) (n + 1) e := by
  obtain ⟨e1, ha2, he1, he⟩ := inB_100 ha
  obtain ⟨f, hh, hf1, hf⟩ := hh
  have K1 : Kv (layM M n m b s p a u) (n + 1) := lay_K hv.1 hn hm hb ha2 he1 he hh hf1 hf (prB_1000 hp)
  obtain ⟨hK, ⟨g1, g2, g3, g4, g5⟩, hn4, hbd⟩ := hv
  have e8 : mI (layM M n m b s p a u) 801 = mI M 801 := lay_I (by decide)
  refine ⟨K1, ⟨Qa_lay g1 hm hb, Hs_eq (lay_gA (by decide)) g2, by rw [lay_I (by decide)]; exact g3, fun q hq => by rw [lay_gA (by decide)]; exact g4 q hq, Pt_cg g5 (lay_gA (by decide)) (lay_gA (by decide)) (lay_gA (by decide)) (lay_gA (by decide)) (lay_gB (by decide)) e8⟩, fun k hk => ?_, ?_⟩
  · by_cases ek : k = n
    · rw [ek, lay_19]; decide
    · rw [lay_eA (by omega)]; exact hn4 k (by omega)
  · have e2 : tN (layM M n m b s p a u) = tN M := by unfold tN; rw [e8]
    have e3 : ouN (layM M n m b s p a u) = ouN M := by unfold ouN; rw [lay_gB (by decide)]
    have e4 : dnN M n ≤ dnN (layM M n m b s p a u) (n + 1) := by
      have h1 : dnN M n ≤ dnN (layM M n m b s p a u) n := dn_mono (fun k hk g => by rw [lay_eA (by omega)]; exact g)
      have h2 : dnN (layM M n m b s p a u) (n + 1) = dnN (layM M n m b s p a u) n + (if mA (layM M n m b s p a u) 19 n = 2 then 1 else 0) := rfl
      omega
    rw [e2, e3]
    omega
/-- states that agree on the orders there are -/
theorem Hv_ag (hv : Hv M n e) (h : Ag M N n) : Hv N n e := by
  have K1 := h.K hv.1
  obtain ⟨hK, ⟨g1, g2, g3, g4, g5⟩, hn4, hbd⟩ := hv
  obtain ⟨a1, a2, a3⟩ := h
  have fA : ∀ q, (q < 12 ∨ 20 < q) → mA N q = mA M q := fun q hq => funext fun k => a1 q k (by omega)
  have fB : ∀ q, (q < 3 ∨ 6 < q) → mB N q = mB M q := fun q hq => funext fun k => a2 q k (by omega)
  have eM : ∀ k, k < n → oM N k = oM M k := fun k hk => by unfold oM; rw [a1 12 k (by omega)]
  have eB : ∀ k, k < n → oB N k = oB M k := fun k hk => by unfold oB; rw [a1 13 k (by omega)]
  refine ⟨K1, ⟨fun m b hm hb => ?_, Hs_eq (fA 7 (by decide)) g2, by rw [a3]; exact g3, fun q hq => by rw [fA 11 (by decide)]; exact g4 q hq, Pt_cg g5 (fA 6 (by decide)) (fA 22 (by decide)) (fA 23 (by decide)) (fA 25 (by decide)) (fB 2 (by decide)) (a3 801)⟩, fun k hk => by rw [a1 19 k (by omega)]; exact hn4 k hk, ?_⟩
  · obtain ⟨r, h1, h2, h3⟩ := g1 m b hm hb
    refine ⟨r, (a1 10 _ (by omega)).trans h1, fun q hq => ?_, fun k hk c1 c2 c3 c4 => ?_⟩
    · obtain ⟨b1, b2⟩ := h2 q hq
      refine ⟨b1, fun k hk => ?_⟩
      have hk2 : k < n := by omega
      rw [a2 4 k (by omega), eM k hk2, eB k hk2]
      exact b2 k hk
    · rw [a2 4 k (by omega)] at c1
      rw [eM k hk] at c2
      rw [eB k hk] at c3
      rw [a1 19 k (by omega)] at c4
      exact h3 k hk c1 c2 c3 c4
  · have e2 : tN N = tN M := by unfold tN; rw [a3]
    have e3 : ouN N = ouN M := by unfold ouN; rw [fB 2 (by decide)]
    have e4 : dnN M n ≤ dnN N n := dn_mono (fun k hk g => by rw [a1 19 k (by omega)]; exact g)
    rw [e2, e3]
    omega
theorem Hv_nq (hv : Hv M n e) : Hv (nqF M) n e := Hv_cg hv (fun q hq => nq_A (by omega)) (fun c hc => by rw [nq_A (by decide)]; exact Hv_3 hv c hc) (fun _ _ => rfl) (fun _ _ => rfl)
/-- an order sent -/
theorem Hr_ok (h : Hv M n e) : Hr (ok v M n) e := h
theorem Hr_sndY (h1 : Hv (mIw Y 786 (io n)) n e) (h2 : Hv (folF (n + 1) (n + 1) (comF (mBw (nqF Y) 5 n z) (n + 1) n)) (n + 1) e) : Hr (sndY Y n m z) e := by
  unfold sndY
  generalize folF (n + 1) (n + 1) (comF (mBw (nqF Y) 5 n z) (n + 1) n) = X at *
  generalize mIw Y 786 (io n) = X1 at *
  cases nmF Y (n + 1) m with
  | true => rw [cond_true]; exact Hr_ok h1
  | false => rw [cond_false]; exact Hr_ok h2
theorem Hv_sent (he : e ≤ 600) (HL : Hv Y (n + 1) e) (h19 : mA Y 19 n = 0) : Hv (folF (n + 1) (n + 1) (comF (mBw (nqF Y) 5 n z) (n + 1) n)) (n + 1) e := by
  have H1 : Hv (mBw (nqF Y) 5 n z) (n + 1) e := Hv_sB (by decide) (Hv_nq HL)
  have h2 : mA (mBw (nqF Y) 5 n z) 19 n = 0 := by
    rw [mA_B, nq_A (by decide)]
    exact h19
  generalize mBw (nqF Y) 5 n z = X at *
  exact Hv_fol (Hv_com H1 he (Nat.lt_succ_self n) h2) he
theorem Hr_snd (hv : Hv M n e) (he : e ≤ 600) (hn : n < 200) (hm : m < 6) (hb : b < 5) (ha : inB a 1 100 = true) (hh : ∃ f, u = io f ∧ 1 ≤ f ∧ f ≤ 100) (hp : prB b p = true) : Hr (sndR M n m b s p a u z) e := by
  have HL : Hv (layM (m0 M) n m b s p a u) (n + 1) e := Hv_lay (Hv_m0 hv) hn hm hb ha hh hp
  have hag : Ag (m0 M) (mIw (layM (m0 M) n m b s p a u) 786 (io n)) n := Ag_of lay_fA lay_fB (fun F g => lay_I g) (Hv_m0 hv).1.2.1
  have h19 : mA (layM (m0 M) n m b s p a u) 19 n = 0 := lay_19
  have HA := Hv_ag (Hv_m0 hv) hag
  unfold sndR
  generalize layM (m0 M) n m b s p a u = Y at *
  exact Hr_sndY HA (Hv_sent he HL h19)
theorem H94 (hv : Hv M n e) (he : e ≤ 600) : Hr (sp94 M n p0 p1 s p a h) e := by
  unfold sp94
  split
  · exact Hv_768 hv
  · rename_i m e0
    obtain ⟨hm, rfl⟩ := ixo_s e0
    split
    · exact Hv_768 hv
    · rename_i b e1
      obtain ⟨hb, rfl⟩ := ixo_s e1
      cases h1 : okO b p a h with
      | false => exact Hv_768 hv
      | true =>
        cases h2 : stO M n m b with
        | false => exact Hv_768 hv
        | true =>
          have hn : n < 200 := by unfold stO at h2; simp at h2; exact h2.2.2
          have ho := h1
          unfold okO at ho
          simp only [Bool.and_eq_true] at ho
          obtain ⟨ho1, ho2, ho3⟩ := ho
          have hh : ∃ f, h = io f ∧ 1 ≤ f ∧ f ≤ 100 := by
            obtain ⟨e, ha, he1, he⟩ := inB_100 ho2
            rw [ha] at ho3
            obtain ⟨f, h3, h4, h5⟩ := inB_io (lo := 1) (by decide) (by omega) ho3
            exact ⟨f, h3, h4, by omega⟩
          rw [cond_true, cond_true]
          exact Hr_snd hv he hn hm hb ho2 hh ho1
theorem H95 (hv : Hv M n e) (he : e ≤ 600) : Hr (sp95 M n p0 p1 s p a) e := by
  unfold sp95
  split
  · exact Hv_768 hv
  · rename_i m e0
    obtain ⟨hm, rfl⟩ := ixo_s e0
    split
    · exact Hv_768 hv
    · rename_i b e1
      obtain ⟨hb, rfl⟩ := ixo_s e1
      cases h1 : okN b p a with
      | false => exact Hv_768 hv
      | true =>
        cases h2 : stN' M n m b with
        | false => exact Hv_768 hv
        | true =>
          have hn : n < 200 := by unfold stN' at h2; simp at h2; exact h2.2.2
          have ho := h1
          unfold okN at ho
          simp only [Bool.and_eq_true] at ho
          obtain ⟨ho1, ho2⟩ := ho
          rw [cond_true, cond_true]
          exact Hr_snd hv he hn hm hb ho2 (inB_100 ho2) ho1
theorem Hv_20 (hv : Hv M n e) : Hv (mAw M 20 k v) n e :=
  Hv_cg hv (fun q' h' => funext fun k' => if_neg (fun z => by have := z.1; omega)) (fun c hc => by
    show 0 ≤ (if 3 = 20 ∧ c = k then v else mA M 3 c)
    rw [if_neg (fun z => by have := z.1; omega)]
    exact Hv_3 hv c hc) (fun _ _ => rfl) (fun _ _ => rfl)
theorem H96 (hv : Hv M n e) (he : e ≤ 600) : Hr (sp96 M n p0 p1 s p a h) e := by
  unfold sp96
  split
  · exact Hv_768 hv
  · rename_i m e0
    obtain ⟨hm, rfl⟩ := ixo_s e0
    split
    · exact Hv_768 hv
    · rename_i b e1
      obtain ⟨hb, rfl⟩ := ixo_s e1
      cases h1 : okS b p a h with
      | false => exact Hv_768 hv
      | true =>
        cases h2 : stO M n m b with
        | false => exact Hv_768 hv
        | true =>
          have hn : n < 200 := by unfold stO at h2; simp at h2; exact h2.2.2
          have ho := h1
          unfold okS at ho
          simp only [Bool.and_eq_true] at ho
          obtain ⟨ho1, ho2, ho3⟩ := ho
          have HL : Hv (layM (m0 M) n m b s p a a) (n + 1) e := Hv_lay (Hv_m0 hv) hn hm hb ho2 (inB_100 ho2) ho1
          have hag : Ag (m0 M) (mIw (layM (m0 M) n m b s p a a) 786 (io n)) n := Ag_of lay_fA lay_fB (fun F g => lay_I g) (Hv_m0 hv).1.2.1
          rw [cond_true, cond_true]
          generalize layM (m0 M) n m b s p a a = Y at *
          unfold stpY
          cases nmF Y (n + 1) m with
          | true => exact Hv_ag (Hv_m0 hv) (Ag_20 hag)
          | false => exact Hv_20 HL
/-! uncrossing -/
theorem Gk_us (g : Gk N M) (hI : mI N 801 = io T) (hT : T + 2 < 4096) (hb : b < 5) (hm : oM N i < 6) (ho : oM N j < 6) (hK : K ≤ 100) : Gk (usM N b T p i j (io K)) M := Gk_of (Gk_of (Gk_db g hI hT hb hm ho hK))
theorem Ri_G (hR : Ri M n) (h : Un N M) : Ri N n := by
  have e12 := h.1 12 rfl
  have e13 := h.1 13 rfl
  have h3 : oM N = oM M := funext fun k => by unfold oM; rw [e12]
  have h4 : oB N = oB M := funext fun k => by unfold oB; rw [e13]
  refine ⟨(h.2.2 786 (by decide) (by decide)).trans hR.1, hR.2.1, fun k hk => ?_, fun k hk => ?_⟩
  · rw [e12, h3]; exact hR.2.2.1 k hk
  · rw [e13, h4]; exact hR.2.2.2 k hk
theorem uc_G (hb : b < 5) : ∀ (f : Nat) (M : sM) (T K : Nat), Ri M n → Uv M n b p K → mI M 801 = io T → T + 2 * rcN M n < 4094 →
    Gk (uc n b p f M K) M ∧ ∃ T', mI (uc n b p f M K) 801 = io T' ∧ T' < 4096 ∧ T' + 2 * dnN M n ≤ T + 2 * dnN (uc n b p f M K) n
  | 0, M, T, K, hR, hU, hI, hT => ⟨Gk.refl M, T, hI, by omega, Nat.le_refl _⟩
  | f + 1, M, T, K, hR, hU, hI, hT => by
    rcases Nat.eq_zero_or_pos K with h0 | h0
    · subst h0
      rw [uc_0]
      exact ⟨Gk.refl M, T, hI, by omega, Nat.le_refl _⟩
    · obtain ⟨i, j, v, u1, u2, u3, u4, u5, u6, u7, u8, u9, u10, u11, u12, u13⟩ := us_all hU h0
      obtain ⟨w1, w2, w3, _⟩ := u13 T
      rw [uc_s h0 u1 u2 u9 u12 (tN_T hI (by omega))]
      have hd := dbT_lx (b := b) (T := T)
      have hG : Gk (usM M b T p i j (io v)) M := Gk_us (Gk.refl M) hI (by omega) hb (gm6 hR u3) (gm6 hR u4) u12
      obtain ⟨i1, T', i2, i3, i4⟩ := uc_G hb f (usM M b T p i j (io v)) (dbT b T) (K - v) (Ri_G hR hG.1) w1 us_T (by omega)
      exact ⟨i1.trans hG, T', i2, i3, by omega⟩
theorem un_G (hb : b < 5) (hK : Kv M n) (hT : tN M + 2 * rcN M n < 4094) : Gk (unZ M n b) M ∧ ∃ T', mI (unZ M n b) 801 = io T' ∧ T' < 4096 ∧ T' + 2 * dnN M n ≤ tN M + 2 * dnN (unZ M n b) n := by
  obtain ⟨T, h1, h2⟩ := hK.2.2.2.2
  have e1 := tN_T h1 h2
  rw [← e1] at h1
  unfold unZ usz
  by_cases g : auF M n b = -10000
  · rw [if_pos g, uc_0]
    exact ⟨Gk.refl M, tN M, h1, by omega, Nat.le_refl _⟩
  · rw [if_neg g]
    exact uc_G hb n M (tN M) _ hK.2.1 ⟨Lv1_of hK, rfl⟩ h1 hT
theorem Gk_sa (g : Gk N M) : Gk (saF N P) M := by
  refine Gk.trans ⟨⟨fun q h => sa_f (fun z => by rw [z] at h; cases h), fun _ _ _ => rfl, fun _ _ _ => rfl⟩, fun e he hp => Pt_cg hp (sa_f (by decide)) (sa_f (by decide)) (sa_f (by decide)) (sa_f (by decide)) rfl rfl⟩ g
theorem Gk_unG (g : Gk N M) : Gk (unG N n b K p) M := by
  have g1 : Gk (mAw N 0 b 2) M := Gk_A rfl g
  unfold unG
  split
  · cases decide (b < 3) with
    | true => exact Gk_A rfl (Gk_re g1)
    | false => exact Gk_re g1
  · exact g1
theorem unG_19 : mA (unG N n b K p) 19 = mA N 19 := by
  have e1 : mA (reF (mAw N 0 b 2) n b p) 19 = mA N 19 := re_st.trans (aw_f (by decide))
  unfold unG
  split
  · cases decide (b < 3) with
    | true => exact (aw_f (by decide)).trans e1
    | false => exact e1
  · exact aw_f (by decide)
theorem Dd_po : Dd (poF N n) N n := fun k hk => by
  rcases po_19 (N := N) (n := n) (k := k) with g | g
  · rw [g]; exact ⟨fun _ _ _ => rfl, fun h => h⟩
  · exact ⟨fun _ h1 _ => absurd g.1 h1, fun h => by rw [g.2] at h; exact absurd h (by decide)⟩
theorem H86 (hv : Hv M n e) (he : e ≤ 600) : Hr (sp86 M n p0) e := by
  unfold sp86
  split
  · exact Hv_768 hv
  · rename_i b e0
    obtain ⟨hb, rfl⟩ := ixo_s e0
    split
    · have HY : Hv (nqF (m0 M)) n e := Hv_nq (Hv_m0 hv)
      show Hv (unR (nqF (m0 M)) n b) n e
      generalize nqF (m0 M) = Y at *
      have hT := Hv_T HY
      obtain ⟨f1, f2⟩ := un_facts (b := b) HY.1
      obtain ⟨G1, T', t1, t2, t3⟩ := un_G hb HY.1 (by omega)
      have hKX := un_K (b := b) (K := usz Y n b) (p := auF Y n b) HY.1 t1 t2
      have hD1 : Dd (unZ Y n b) Y n := fun k hk => by
        rcases f1.2.2.2.2.2.1 k with g | ⟨g1, g2⟩
        · rw [g]; exact ⟨fun _ _ _ => rfl, fun h => h⟩
        · exact ⟨fun _ h1 _ => absurd g1 h1, fun h => by rw [g2] at h; exact absurd h (by decide)⟩
      unfold unR
      have e19 : mA (unG (unS (unZ Y n b) n b) n b (usz Y n b) (auF Y n b)) 19 = mA (unZ Y n b) 19 := unG_19.trans (sa_f (by decide))
      have hD : Dd (poF (unG (unS (unZ Y n b) n b) n b (usz Y n b) (auF Y n b)) n) Y n := (Dd_po.trans (Dd_eq e19)).trans hD1
      have hG : Gk (poF (unG (unS (unZ Y n b) n b) n b (usz Y n b) (auF Y n b)) n) Y := Gk_po (Gk_unG (Gk_sa G1))
      have e801 : ∀ {X : sM}, mI (unG X n b (usz Y n b) (auF Y n b)) 801 = mI X 801 := fun {X} => by
        unfold unG
        split
        · cases decide (b < 3) with
          | true => exact re_801
          | false => exact re_801
        · rfl
      have eT : tN (poF (unG (unS (unZ Y n b) n b) n b (usz Y n b) (auF Y n b)) n) = T' := tN_T (po_801.trans (e801.trans t1)) t2
      have hdn : dnN (unZ Y n b) n ≤ dnN (poF (unG (unS (unZ Y n b) n b) n b (usz Y n b) (auF Y n b)) n) n := by
        have h1 := dn_D (n := n) (Dd_po (N := unG (unS (unZ Y n b) n b) n b (usz Y n b) (auF Y n b)) (n := n))
        have h2 : dnN (unG (unS (unZ Y n b) n b) n b (usz Y n b) (auF Y n b)) n = dnN (unZ Y n b) n := by unfold dnN; rw [e19]
        omega
      have hou := Gk_ou hG
      have hb0 := HY.2.2.2
      generalize poF (unG (unS (unZ Y n b) n b) n b (usz Y n b) (auF Y n b)) n = X at *
      exact Hv_fol ⟨hKX, Ha_go HY.2.1 he hD hG, no4_D hD HY.2.2.1, by omega⟩ he
    · exact Hv_768 hv
/-! quotes -/
theorem wd_Dd (hP : ∀ k, k < n → P k = true → mA M 19 k = 0 ∨ mA M 19 k = 1) : Dd (wdF M P) M n := fun k hk => by
  rw [wd_19]
  by_cases hp : P k = true
  · rw [if_pos hp]
    refine ⟨fun g0 g1 _ => ?_, fun g => absurd g (by decide)⟩
    rcases hP k hk hp with g | g
    · exact absurd g g0
    · exact absurd g g1
  · rw [if_neg hp]; exact ⟨fun _ _ _ => rfl, fun g => g⟩
theorem qs_lv (h : qs M m b k = true) : mB M 4 k = true ∧ oM M k = m ∧ oB M k = b ∧ (mA M 19 k = 0 ∨ mA M 19 k = 1) := by
  unfold qs qq at h
  simp only [Bool.and_eq_true, Bool.or_eq_true, decide_eq_true_eq] at h
  exact ⟨h.2.1, h.2.2.1, h.1, h.2.2.2⟩
theorem Hv_wqs (hv : Hv M n e) (he : e ≤ 600) : Hv (wqsF M n m b) n e := by
  have e1 : wqsF M n m b = wqs_L M n m b n := rfl
  have hd : Dd (wqsF M n m b) M n := by
    rw [e1, wqs_wd]
    refine wd_Dd (fun k _ hp => ?_)
    rw [Bool.and_eq_true] at hp
    exact (qs_lv hp.2).2.2.2
  have hg : Gk (wqsF M n m b) M := Gk_wqs (Gk.refl M) n
  have ht : tN (wqsF M n m b) = tN M := by
    have : mI (wqsF M n m b) = mI M := by rw [e1, wqs_wd]; rfl
    unfold tN
    rw [this]
  exact Hv_go hv.2.1 he (Kv_wqs hv.1 n (Nat.le_refl n)) hd hg (no4_D hd hv.2.2.1) hv.2.2.2 (by omega)
theorem wqs_dead (hk : k < n) (h1 : mB (wqsF M n m b) 4 k = true) (h2 : oM (wqsF M n m b) k = m) (h3 : oB (wqsF M n m b) k = b) (hn : ¬ mA M 19 k = 4) (h4 : mA (wqsF M n m b) 19 k = 0 ∨ mA (wqsF M n m b) 19 k = 1 ∨ mA (wqsF M n m b) 19 k = 4) : False := by
  have e1 : wqsF M n m b = wdF M (fun k => decide (k < n) && qs M m b k) := wqs_wd n
  rw [e1] at h1 h2 h3 h4
  have eM : oM (wdF M (fun k => decide (k < n) && qs M m b k)) k = oM M k := by unfold oM; rw [wd_o (by decide) (by decide)]
  have eB : oB (wdF M (fun k => decide (k < n) && qs M m b k)) k = oB M k := by unfold oB; rw [wd_o (by decide) (by decide)]
  rw [eM] at h2
  rw [eB] at h3
  rw [wd_B] at h1
  rw [wd_19] at h4
  cases hp : (decide (k < n) && qs M m b k) with
  | true => rw [if_pos hp] at h4; rcases h4 with g | g | g <;> exact absurd g (by decide)
  | false =>
    rw [if_neg (by rw [hp]; exact Bool.false_ne_true)] at h4
    have h5 : mA M 19 k = 0 ∨ mA M 19 k = 1 := by
      rcases h4 with g | g | g
      · exact Or.inl g
      · exact Or.inr g
      · exact absurd g hn
    have h6 : qs M m b k = true := by
      unfold qs qq
      simp only [Bool.and_eq_true, Bool.or_eq_true, decide_eq_true_eq]
      exact ⟨h3, h1, h2, h5⟩
    rw [h6, decide_eq_true hk] at hp
    cases hp
end S99zm
