/-! the class: an order is added -/
section S97
variable {t t' t0 u : sT} {M M' M0 N : sM} {n T A B b c m o k x y K w v j F e : Nat} {p a h d sz : Int32} {s z : Bool} {L L' l : List Nat} {r r0 : Option Nat} {y0 y1 y2 : sV} {Q : sRs → sT → Prop}
/-- the state with an order that is coming -/
def la4 (M : sM) (n m b : Nat) (s : Bool) (p a : Int32) : sM := mAw (layM M n m b s p a a) 19 n 4
theorem l4_o {q : Nat} (hk : ¬ k = n) : mA (la4 M n m b s p a) q k = mA M q k := (aw_o hk).trans (lay_o hk)
theorem l4_n {q : Nat} (hq : ¬ q = 19) : mA (la4 M n m b s p a) q n = mA (layM M n m b s p a a) q n := aw_q hq
theorem lay_q {q : Nat} (hq : (q < 12 ∨ 20 < q)) : mA (layM M n m b s p a h) q k = mA M q k := by
  unfold layM
  rw [mA_I, mA_B, aw_q (by omega), mA_B, mA_B, aw_q (by omega), aw_q (by omega), aw_q (by omega), aw_q (by omega), aw_q (by omega), aw_q (by omega), mA_B, aw_q (by omega), aw_q (by omega)]
theorem l4_q {q : Nat} (hq : (q < 12 ∨ 20 < q)) : mA (la4 M n m b s p a) q k = mA M q k := (aw_q (by omega)).trans (lay_q hq)
theorem lay_17 : mA (layM M n m b s p a h) 17 n = 0 := by
  unfold layM
  rw [mA_I, mA_B, aw_q (by decide), mA_B, mA_B, aw_q (by decide), aw_q (by decide), aw_s]
theorem lay_20 : mA (layM M n m b s p a h) 20 n = 0 := by
  unfold layM
  rw [mA_I, mA_B, aw_s]
theorem lay_B3 : mB (layM M n m b s p a h) 3 n = s := by
  unfold layM
  rw [mB_iw, bw_q (by decide), mB_aw, bw_q (by decide), bw_q (by decide), mB_aw, mB_aw, mB_aw, mB_aw, mB_aw, mB_aw, bw_s]
theorem lay_B5 : mB (layM M n m b s p a h) 5 n = false := by
  unfold layM
  rw [mB_iw, bw_q (by decide), mB_aw, bw_s]
theorem lay_B6 : mB (layM M n m b s p a h) 6 n = false := by
  unfold layM
  rw [mB_iw, bw_s]
theorem lay_Bq {q : Nat} (hq : (q < 3 ∨ 6 < q)) : mB (layM M n m b s p a h) q k = mB M q k := by
  unfold layM
  rw [mB_iw, bw_q (by omega), mB_aw, bw_q (by omega), bw_q (by omega), mB_aw, mB_aw, mB_aw, mB_aw, mB_aw, mB_aw, bw_q (by omega), mB_aw, mB_aw]
theorem l4_B : mB (la4 M n m b s p a) = mB (layM M n m b s p a a) := mB_aw (M := layM M n m b s p a a) (q := 19) (x := n) (v := 4)
theorem l4_I : mI (la4 M n m b s p a) = mI (layM M n m b s p a a) := mI_aw (M := layM M n m b s p a a) (q := 19) (x := n) (v := 4)
theorem l4_19 : mA (la4 M n m b s p a) 19 n = 4 := aw_s
theorem bd_8 {F : Nat} : bd (n + 1) T F = bd n T F ∨ (F / 64 = 8 ∧ bd (n + 1) T F = n + 1 ∧ bd n T F = n) := by
  unfold bd
  split <;> first | exact Or.inl rfl | (exact Or.inr ⟨by assumption, rfl, rfl⟩)
theorem Cq_mono14 {R R' : Nat → Bool → Nat → Prop} (hC : Cq t M R) (h9 : ∀ F, kc F = true → sR t' F = sR t F) (h14 : ∀ b s x, R b s x → mA M' 14 x = mA M 14 x) (h18 : ∀ b s x, R b s x → mA M' 18 x = mA M 18 x) (hR : ∀ b s x, b < 5 → (R b s x ↔ R' b s x)) : Cq t' M' R' := by
  intro b s hb
  obtain ⟨l, h1, h2, h3⟩ := hC b s hb
  refine ⟨l, ?_, ?_, fun x => (h3 x).trans (hR b s x hb)⟩
  · have e : hd t' b s = hd t b s := by unfold hd; rw [h9 69 rfl, h9 70 rfl]
    rw [e]
    exact Lk_fr (fun x _ => by rw [h9 529 rfl]) h1
  · refine h2.imp_of_mem (fun {a c} ha hc hab => ?_)
    unfold btr at hab ⊢
    rw [h14 b s a ((h3 a).mp ha), h14 b s c ((h3 c).mp hc), h18 b s a ((h3 a).mp ha), h18 b s c ((h3 c).mp hc)]
    exact hab
def ordT (t : sT) (n m b : Nat) (s : Bool) (p a : Int32) : sT := sIw (sIw (sIw (sZw (sRw (sRw (sIw (sIw (sNew t 8 18) 522 n 4) 512 n (io n)) 513 n (some m)) 514 n (some b)) 515 n s) 516 n p) 517 n a) 523 n a
theorem oT_I : sI (ordT t n m b s p a) F o = if o = n then (if F = 523 then a else if F = 517 then a else if F = 516 then p else if F = 512 then io n else if F = 522 then 4 else sI t F o) else sI t F o := by
  show (if F = 523 ∧ o = n then a else if F = 517 ∧ o = n then a else if F = 516 ∧ o = n then p else if F = 512 ∧ o = n then io n else if F = 522 ∧ o = n then 4 else sI t F o) = _
  by_cases e : o = n
  · simp only [e, and_true, if_true]
  · simp only [e, and_false, if_false]
theorem oT_Z : sZ (ordT t n m b s p a) F o = if F = 515 ∧ o = n then s else sZ t F o := rfl
theorem oT_R : sR (ordT t n m b s p a) F o = if F = 514 ∧ o = n then some b else if F = 513 ∧ o = n then some m else sR t F o := rfl
theorem oT_Cn (h : Cn t) : Cn (ordT t n m b s p a) := Cn.I rfl (Cn.I rfl (Cn.I rfl (Cn.Z (Cn.R rfl (Cn.R rfl (Cn.I rfl (Cn.I rfl (Cn.new h))))))))
theorem oT_ep : ep (ordT t n m b s p a) = ep t := by
  have e1 : ∀ u : sT, ep (sIw u 523 n a) = ep u := fun u => ep_I rfl
  have e2 : ∀ u : sT, ep (sIw u 517 n a) = ep u := fun u => ep_I rfl
  have e3 : ∀ u : sT, ep (sIw u 516 n p) = ep u := fun u => ep_I rfl
  have e4 : ∀ u : sT, ep (sIw u 512 n (io n)) = ep u := fun u => ep_I rfl
  have e5 : ∀ u : sT, ep (sIw u 522 n 4) = ep u := fun u => ep_I rfl
  have e6 : ∀ u : sT, ep (sZw u 515 n s) = ep u := fun u => rfl
  have e7 : ∀ (u : sT) (F : Nat) (v : Option Nat), ep (sRw u F n v) = ep u := fun u F v => rfl
  have e8 : ep (sNew t 8 18) = ep t := rfl
  unfold ordT
  rw [e1, e2, e3, e6, e7, e7, e4, e5, e8]
theorem oT_Rl (hW : Wc t M n T L A B) : Rl (ordT t n m b s p a) (la4 M n m b s p a) (n + 1) T := by
  obtain ⟨hM, hS, hR, hC, ⟨-, hz⟩, -⟩ := hW
  refine ⟨fun q hq o ho => ?_, fun q hq o ho => ?_, fun q hq => ?_, ⟨fun m' c' h1 h2 => ?_, fun k hk => ?_⟩, fun o ho => ?_⟩
  · rw [oT_I]
    by_cases e8 : q.1 / 64 = 8
    · have eb : bd (n + 1) T q.1 = n + 1 := by unfold bd; rw [e8]; rfl
      have eb2 : bd n T q.1 = n := by unfold bd; rw [e8]; rfl
      rw [eb] at ho
      by_cases e : o = n
      · rw [if_pos e, e]
        have c1 := (by decide : ∀ q ∈ sPI, q.1 / 64 = 8 → q = (516, 14) ∨ q = (523, 15) ∨ q = (517, 16) ∨ q = (525, 18) ∨ q = (522, 19) ∨ q = (518, 20)) q hq e8
        have hz1 := hz.1 n (Nat.le_refl n)
        rcases c1 with r | r | r | r | r | r <;> rw [r]
        · exact (l4_n (q := 14) (by decide)).trans lay_14 |>.symm
        · exact (l4_n (q := 15) (by decide)).trans lay_15 |>.symm
        · exact (l4_n (q := 16) (by decide)).trans lay_16 |>.symm
        · exact hz1.2.1.trans ((l4_n (q := 18) (by decide)).trans lay_18).symm
        · exact l4_19.symm
        · exact hz1.1.trans ((l4_n (q := 20) (by decide)).trans lay_20).symm
      · rw [if_neg e]
        exact (hM.1 q hq o (by omega)).trans (l4_o e).symm
    · have eb : bd (n + 1) T q.1 = bd n T q.1 := by
        rcases bd_8 (n := n) (T := T) (F := q.1) with g | g
        · exact g
        · exact absurd g.1 e8
      rw [eb] at ho
      have c1 := (by decide : ∀ q ∈ sPI, ¬ q.1 / 64 = 8 → (¬ q.1 = 523 ∧ ¬ q.1 = 517 ∧ ¬ q.1 = 516 ∧ ¬ q.1 = 512 ∧ ¬ q.1 = 522) ∧ (q.2 < 12 ∨ 20 < q.2)) q hq e8
      rw [l4_q c1.2, ← hM.1 q hq o ho]
      rw [if_neg c1.1.1, if_neg c1.1.2.1, if_neg c1.1.2.2.1, if_neg c1.1.2.2.2.1, if_neg c1.1.2.2.2.2]
      exact ite_self _
  · rw [oT_Z, l4_B]
    by_cases e8 : q.1 / 64 = 8
    · have eb : bd (n + 1) T q.1 = n + 1 := by unfold bd; rw [e8]; rfl
      have eb2 : bd n T q.1 = n := by unfold bd; rw [e8]; rfl
      rw [eb] at ho
      by_cases e : o = n
      · rw [e]
        have c1 := (by decide : ∀ q ∈ sPZ, q.1 / 64 = 8 → q = (515, 3) ∨ q = (520, 4) ∨ q = (519, 5) ∨ q = (521, 6)) q hq e8
        have hz1 := hz.1 n (Nat.le_refl n)
        rcases c1 with r | r | r | r <;> rw [r]
        · exact (if_pos ⟨rfl, rfl⟩).trans lay_B3.symm
        · exact (if_neg (fun g => by cases g.1)).trans (hz1.2.2.2.1.trans lay_B4.symm)
        · exact (if_neg (fun g => by cases g.1)).trans (hz1.2.2.1.trans lay_B5.symm)
        · exact (if_neg (fun g => by cases g.1)).trans (hz1.2.2.2.2.trans lay_B6.symm)
      · rw [if_neg (fun g => e g.2)]
        exact (hM.2.1 q hq o (by omega)).trans (lay_Bo e).symm
    · have eb : bd (n + 1) T q.1 = bd n T q.1 := by
        rcases bd_8 (n := n) (T := T) (F := q.1) with g | g
        · exact g
        · exact absurd g.1 e8
      rw [eb] at ho
      have c1 := (by decide : ∀ q ∈ sPZ, ¬ q.1 / 64 = 8 → ¬ q.1 = 515 ∧ (q.2 < 3 ∨ 6 < q.2)) q hq e8
      rw [lay_Bq c1.2, if_neg (fun g => c1.1 g.1)]
      exact hM.2.1 q hq o ho
  · rw [oT_I, l4_I, lay_I ((by decide : ∀ q ∈ sPS, ¬ q.2 = 786) q hq), ← hM.2.2.1 q hq]
    have c1 := (by decide : ∀ q ∈ sPS, ¬ q.1 = 523 ∧ ¬ q.1 = 517 ∧ ¬ q.1 = 516 ∧ ¬ q.1 = 512 ∧ ¬ q.1 = 522) q hq
    rw [if_neg c1.1, if_neg c1.2.1, if_neg c1.2.2.1, if_neg c1.2.2.2.1, if_neg c1.2.2.2.2]
    exact ite_self _
  · rw [l4_q (Or.inl (by decide))]; exact hM.2.2.2.1.1 m' c' h1 h2
  · rw [l4_q (Or.inl (by decide))]; exact hM.2.2.2.1.2 k hk
  · by_cases e : o = n
    · rw [e, l4_19, l4_n (q := 17) (by decide), lay_17, if_neg (by decide)]
    · rw [l4_o e, l4_o e, oT_I, if_neg e]; exact hM.2.2.2.2 o (by omega)
theorem l4_Ri (hR : Ri M n) (hm : m < 6) (hb : b < 5) (hn : n < 200) : Ri (la4 M n m b s p a) (n + 1) := by
  have h1 : Ri (layM M n m b s p a a) (n + 1) := lay_Ri hR hm hb hn
  unfold la4
  generalize layM M n m b s p a a = X at h1
  exact (Fr_A rfl (Fr.refl X)).ri h1
theorem l4_oM (hm : m < 6) : oM (la4 M n m b s p a) k = if k = n then m else oM M k := by
  unfold oM
  by_cases e : k = n
  · rw [if_pos e, e, l4_n (by decide), lay_12]; exact nn_io (by omega)
  · rw [if_neg e, l4_o e]
theorem l4_oB (hb : b < 5) : oB (la4 M n m b s p a) k = if k = n then b else oB M k := by
  unfold oB
  by_cases e : k = n
  · rw [if_pos e, e, l4_n (by decide), lay_13]; exact nn_io (by omega)
  · rw [if_neg e, l4_o e]
theorem oT_rlC (hW : Wc t M n T L A B) (hb5 : b < 5) : rlC (ordT t n m b s p a) (la4 M n m b s p a) (n + 1) := by
  refine Cq_mono14 (R := rst M n) hW.2.2.2.1 (fun F hF => funext fun x => ?_) (fun b s x hx => l4_o (by have := hx.1; omega)) (fun b s x hx => l4_o (by have := hx.1; omega)) (fun b' s' x hb' => ?_)
  · rw [oT_R, if_neg (fun g => by rw [g.1] at hF; cases hF), if_neg (fun g => by rw [g.1] at hF; cases hF)]
  · unfold rst
    by_cases e : x = n
    · rw [e, l4_19]
      exact ⟨fun g => absurd g.1 (Nat.lt_irrefl n), fun g => absurd g.2.1 (by decide)⟩
    · rw [l4_o e, l4_oB hb5, if_neg e, l4_B, lay_Bo e]
      exact ⟨fun g => ⟨by omega, g.2⟩, fun g => ⟨by omega, g.2⟩⟩
set_option maxHeartbeats 2000000 in
/-- an order is added -/
theorem w27 (hW : Wc t M n T L A B) (hm : m < 6) (hb : b < 5) (hn : n < 200)
    (q : ∀ t', Wc t' (la4 M n m b s p a) (n + 1) T L A B → ep t' = ep t → Q (.inl (some (.inr (.inr (8, some n))))) t') :
    X 27 0 [.inr (.inr (4, (some 0))), .inr (.inr (7, (some m))), .inr (.inr (1, (some b))), .inl (bz s), .inl p, .inl a, sJk] [] t Q := by
  refine n27 hW.1 hW.2.1 hW.2.2.1 hm hb ?_
  have hT4 := W_T hW
  have hM1 := oT_Rl (m := m) (b := b) (s := s) (p := p) (a := a) hW
  have hC1 := oT_rlC (m := m) (s := s) (p := p) (a := a) hW hb
  have hRi := l4_Ri (s := s) (p := p) (a := a) hW.2.2.1 hm hb hn
  have hCn1 := oT_Cn (n := n) (m := m) (b := b) (s := s) (p := p) (a := a) hW.2.1.1
  have he1 := oT_ep (t := t) (n := n) (m := m) (b := b) (s := s) (p := p) (a := a)
  obtain ⟨g1, g2, g3, g4, g5, ⟨g6, g7, g8⟩, g9, g10⟩ := hW.2.1
  obtain ⟨⟨d, w, hLd⟩, hz⟩ := hW.2.2.2.2.1
  have hL9 := hW.2.2.2.2.2
  have oI : ∀ F o, sI (ordT t n m b s p a) F o = _ := fun F o => oT_I
  have oZ : ∀ F o, sZ (ordT t n m b s p a) F o = _ := fun F o => oT_Z
  have oR9 : ∀ F o, sR (ordT t n m b s p a) F o = _ := fun F o => oT_R
  have hC8 : sC (ordT t n m b s p a) 8 = sC t 8 + 1 := sU1_e (sC t) 8 (sC t 8 + 1)
  have hCo : ∀ k, ¬ k = 8 → sC (ordT t n m b s p a) k = sC t k := fun k hk => if_neg hk
  have hsn : sn (ordT t n m b s p a) = sn t + 1 := rfl
  have hsw : sw (ordT t n m b s p a) = sw t + 18 := rfl
  have hsN : sN (ordT t n m b s p a) = sN t := rfl
  have hsE : sE (ordT t n m b s p a) = sE t := rfl
  show X 254 0 [.inr (.inr (13, (some 1))), .inr (.inr (8, (some n)))] [] (ordT t n m b s p a) _
  generalize hu : ordT t n m b s p a = u at *
  have hLd1 : LLd u (l3 T n L.length) (l3 T n 200) (e3 L) (A + (n + 1) + T) (B + 18 * (n + 1) + 6 * T) d w := by
    refine LLd_w hLd (fun l => ?_) (fun l => ?_) (by rw [hsN]) (hCo 27 (by decide)) (by rw [hsE]) (by omega) (by omega)
    · rw [oR9, if_neg (fun g => by cases g.1), if_neg (fun g => by cases g.1)]
    · rw [oI]; simp
  refine y_add (l := 1) (m' := l3 T (n + 1) 200) (by decide) hLd1 (fun a ha => ?_) (Nat.le_refl _) (fun a ha => ?_) (fun t2 d2 w2 hLd2 hf => ?_)
  · match a, ha with
    | 0, _ => show T < 9000; omega
    | 1, _ => show n + 1 < 9000; omega
    | 2, _ => show 200 < 9000; decide
  · match a, ha with
    | 0, _ => exact Nat.le_refl _
    | 1, _ => exact Nat.le_succ n
    | 2, _ => exact Nat.le_refl _
  refine sK_i (pc' := 32) rfl ?_
  refine n27_32 ?_
  have hz1 : Fz u (n + 1) T := by
    refine ⟨fun o ho => ?_, fun k hk => ?_⟩
    · have hon : ¬ o = n := by omega
      obtain ⟨a1, a2, a3, a4, a5⟩ := hz.1 o (by omega)
      rw [oI, oI, oZ, oZ, oZ, if_neg hon, if_neg hon, if_neg (fun g => hon g.2), if_neg (fun g => hon g.2), if_neg (fun g => hon g.2)]
      exact ⟨a1, a2, a3, a4, a5⟩
    · rw [oZ, if_neg (fun g => by cases g.1)]; exact hz.2 k hk
  have hL2 : LL t2 T (n + 1) L A B := ⟨⟨d2, w2, LLd_f hLd2 (fun l hl => ?_) (fun l hl => Nat.le_refl _) (fun l i hl hi => ?_)⟩, Fz_lf hf hz1⟩
  rotate_left
  · match l, hl with
    | 0, _ => rfl
    | 1, _ => rfl
    | 2, _ => rfl
  · match l, hl with
    | 0, _ => rfl
    | 1, _ =>
      by_cases e : i = n
      · exact ((if_pos ⟨rfl, e⟩ : (if 1 = 1 ∧ i = n then n else i) = n)).trans e.symm
      · exact (if_neg (fun z => e z.2) : (if 1 = 1 ∧ i = n then n else i) = i)
    | 2, _ => rfl
  have hS2 : Sf t2 (la4 M n m b s p a) (n + 1) T := by
    obtain ⟨f1, f2, f3, f4, f5, f6, f7, f8, f9, f10⟩ := id hf
    refine ⟨Cn_lf hf hCn1, fun k hk => ?_, fun k hk => ?_, LL_0 hL2, LL_1 hL2, ⟨?_, g7, fun k hk => ?_⟩, ?_, ?_⟩
    · rw [f1 512 (by decide) (by decide), f3 513 (by decide), f3 514 (by decide), l4_oM hm, l4_oB hb, oI, oR9, oR9]
      by_cases e : k = n
      · rw [if_pos e, if_pos e, if_pos e]
        refine ⟨?_, ?_, ?_⟩
        · rw [e]; rfl
        · rw [if_neg (fun g => by cases g.1), if_pos ⟨rfl, e⟩]
        · rw [if_pos ⟨rfl, e⟩]
      · rw [if_neg e, if_neg e, if_neg e, if_neg (fun g => e g.2), if_neg (fun g => e g.2), if_neg (fun g => e g.2), if_neg (fun g => e g.2)]
        exact g2 k (by omega)
    · have e1 : tK (la4 M n m b s p a) k = tK M k := by unfold tK; rw [l4_q (Or.inr (by decide))]
      have e2 : tB (la4 M n m b s p a) k = tB M k := by unfold tB; rw [l4_q (Or.inr (by decide))]
      have e3 : tS (la4 M n m b s p a) k = tS M k := by unfold tS; rw [l4_q (Or.inr (by decide))]
      rw [f3 576 (by decide), f3 577 (by decide), f3 578 (by decide), oR9, oR9, oR9, e1, e2, e3]
      rw [if_neg (fun g => by cases g.1), if_neg (fun g => by cases g.1), if_neg (fun g => by cases g.1), if_neg (fun g => by cases g.1), if_neg (fun g => by cases g.1), if_neg (fun g => by cases g.1)]
      exact g3 k hk
    · rw [l4_I, lay_I (by decide)]; exact g6
    · have e1 : tK (la4 M n m b s p a) k = tK M k := by unfold tK; rw [l4_q (Or.inr (by decide))]
      have e2 : tB (la4 M n m b s p a) k = tB M k := by unfold tB; rw [l4_q (Or.inr (by decide))]
      have e3 : tS (la4 M n m b s p a) k = tS M k := by unfold tS; rw [l4_q (Or.inr (by decide))]
      rw [e1, e2, e3, l4_q (Or.inr (by decide)), l4_q (Or.inr (by decide)), l4_q (Or.inr (by decide))]
      exact g8 k hk
    · rw [f9 8 (by decide), hC8, g9]
    · rw [f9 9 (by decide), hCo 9 (by decide)]; exact g10
  exact q t2 ⟨Rl_lf hf hM1, hS2, hRi, rlC_lf hf hC1, hL2, hL9⟩ ((ep_lf hf).trans he1)
end S97
