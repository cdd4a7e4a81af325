/-! states that differ where nothing is looked at -/
section S99
variable {t t' t0 u : sT} {M M' M0 N : sM} {n T A B b c m o k x y w v j F e f : Nat} {p a h d sz : Int32} {s z : Bool} {L L' l : List Nat} {r r0 : Option Nat} {y0 y1 y2 : sV} {Q : sRs → sT → Prop}
theorem sM_ext (h1 : ∀ q k, mA M q k = mA M' q k) (h2 : ∀ q k, mB M q k = mB M' q k) (h3 : ∀ F, mI M F = mI M' F) : M = M' :=
  Prod.ext (funext fun q => funext fun k => h1 q k) (Prod.ext (funext fun q => funext fun k => h2 q k) (funext h3))
/-- two states that agree but for orders from n on -/
def Ag (M M' : sM) (n : Nat) : Prop := (∀ q k, (q < 12 ∨ 20 < q ∨ k < n) → mA M' q k = mA M q k) ∧ (∀ q k, (q < 3 ∨ 6 < q ∨ k < n) → mB M' q k = mB M q k) ∧ ∀ F, mI M' F = mI M F
theorem W_ag (hW : Wc t M n T L A B) (h : Ag M M' n) : Wc t M' n T L A B := by
  obtain ⟨hM, ⟨g1, g2, g3, g4, g5, ⟨g6, g7, g8⟩, g9, g10⟩, hR, hC, hL, hL9⟩ := hW
  obtain ⟨h1, h2, h3⟩ := h
  have eM : ∀ k, k < n → oM M' k = oM M k := fun k hk => by unfold oM; rw [h1 12 k (Or.inr (Or.inr hk))]
  have eB : ∀ k, k < n → oB M' k = oB M k := fun k hk => by unfold oB; rw [h1 13 k (Or.inr (Or.inr hk))]
  have eK : tK M' = tK M := funext fun k => by unfold tK; rw [h1 21 k (Or.inr (Or.inl (by decide)))]
  have eT : tB M' = tB M := funext fun k => by unfold tB; rw [h1 22 k (Or.inr (Or.inl (by decide)))]
  have eS : tS M' = tS M := funext fun k => by unfold tS; rw [h1 23 k (Or.inr (Or.inl (by decide)))]
  have hr : ∀ b s x, rst M n b s x ↔ rst M' n b s x := fun b s x => by
    unfold rst
    by_cases hx : x < n
    · rw [h1 19 x (Or.inr (Or.inr hx)), eB x hx, h2 3 x (Or.inr (Or.inr hx))]
    · exact ⟨fun g => absurd g.1 hx, fun g => absurd g.1 hx⟩
  refine ⟨⟨fun q hq o ho => ?_, fun q hq o ho => ?_, fun q hq => ?_, ⟨fun m c hm hc => ?_, fun k hk => ?_⟩, fun o ho => ?_⟩, ⟨g1, fun k hk => ?_, ?_, g4, g5, ⟨?_, g7, fun k hk => ?_⟩, g9, g10⟩, ⟨?_, hR.2.1, fun k hk => ?_, fun k hk => ?_⟩, Cq_mono14 hC (fun _ _ => rfl) (fun b s x hx => h1 14 x (Or.inr (Or.inr hx.1))) (fun b s x hx => h1 18 x (Or.inr (Or.inr hx.1))) (fun b s x _ => hr b s x), hL, hL9⟩
  · rw [h1 q.2 o ?_]; exact hM.1 q hq o ho
    by_cases e8 : q.1 / 64 = 8
    · have eb2 : bd n T q.1 = n := by unfold bd; rw [e8]; rfl
      rw [eb2] at ho
      exact Or.inr (Or.inr ho)
    · have := (by decide : ∀ q ∈ sPI, ¬ q.1 / 64 = 8 → (q.2 < 12 ∨ 20 < q.2)) q hq e8
      omega
  · rw [h2 q.2 o ?_]; exact hM.2.1 q hq o ho
    by_cases e8 : q.1 / 64 = 8
    · have eb2 : bd n T q.1 = n := by unfold bd; rw [e8]; rfl
      rw [eb2] at ho
      exact Or.inr (Or.inr ho)
    · have := (by decide : ∀ q ∈ sPZ, ¬ q.1 / 64 = 8 → (q.2 < 3 ∨ 6 < q.2)) q hq e8
      omega
  · rw [h3]; exact hM.2.2.1 q hq
  · rw [h1 6 _ (Or.inl (by decide))]; exact hM.2.2.2.1.1 m c hm hc
  · rw [h1 11 _ (Or.inl (by decide))]; exact hM.2.2.2.1.2 k hk
  · rw [h1 17 o (Or.inr (Or.inr ho)), h1 19 o (Or.inr (Or.inr ho))]; exact hM.2.2.2.2 o ho
  · rw [eM k hk, eB k hk]; exact g2 k hk
  · rw [eK, eT, eS]; exact g3
  · rw [h3]; exact g6
  · rw [eK, eT, eS, h1 21 k (Or.inr (Or.inl (by decide))), h1 22 k (Or.inr (Or.inl (by decide))), h1 23 k (Or.inr (Or.inl (by decide)))]; exact g8 k hk
  · rw [h3]; exact hR.1
  · rw [eM k hk, h1 12 k (Or.inr (Or.inr hk))]; exact hR.2.2.1 k hk
  · rw [eB k hk, h1 13 k (Or.inr (Or.inr hk))]; exact hR.2.2.2 k hk
/-- what holds at the head of a turn looks at little -/
theorem Kv_cg (h1 : ∀ q k, (q = 3 ∨ (12 ≤ q ∧ q ≤ 19 ∧ k < n)) → mA M' q k = mA M q k) (h2 : ∀ k, k < n → mB M' 4 k = mB M 4 k) (h3 : mI M' 786 = mI M 786) (h4 : mI M' 800 = mI M 800) (h5 : mI M' 801 = mI M 801) (hK : Kv M n) : Kv M' n := by
  obtain ⟨⟨⟨i1, i2, i3, i4, i5, i6⟩, hSd⟩, hR, hQ, hl, T, hT, hT4⟩ := hK
  have g : ∀ q k, 12 ≤ q → q ≤ 19 → k < n → mA M' q k = mA M q k := fun q k a b c => h1 q k (Or.inr ⟨a, b, c⟩)
  have eM : ∀ k, k < n → oM M' k = oM M k := fun k hk => by unfold oM; rw [g 12 k (by decide) (by decide) hk]
  have eB : ∀ k, k < n → oB M' k = oB M k := fun k hk => by unfold oB; rw [g 13 k (by decide) (by decide) hk]
  have es : stN M' = stN M := by unfold stN; rw [h4]
  have el : ∀ k, k < n → lfN M' k = lfN M k := fun k hk => by unfold lfN; rw [g 15 k (by decide) (by decide) hk]
  refine ⟨⟨⟨fun k hk => ?_, ?_, ?_, fun c hc => ?_, fun k hk => ?_, i6⟩, fun x y hx hy a b e => ?_⟩, ⟨by rw [h3]; exact hR.1, hR.2.1, fun k hk => ?_, fun k hk => ?_⟩, fun k hk a b => ?_, fun k hk a => ?_, T, by rw [h5]; exact hT, hT4⟩
  · rw [es, g 15 k (by decide) (by decide) hk, g 16 k (by decide) (by decide) hk, g 17 k (by decide) (by decide) hk, g 18 k (by decide) (by decide) hk, g 19 k (by decide) (by decide) hk]; exact i1 k hk
  · rw [es, h4]; exact i2
  · rw [es]
    have e1 : poN M' n = poN M n := sumN_cong (fun k hk => by
      show lfN M' k + wtN (mA M' 19 k) = lfN M k + wtN (mA M 19 k)
      rw [el k hk, g 19 k (by decide) (by decide) hk])
    rw [e1]; exact i3
  · rw [h1 3 c (Or.inl rfl)]; exact i4 c hc
  · rw [g 14 k (by decide) (by decide) hk]; exact i5 k hk
  · rw [g 19 x (by decide) (by decide) hx] at a
    rw [g 19 y (by decide) (by decide) hy] at b
    rw [g 18 x (by decide) (by decide) hx, g 18 y (by decide) (by decide) hy] at e
    exact hSd x y hx hy a b e
  · rw [eM k hk, g 12 k (by decide) (by decide) hk]; exact hR.2.2.1 k hk
  · rw [eB k hk, g 13 k (by decide) (by decide) hk]; exact hR.2.2.2 k hk
  · rw [h2 k hk] at a
    rw [g 19 k (by decide) (by decide) hk] at b
    exact hQ k hk a b
  · rw [g 19 k (by decide) (by decide) hk] at a
    rw [el k hk]; exact hl k hk a
theorem Ag.K (h : Ag M M' n) (hK : Kv M n) : Kv M' n :=
  Kv_cg (fun q k hq => h.1 q k (by omega)) (fun k hk => h.2.1 4 k (by omega)) (h.2.2 _) (h.2.2 _) (h.2.2 _) hK
/-- an order laid, and taken back -/
def unl (M : sM) (n m b : Nat) (s : Bool) (p a h : Int32) : sM := mIw (layM M n m b s p a h) 786 (io n)
theorem aw_iw {X : sM} {q F : Nat} {v w : Int32} : mAw (mIw X F v) q x w = mIw (mAw X q x w) F v := rfl
theorem aw_bw {X : sM} {q q' y : Nat} {v : Bool} {w : Int32} : mAw (mBw X q' y v) q x w = mBw (mAw X q x w) q' y v := rfl
theorem Ag_of {X : sM} (fA : ∀ q k, (q < 12 ∨ 20 < q ∨ k < n) → mA X q k = mA M q k) (fB : ∀ q k, (q < 3 ∨ 6 < q ∨ k < n) → mB X q k = mB M q k) (fI : ∀ F, ¬ F = 786 → mI X F = mI M F) (hR : Ri M n) : Ag M (mIw X 786 (io n)) n := by
  refine ⟨fA, fB, fun F => ?_⟩
  show (if F = 786 then io n else mI X F) = mI M F
  by_cases e : F = 786
  · rw [if_pos e, e]; exact hR.1.symm
  · rw [if_neg e]; exact fI F e
theorem lay_fA (q k : Nat) (hq : q < 12 ∨ 20 < q ∨ k < n) : mA (layM M n m b s p a h) q k = mA M q k := by
  by_cases e : k = n
  · exact lay_q (by omega)
  · exact lay_o e
theorem lay_fB (q k : Nat) (hq : q < 3 ∨ 6 < q ∨ k < n) : mB (layM M n m b s p a h) q k = mB M q k := by
  by_cases e : k = n
  · exact lay_Bq (by omega)
  · exact lay_Bo e
theorem unl_e : unl M n m b s p a h = mIw (layM M n m b s p a h) 786 (io n) := by unfold unl; rfl
theorem unl_ag (hR : Ri M n) : Ag M (unl M n m b s p a h) n := by
  rw [unl_e]
  exact Ag_of lay_fA lay_fB (fun F e => lay_I e) hR
/-- who comes waiting or coming is the same -/
theorem com_4 : comF (mAw M 19 o 4) n o = comF M n o := by
  have e : mAw (mAw M 19 o 4) 19 o 4 = mAw M 19 o 4 := mAw_over
  unfold comF mtR
  rw [e]
  rfl
theorem lay_h : layM M n m b s p a h = mAw (layM M n m b s p a a) 16 n h := by
  unfold layM
  rw [aw_iw (q := 16), aw_bw (q := 16), mAw_comm (A := 20) (B := 16) (by decide), aw_bw (q := 16), aw_bw (q := 16), mAw_comm (A := 19) (B := 16) (by decide), mAw_comm (A := 18) (B := 16) (by decide), mAw_comm (A := 17) (B := 16) (by decide), mAw_over]
theorem nq_cn : cnqF M = nqF M := rfl
theorem nq_A {q : Nat} (hq : ¬ q = 26) : mA (nqF M) q = mA M q := by
  unfold nqF
  rw [aw_f hq, aw_f hq, aw_f hq, aw_f hq, aw_f hq, aw_f hq]
theorem nq_B : mB (nqF M) = mB M := rfl
theorem nq_I : mI (nqF M) = mI M := rfl
theorem nq_aw {q : Nat} {v : Int32} (hq : ¬ q = 26) : nqF (mAw M q x v) = mAw (nqF M) q x v := by
  have e : Nat.beq q 26 = false := by
    cases h : Nat.beq q 26 with
    | false => rfl
    | true => exact absurd (Nat.eq_of_beq_eq_true h) hq
  unfold nqF
  rw [mAw_comm e, mAw_comm e, mAw_comm e, mAw_comm e, mAw_comm e, mAw_comm e]
theorem bw_id {q : Nat} {z : Bool} (h : mB M q x = z) : mBw M q x z = M := by
  refine sM_ext (fun _ _ => rfl) (fun q' k => ?_) (fun _ => rfl)
  show (if q' = q ∧ k = x then z else mB M q' k) = mB M q' k
  by_cases e : q' = q ∧ k = x
  · rw [if_pos e, e.1, e.2, h]
  · rw [if_neg e]
end S99
