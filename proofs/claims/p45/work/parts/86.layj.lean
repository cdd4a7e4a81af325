/-! an order is laid: the rules hold with it -/
section S86
variable {t t' t0 : sT} {M M' M0 N : sM} {n T A B b c m o k x y K w f v j e : Nat} {p a h d sz : Int32} {s z : Bool} {L L' l : List Nat} {r r0 : Option Nat} {y0 y1 y2 : sV} {Q : sRs → sT → Prop}
theorem lay_14 : mA (layM M n m b s p a h) 14 n = p := by
  unfold layM
  rw [mA_I, mA_B, aw_q (by decide), mA_B, mA_B, aw_q (by decide), aw_q (by decide), aw_q (by decide), aw_q (by decide), aw_q (by decide), aw_s]
theorem lay_15 : mA (layM M n m b s p a h) 15 n = a := by
  unfold layM
  rw [mA_I, mA_B, aw_q (by decide), mA_B, mA_B, aw_q (by decide), aw_q (by decide), aw_q (by decide), aw_q (by decide), aw_s]
theorem lay_16 : mA (layM M n m b s p a h) 16 n = h := by
  unfold layM
  rw [mA_I, mA_B, aw_q (by decide), mA_B, mA_B, aw_q (by decide), aw_q (by decide), aw_q (by decide), aw_s]
theorem lay_18 : mA (layM M n m b s p a h) 18 n = 0 := by
  unfold layM
  rw [mA_I, mA_B, aw_q (by decide), mA_B, mA_B, aw_q (by decide), aw_s]
theorem lay_19 : mA (layM M n m b s p a h) 19 n = 0 := by
  unfold layM
  rw [mA_I, mA_B, aw_q (by decide), mA_B, mA_B, aw_s]
theorem aw_f {q y : Nat} {v : Int32} (g : ¬ y = q) : mA (mAw M q x v) y = mA M y := funext fun _ => aw_q g
theorem lay_3 : mA (layM M n m b s p a h) 3 = mA M 3 := by
  unfold layM
  rw [mA_I, mA_B, aw_f (by decide), mA_B, mA_B, aw_f (by decide), aw_f (by decide), aw_f (by decide), aw_f (by decide), aw_f (by decide), aw_f (by decide), mA_B, aw_f (by decide), aw_f (by decide)]
theorem mI_aw {q : Nat} {v : Int32} : mI (mAw M q x v) = mI M := rfl
theorem mI_o86 {F y : Nat} {v : Int32} (g : ¬ y = F) : mI (mIw M F v) y = mI M y := if_neg g
theorem lay_I {y : Nat} (g : ¬ y = 786) : mI (layM M n m b s p a h) y = mI M y := by
  unfold layM
  rw [mI_o86 g, mI_B, mI_aw, mI_B, mI_B, mI_aw, mI_aw, mI_aw, mI_aw, mI_aw, mI_aw, mI_B, mI_aw, mI_aw]
theorem lay_J (hJ : Jv M n) (hn : n < 200) (ha : a = io e) (he : e ≤ 100) (hh : h = io f) (hf1 : 1 ≤ f) (hf : f ≤ 100) (hp : -1000 ≤ p.toInt ∧ p.toInt ≤ 1000) : Jv (layM M n m b s p a h) (n + 1) := by
  have hI := hJ.1
  have h0 := Iv_st hI
  have e8 : mI (layM M n m b s p a h) 800 = mI M 800 := lay_I (by decide)
  have es : stN (layM M n m b s p a h) = stN M := by unfold stN; rw [e8]
  refine ⟨⟨fun k hk => ?_, by rw [e8, es]; exact hI.2.1, ?_, fun c hc => by rw [lay_3]; exact hI.2.2.2.1 c hc, fun k hk => ?_, hn⟩, fun u w hu hw h1 h2 eq => ?_⟩
  · rw [es]
    by_cases ek : k = n
    · rw [ek, lay_15, lay_16, lay_19, lay_18]
      exact ⟨e, f, ha, he, hh, hf1, hf, Int.natCast_nonneg _, fun q => absurd q (by decide)⟩
    · rw [lay_o ek, lay_o ek, lay_o ek, lay_o ek, lay_o ek]
      exact hI.1 k (by omega)
  · have h1 : poN (layM M n m b s p a h) (n + 1) = sumN (fun k => lfN (layM M n m b s p a h) k + wtN (mA (layM M n m b s p a h) 19 k)) n + (lfN (layM M n m b s p a h) n + wtN (mA (layM M n m b s p a h) 19 n)) := rfl
    have h2 : sumN (fun k => lfN (layM M n m b s p a h) k + wtN (mA (layM M n m b s p a h) 19 k)) n = poN M n := sumN_cong (fun k hk => by
      have ek : ¬ k = n := by omega
      show lfN (layM M n m b s p a h) k + wtN (mA (layM M n m b s p a h) 19 k) = lfN M k + wtN (mA M 19 k)
      unfold lfN
      rw [lay_o ek, lay_o ek])
    have h3 : lfN (layM M n m b s p a h) n = e := by unfold lfN; rw [lay_15, ha]; exact nn_io (by omega)
    have h4 : wtN (mA (layM M n m b s p a h) 19 n) = 1 := by rw [lay_19]; rfl
    have h5 := hI.2.2.1
    rw [es, h1, h2, h3, h4]
    omega
  · by_cases ek : k = n
    · rw [ek, lay_14]; exact hp
    · rw [lay_o ek]; exact hI.2.2.2.2.1 k (by omega)
  · by_cases e1 : u = n
    · rw [e1, lay_19] at h1; exact absurd h1 (by decide)
    · by_cases e2 : w = n
      · rw [e2, lay_19] at h2; exact absurd h2 (by decide)
      · rw [lay_o e1] at h1 eq
        rw [lay_o e2] at h2 eq
        exact hJ.2 u w (by omega) (by omega) h1 h2 eq
end S86
