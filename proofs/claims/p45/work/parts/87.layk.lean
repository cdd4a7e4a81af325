/-! an order is laid: what holds at the head of a turn -/
section S87
variable {M N : sM} {n T b m k e f : Nat} {p a h : Int32} {s : Bool}
theorem mB_aw {q x : Nat} {v : Int32} : mB (mAw M q x v) = mB M := rfl
theorem mB_iw {F : Nat} {v : Int32} : mB (mIw M F v) = mB M := rfl
theorem bw_s {q x : Nat} {v : Bool} : mB (mBw M q x v) q x = v := if_pos ⟨rfl, rfl⟩
theorem bw_q {q x y : Nat} {v : Bool} (g : ¬ y = q) : mB (mBw M q x v) y k = mB M y k := if_neg (fun z => g z.1)
theorem bw_o {q x y : Nat} {v : Bool} (g : ¬ k = x) : mB (mBw M q x v) y k = mB M y k := if_neg (fun z => g z.2)
theorem lay_B4 : mB (layM M n m b s p a h) 4 n = false := by
  unfold layM
  rw [mB_iw, bw_q (by decide), mB_aw, bw_q (by decide), bw_s]
theorem lay_Bo {q : Nat} (hk : ¬ k = n) : mB (layM M n m b s p a h) q k = mB M q k := by
  unfold layM
  rw [mB_iw, bw_o hk, mB_aw, bw_o hk, bw_o hk, mB_aw, mB_aw, mB_aw, mB_aw, mB_aw, mB_aw, bw_o hk, mB_aw, mB_aw]
theorem lay_K (hK : Kv M n) (hn : n < 200) (hm : m < 6) (hb : b < 5) (ha : a = io e) (he1 : 1 ≤ e) (he : e ≤ 100) (hh : h = io f) (hf1 : 1 ≤ f) (hf : f ≤ 100) (hp : -1000 ≤ p.toInt ∧ p.toInt ≤ 1000) : Kv (layM M n m b s p a h) (n + 1) := by
  obtain ⟨hJ, hR, hQ, hW, T, hT, hT4⟩ := hK
  refine ⟨lay_J hJ hn ha he hh hf1 hf hp, lay_Ri hR hm hb hn, fun k hk h4 h0 => ?_, fun k hk h0 => ?_, T, ?_, hT4⟩
  · by_cases ek : k = n
    · rw [ek, lay_B4] at h4; cases h4
    · rw [lay_Bo ek] at h4
      rw [lay_o ek] at h0
      exact hQ k (by omega) h4 h0
  · by_cases ek : k = n
    · have h3 : lfN (layM M n m b s p a h) n = e := by unfold lfN; rw [lay_15, ha]; exact nn_io (by omega)
      rw [ek, h3]; exact he1
    · rw [lay_o ek] at h0
      have g := hW k (by omega) h0
      unfold lfN at g ⊢
      rw [lay_o ek]; exact g
  · rw [lay_I (by decide)]; exact hT
end S87
