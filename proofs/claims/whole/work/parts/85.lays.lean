/-! an order is laid: the reference (printed by lay85.py) -/
set_option maxHeartbeats 4000000 in
set_option maxRecDepth 10000 in
theorem r200_0 {t : sT} {Q : sRs → sT → Prop} {M : sM} {n : Nat} {m : Nat} {b : Nat} {s : Bool} {p : Int32} {a : Int32} {h : Int32}
    (hM : rp t = M)
    (hc : Cn t)
    (hR : Ri M n)
    (hm : m < 6)
    (hb : b < 5)
    (hn : n < 200)
    (k0 : X 200 30 [.inr (.inr (12, (some 0))), .inl (io m), .inl (io b), .inl (bz s), .inl p, .inl a, .inl h] [] (sBw (sAw (sAw t 21 12 n (io m)) 21 13 n (io b)) 22 3 n s) Q) :
    X 200 0 [.inr (.inr (12, (some 0))), .inl (io m), .inl (io b), .inl (bz s), .inl p, .inl a, .inl h] [] t Q := by
  refine x_aload_n (pc' := 1) rfl rfl rfl rfl rfl ?_
  refine x_gR (pc' := 4) (r := (some 12)) rfl rfl rfl (kR_787_0 hc) ?_
  refine x_aload_n (pc' := 5) rfl rfl rfl rfl rfl ?_
  refine x_gI (pc' := 8) (x := (io n)) rfl rfl rfl (gFn hM (Fr.refl _) hR) ?_
  refine x_iload_n (pc' := 9) rfl rfl rfl ?_
  refine x_iast (pc' := 10) (N := 200) (p := n) rfl rfl rfl (kN_21_12 hc) (io_in (p := n) (N := 200) hn (by decide)) (nn_io (p := n) (Nat.lt_trans hn (by decide))) ?_
  refine x_aload_n (pc' := 11) rfl rfl rfl rfl rfl ?_
  refine x_gR (pc' := 14) (r := (some 13)) rfl rfl rfl (Eq.trans (b := sR t 788 0) rfl (kR_788_0 hc)) ?_
  refine x_aload_n (pc' := 15) rfl rfl rfl rfl rfl ?_
  refine x_gI (pc' := 18) (x := (io n)) rfl rfl rfl (Eq.trans (b := sI t 786 0) rfl (gFn hM (Fr.refl _) hR)) ?_
  refine x_iload_n (pc' := 19) rfl rfl rfl ?_
  refine x_iast (pc' := 20) (N := 200) (p := n) rfl rfl rfl (Eq.trans rdNA (kN_21_13 hc)) (io_in (p := n) (N := 200) hn (by decide)) (nn_io (p := n) (Nat.lt_trans hn (by decide))) ?_
  refine x_aload_n (pc' := 21) rfl rfl rfl rfl rfl ?_
  refine x_gR (pc' := 24) (r := (some 3)) rfl rfl rfl (Eq.trans (b := sR t 789 0) rfl (kR_789_0 hc)) ?_
  refine x_aload_n (pc' := 25) rfl rfl rfl rfl rfl ?_
  refine x_gI (pc' := 28) (x := (io n)) rfl rfl rfl (Eq.trans (b := sI t 786 0) rfl (gFn hM (Fr.refl _) hR)) ?_
  refine x_iload_n (pc' := 29) rfl rfl rfl ?_
  refine x_bast (pc' := 30) (N := 200) (p := n) (z := s) rfl rfl (Eq.trans rdNA (Eq.trans rdNA (kN_22_3 hc))) (io_in (p := n) (N := 200) hn (by decide)) (nn_io (p := n) (Nat.lt_trans hn (by decide))) rfl ?_
  exact k0
set_option maxHeartbeats 4000000 in
set_option maxRecDepth 10000 in
theorem r200_30 {t : sT} {Q : sRs → sT → Prop} {M : sM} {n : Nat} {m : Nat} {b : Nat} {s : Bool} {p : Int32} {a : Int32} {h : Int32}
    (hM : rp t = M)
    (hc : Cn t)
    (hR : Ri M n)
    (hm : m < 6)
    (hb : b < 5)
    (hn : n < 200)
    (k0 : X 200 63 [.inr (.inr (12, (some 0))), .inl (io m), .inl (io b), .inl (bz s), .inl p, .inl a, .inl h] [] (sAw (sAw (sAw t 21 14 n p) 21 15 n a) 21 16 n h) Q) :
    X 200 30 [.inr (.inr (12, (some 0))), .inl (io m), .inl (io b), .inl (bz s), .inl p, .inl a, .inl h] [] t Q := by
  refine x_aload_n (pc' := 31) rfl rfl rfl rfl rfl ?_
  refine x_gR (pc' := 34) (r := (some 14)) rfl rfl rfl (kR_790_0 hc) ?_
  refine x_aload_n (pc' := 35) rfl rfl rfl rfl rfl ?_
  refine x_gI (pc' := 38) (x := (io n)) rfl rfl rfl (gFn hM (Fr.refl _) hR) ?_
  refine x_iload (pc' := 40) rfl rfl rfl ?_
  refine x_iast (pc' := 41) (N := 200) (p := n) rfl rfl rfl (kN_21_14 hc) (io_in (p := n) (N := 200) hn (by decide)) (nn_io (p := n) (Nat.lt_trans hn (by decide))) ?_
  refine x_aload_n (pc' := 42) rfl rfl rfl rfl rfl ?_
  refine x_gR (pc' := 45) (r := (some 15)) rfl rfl rfl (Eq.trans (b := sR t 791 0) rfl (kR_791_0 hc)) ?_
  refine x_aload_n (pc' := 46) rfl rfl rfl rfl rfl ?_
  refine x_gI (pc' := 49) (x := (io n)) rfl rfl rfl (Eq.trans (b := sI t 786 0) rfl (gFn hM (Fr.refl _) hR)) ?_
  refine x_iload (pc' := 51) rfl rfl rfl ?_
  refine x_iast (pc' := 52) (N := 200) (p := n) rfl rfl rfl (Eq.trans rdNA (kN_21_15 hc)) (io_in (p := n) (N := 200) hn (by decide)) (nn_io (p := n) (Nat.lt_trans hn (by decide))) ?_
  refine x_aload_n (pc' := 53) rfl rfl rfl rfl rfl ?_
  refine x_gR (pc' := 56) (r := (some 16)) rfl rfl rfl (Eq.trans (b := sR t 792 0) rfl (kR_792_0 hc)) ?_
  refine x_aload_n (pc' := 57) rfl rfl rfl rfl rfl ?_
  refine x_gI (pc' := 60) (x := (io n)) rfl rfl rfl (Eq.trans (b := sI t 786 0) rfl (gFn hM (Fr.refl _) hR)) ?_
  refine x_iload (pc' := 62) rfl rfl rfl ?_
  refine x_iast (pc' := 63) (N := 200) (p := n) rfl rfl rfl (Eq.trans rdNA (Eq.trans rdNA (kN_21_16 hc))) (io_in (p := n) (N := 200) hn (by decide)) (nn_io (p := n) (Nat.lt_trans hn (by decide))) ?_
  exact k0
set_option maxHeartbeats 4000000 in
set_option maxRecDepth 10000 in
theorem r200_63 {t : sT} {Q : sRs → sT → Prop} {M : sM} {n : Nat} {m : Nat} {b : Nat} {s : Bool} {p : Int32} {a : Int32} {h : Int32}
    (hM : rp t = M)
    (hc : Cn t)
    (hR : Ri M n)
    (hm : m < 6)
    (hb : b < 5)
    (hn : n < 200)
    (k0 : X 200 93 [.inr (.inr (12, (some 0))), .inl (io m), .inl (io b), .inl (bz s), .inl p, .inl a, .inl h] [] (sAw (sAw (sAw t 21 17 n 0) 21 18 n 0) 21 19 n 0) Q) :
    X 200 63 [.inr (.inr (12, (some 0))), .inl (io m), .inl (io b), .inl (bz s), .inl p, .inl a, .inl h] [] t Q := by
  refine x_aload_n (pc' := 64) rfl rfl rfl rfl rfl ?_
  refine x_gR (pc' := 67) (r := (some 17)) rfl rfl rfl (kR_793_0 hc) ?_
  refine x_aload_n (pc' := 68) rfl rfl rfl rfl rfl ?_
  refine x_gI (pc' := 71) (x := (io n)) rfl rfl rfl (gFn hM (Fr.refl _) hR) ?_
  refine x_iconst (pc' := 72) rfl rfl ?_
  refine x_iast (pc' := 73) (N := 200) (p := n) rfl rfl rfl (kN_21_17 hc) (io_in (p := n) (N := 200) hn (by decide)) (nn_io (p := n) (Nat.lt_trans hn (by decide))) ?_
  refine x_aload_n (pc' := 74) rfl rfl rfl rfl rfl ?_
  refine x_gR (pc' := 77) (r := (some 18)) rfl rfl rfl (Eq.trans (b := sR t 794 0) rfl (kR_794_0 hc)) ?_
  refine x_aload_n (pc' := 78) rfl rfl rfl rfl rfl ?_
  refine x_gI (pc' := 81) (x := (io n)) rfl rfl rfl (Eq.trans (b := sI t 786 0) rfl (gFn hM (Fr.refl _) hR)) ?_
  refine x_iconst (pc' := 82) rfl rfl ?_
  refine x_iast (pc' := 83) (N := 200) (p := n) rfl rfl rfl (Eq.trans rdNA (kN_21_18 hc)) (io_in (p := n) (N := 200) hn (by decide)) (nn_io (p := n) (Nat.lt_trans hn (by decide))) ?_
  refine x_aload_n (pc' := 84) rfl rfl rfl rfl rfl ?_
  refine x_gR (pc' := 87) (r := (some 19)) rfl rfl rfl (Eq.trans (b := sR t 795 0) rfl (kR_795_0 hc)) ?_
  refine x_aload_n (pc' := 88) rfl rfl rfl rfl rfl ?_
  refine x_gI (pc' := 91) (x := (io n)) rfl rfl rfl (Eq.trans (b := sI t 786 0) rfl (gFn hM (Fr.refl _) hR)) ?_
  refine x_iconst (pc' := 92) rfl rfl ?_
  refine x_iast (pc' := 93) (N := 200) (p := n) rfl rfl rfl (Eq.trans rdNA (Eq.trans rdNA (kN_21_19 hc))) (io_in (p := n) (N := 200) hn (by decide)) (nn_io (p := n) (Nat.lt_trans hn (by decide))) ?_
  exact k0
set_option maxHeartbeats 4000000 in
set_option maxRecDepth 10000 in
theorem r200_93 {t : sT} {Q : sRs → sT → Prop} {M : sM} {n : Nat} {m : Nat} {b : Nat} {s : Bool} {p : Int32} {a : Int32} {h : Int32}
    (hM : rp t = M)
    (hc : Cn t)
    (hR : Ri M n)
    (hm : m < 6)
    (hb : b < 5)
    (hn : n < 200)
    (k0 : X 200 123 [.inr (.inr (12, (some 0))), .inl (io m), .inl (io b), .inl (bz s), .inl p, .inl a, .inl h] [] (sAw (sBw (sBw t 22 4 n false) 22 5 n false) 21 20 n 0) Q) :
    X 200 93 [.inr (.inr (12, (some 0))), .inl (io m), .inl (io b), .inl (bz s), .inl p, .inl a, .inl h] [] t Q := by
  refine x_aload_n (pc' := 94) rfl rfl rfl rfl rfl ?_
  refine x_gR (pc' := 97) (r := (some 4)) rfl rfl rfl (kR_796_0 hc) ?_
  refine x_aload_n (pc' := 98) rfl rfl rfl rfl rfl ?_
  refine x_gI (pc' := 101) (x := (io n)) rfl rfl rfl (gFn hM (Fr.refl _) hR) ?_
  refine x_iconst (pc' := 102) rfl rfl ?_
  refine x_bast (pc' := 103) (N := 200) (p := n) (z := false) rfl rfl (kN_22_4 hc) (io_in (p := n) (N := 200) hn (by decide)) (nn_io (p := n) (Nat.lt_trans hn (by decide))) rfl ?_
  refine x_aload_n (pc' := 104) rfl rfl rfl rfl rfl ?_
  refine x_gR (pc' := 107) (r := (some 5)) rfl rfl rfl (Eq.trans (b := sR t 797 0) rfl (kR_797_0 hc)) ?_
  refine x_aload_n (pc' := 108) rfl rfl rfl rfl rfl ?_
  refine x_gI (pc' := 111) (x := (io n)) rfl rfl rfl (Eq.trans (b := sI t 786 0) rfl (gFn hM (Fr.refl _) hR)) ?_
  refine x_iconst (pc' := 112) rfl rfl ?_
  refine x_bast (pc' := 113) (N := 200) (p := n) (z := false) rfl rfl (Eq.trans rdNB (kN_22_5 hc)) (io_in (p := n) (N := 200) hn (by decide)) (nn_io (p := n) (Nat.lt_trans hn (by decide))) rfl ?_
  refine x_aload_n (pc' := 114) rfl rfl rfl rfl rfl ?_
  refine x_gR (pc' := 117) (r := (some 20)) rfl rfl rfl (Eq.trans (b := sR t 798 0) rfl (kR_798_0 hc)) ?_
  refine x_aload_n (pc' := 118) rfl rfl rfl rfl rfl ?_
  refine x_gI (pc' := 121) (x := (io n)) rfl rfl rfl (Eq.trans (b := sI t 786 0) rfl (gFn hM (Fr.refl _) hR)) ?_
  refine x_iconst (pc' := 122) rfl rfl ?_
  refine x_iast (pc' := 123) (N := 200) (p := n) rfl rfl rfl (Eq.trans rdNB (Eq.trans rdNB (kN_21_20 hc))) (io_in (p := n) (N := 200) hn (by decide)) (nn_io (p := n) (Nat.lt_trans hn (by decide))) ?_
  exact k0
set_option maxHeartbeats 4000000 in
set_option maxRecDepth 10000 in
theorem r200_123 {t : sT} {Q : sRs → sT → Prop} {M : sM} {n : Nat} {m : Nat} {b : Nat} {s : Bool} {p : Int32} {a : Int32} {h : Int32}
    (hM : rp t = M)
    (hc : Cn t)
    (hR : Ri M n)
    (hm : m < 6)
    (hb : b < 5)
    (hn : n < 200)
    (k0 : Q (.inl (some (.inl ((io (n + 1)) - 1)))) (sIw (sBw t 22 6 n false) 786 0 (io (n + 1)))) :
    X 200 123 [.inr (.inr (12, (some 0))), .inl (io m), .inl (io b), .inl (bz s), .inl p, .inl a, .inl h] [] t Q := by
  refine x_aload_n (pc' := 124) rfl rfl rfl rfl rfl ?_
  refine x_gR (pc' := 127) (r := (some 6)) rfl rfl rfl (kR_799_0 hc) ?_
  refine x_aload_n (pc' := 128) rfl rfl rfl rfl rfl ?_
  refine x_gI (pc' := 131) (x := (io n)) rfl rfl rfl (gFn hM (Fr.refl _) hR) ?_
  refine x_iconst (pc' := 132) rfl rfl ?_
  refine x_bast (pc' := 133) (N := 200) (p := n) (z := false) rfl rfl (kN_22_6 hc) (io_in (p := n) (N := 200) hn (by decide)) (nn_io (p := n) (Nat.lt_trans hn (by decide))) rfl ?_
  refine x_aload_n (pc' := 134) rfl rfl rfl rfl rfl ?_
  refine x_dup (pc' := 135) rfl rfl rfl ?_
  refine x_gI (pc' := 138) (x := (io n)) rfl rfl rfl (Eq.trans (b := sI t 786 0) rfl (gFn hM (Fr.refl _) hR)) ?_
  refine x_iconst (pc' := 139) rfl rfl ?_
  refine x_iadd (pc' := 140) (z := (io (n + 1))) rfl rfl (io_add n 1) ?_
  refine x_pI (pc' := 143) rfl rfl rfl ?_
  refine x_aload_n (pc' := 144) rfl rfl rfl rfl rfl ?_
  refine x_gI (pc' := 147) (x := (io (n + 1))) rfl rfl rfl sI_s ?_
  refine x_iconst (pc' := 148) rfl rfl ?_
  refine x_isub (pc' := 149) (z := ((io (n + 1)) - 1)) rfl rfl rfl ?_
  refine x_reti rfl rfl ?_
  exact k0
section S85
variable {t t' t0 : sT} {M M' M0 N : sM} {n T A B b c m o k x y K w f v j : Nat} {p a h d sz : Int32} {s z : Bool} {L L' l : List Nat} {r r0 : Option Nat} {y0 y1 y2 : sV} {Q : sRs → sT → Prop}
/-- the state when an order has been laid -/
def layM (M : sM) (n m b : Nat) (s : Bool) (p a h : Int32) : sM := mIw (mBw (mAw (mBw (mBw (mAw (mAw (mAw (mAw (mAw (mAw (mBw (mAw (mAw M 12 n (io m)) 13 n (io b)) 3 n s) 14 n p) 15 n a) 16 n h) 17 n 0) 18 n 0) 19 n 0) 4 n false) 5 n false) 20 n 0) 6 n false) 786 (io (n + 1))
theorem mA_B {q : Nat} {v : Bool} : mA (mBw M q x v) = mA M := rfl
theorem mA_I {F : Nat} {v : Int32} : mA (mIw M F v) = mA M := rfl
theorem mI_B {q : Nat} {v : Bool} : mI (mBw M q x v) = mI M := rfl
theorem mI_s85 {F : Nat} {v : Int32} : mI (mIw M F v) F = v := if_pos rfl
theorem aw_s {q : Nat} {v : Int32} : mA (mAw M q x v) q x = v := if_pos ⟨rfl, rfl⟩
theorem aw_q {q y : Nat} {v : Int32} (h : ¬ y = q) : mA (mAw M q x v) y k = mA M y k := if_neg (fun z => h z.1)
theorem lay_o {q : Nat} (hk : ¬ k = n) : mA (layM M n m b s p a h) q k = mA M q k := by
  unfold layM
  rw [mA_I, mA_B, aw_o hk, mA_B, mA_B, aw_o hk, aw_o hk, aw_o hk, aw_o hk, aw_o hk, aw_o hk, mA_B, aw_o hk, aw_o hk]
theorem lay_12 : mA (layM M n m b s p a h) 12 n = io m := by
  unfold layM
  rw [mA_I, mA_B, aw_q (by decide), mA_B, mA_B, aw_q (by decide), aw_q (by decide), aw_q (by decide), aw_q (by decide), aw_q (by decide), aw_q (by decide), mA_B, aw_q (by decide), aw_s]
theorem lay_13 : mA (layM M n m b s p a h) 13 n = io b := by
  unfold layM
  rw [mA_I, mA_B, aw_q (by decide), mA_B, mA_B, aw_q (by decide), aw_q (by decide), aw_q (by decide), aw_q (by decide), aw_q (by decide), aw_q (by decide), mA_B, aw_s]
theorem lay_786 : mI (layM M n m b s p a h) 786 = io (n + 1) := by
  unfold layM
  rw [mI_s85]
theorem lay_Ri (hR : Ri M n) (hm : m < 6) (hb : b < 5) (hn : n < 200) : Ri (layM M n m b s p a h) (n + 1) := by
  have e12 : oM (layM M n m b s p a h) n = m := by unfold oM; rw [lay_12]; exact nn_io (by omega)
  have e13 : oB (layM M n m b s p a h) n = b := by unfold oB; rw [lay_13]; exact nn_io (by omega)
  refine ⟨lay_786, hn, fun k hk => ?_, fun k hk => ?_⟩
  · by_cases e : k = n
    · rw [e, e12, lay_12]; exact ⟨rfl, hm⟩
    · have e1 : oM (layM M n m b s p a h) k = oM M k := by unfold oM; rw [lay_o e]
      rw [e1, lay_o e]; exact hR.2.2.1 k (by omega)
  · by_cases e : k = n
    · rw [e, e13, lay_13]; exact ⟨rfl, hb⟩
    · have e1 : oB (layM M n m b s p a h) k = oB M k := by unfold oB; rw [lay_o e]
      rw [e1, lay_o e]; exact hR.2.2.2 k (by omega)
theorem Ri_aw {q : Nat} {v : Int32} (hR : Ri M n) : Ri (mAw M q n v) n := by
  have e : ∀ r k, k < n → mA (mAw M q n v) r k = mA M r k := fun r k hk => aw_o (by omega)
  refine ⟨hR.1, hR.2.1, fun k hk => ?_, fun k hk => ?_⟩
  · unfold oM; rw [e 12 k hk]; exact hR.2.2.1 k hk
  · unfold oB; rw [e 13 k hk]; exact hR.2.2.2 k hk
theorem Ri_bw {q : Nat} {v : Bool} (hR : Ri M n) : Ri (mBw M q x v) n := hR
theorem v200 (hV : Vr t M n) (hm : m < 6) (hb : b < 5) (hn : n < 200) (q : ∀ t', Vr t' (layM M n m b s p a h) (n + 1) → cp t' = cp t → Q (.inl (some (.inl (io n)))) t') :
    X 200 0 [.inr (.inr (12, (some 0))), .inl (io m), .inl (io b), .inl (bz s), .inl p, .inl a, .inl h] [] t Q := by
  refine r200_0 hV.1 hV.2.1 hV.2.2 hm hb hn ?_
  obtain ⟨t1, ht1⟩ : ∃ t1, t1 = (sBw (sAw (sAw t 21 12 n (io m)) 21 13 n (io b)) 22 3 n s) := ⟨_, rfl⟩
  have c1 : cp t1 = cp t := by rw [ht1, cp_B, cp_A, cp_A]
  have r1 : rp t1 = (mBw (mAw (mAw M 12 n (io m)) 13 n (io b)) 3 n s) := by rw [ht1, rp_B, rp_A rfl, rp_A rfl, hV.1]
  rw [← ht1]
  clear ht1
  have R1 := Ri_bw (q := 3) (x := n) (v := s) (Ri_aw (q := 13) (v := io b) (Ri_aw (q := 12) (v := io m) hV.2.2))
  have C1 := Cn_cp c1 hV.2.1
  generalize hM1 : (mBw (mAw (mAw M 12 n (io m)) 13 n (io b)) 3 n s) = M1 at r1 R1
  refine r200_30 r1 C1 R1 hm hb hn ?_
  obtain ⟨t2, ht2⟩ : ∃ t2, t2 = (sAw (sAw (sAw t1 21 14 n p) 21 15 n a) 21 16 n h) := ⟨_, rfl⟩
  have c2 : cp t2 = cp t1 := by rw [ht2, cp_A, cp_A, cp_A]
  have r2 : rp t2 = (mAw (mAw (mAw M1 14 n p) 15 n a) 16 n h) := by rw [ht2, rp_A rfl, rp_A rfl, rp_A rfl, r1]
  rw [← ht2]
  clear ht2
  have R2 := Ri_aw (q := 16) (v := h) (Ri_aw (q := 15) (v := a) (Ri_aw (q := 14) (v := p) R1))
  have C2 := Cn_cp c2 C1
  generalize hM2 : (mAw (mAw (mAw M1 14 n p) 15 n a) 16 n h) = M2 at r2 R2
  refine r200_63 r2 C2 R2 hm hb hn ?_
  obtain ⟨t3, ht3⟩ : ∃ t3, t3 = (sAw (sAw (sAw t2 21 17 n 0) 21 18 n 0) 21 19 n 0) := ⟨_, rfl⟩
  have c3 : cp t3 = cp t2 := by rw [ht3, cp_A, cp_A, cp_A]
  have r3 : rp t3 = (mAw (mAw (mAw M2 17 n 0) 18 n 0) 19 n 0) := by rw [ht3, rp_A rfl, rp_A rfl, rp_A rfl, r2]
  rw [← ht3]
  clear ht3
  have R3 := Ri_aw (q := 19) (v := 0) (Ri_aw (q := 18) (v := 0) (Ri_aw (q := 17) (v := 0) R2))
  have C3 := Cn_cp c3 C2
  generalize hM3 : (mAw (mAw (mAw M2 17 n 0) 18 n 0) 19 n 0) = M3 at r3 R3
  refine r200_93 r3 C3 R3 hm hb hn ?_
  obtain ⟨t4, ht4⟩ : ∃ t4, t4 = (sAw (sBw (sBw t3 22 4 n false) 22 5 n false) 21 20 n 0) := ⟨_, rfl⟩
  have c4 : cp t4 = cp t3 := by rw [ht4, cp_A, cp_B, cp_B]
  have r4 : rp t4 = (mAw (mBw (mBw M3 4 n false) 5 n false) 20 n 0) := by rw [ht4, rp_A rfl, rp_B, rp_B, r3]
  rw [← ht4]
  clear ht4
  have R4 := Ri_aw (q := 20) (v := 0) (Ri_bw (q := 5) (x := n) (v := false) (Ri_bw (q := 4) (x := n) (v := false) R3))
  have C4 := Cn_cp c4 C3
  generalize hM4 : (mAw (mBw (mBw M3 4 n false) 5 n false) 20 n 0) = M4 at r4 R4
  refine r200_123 r4 C4 R4 hm hb hn ?_
  rw [show (io (n + 1) - 1 : Int32) = io n from io_sub (p := n + 1) (q := 1) (by omega)]
  have c5 : cp (sIw (sBw t4 22 6 n false) 786 0 (io (n + 1))) = cp t := by rw [cp_I rfl, cp_B, c4, c3, c2, c1]
  have r5 : rp (sIw (sBw t4 22 6 n false) 786 0 (io (n + 1))) = layM M n m b s p a h := by
    rw [rp_I rfl, rp_B, r4, ← hM4, ← hM3, ← hM2, ← hM1]
    unfold layM
    rfl
  exact q _ ⟨r5, Cn_cp c5 hV.2.1, lay_Ri hV.2.2 hm hb hn⟩ c5
end S85
