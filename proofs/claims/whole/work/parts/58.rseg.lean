/-! pieces of the reference (printed by rw0.py) -/
/-- the orders that are noted down as taken -/
def TkL (t : sT) (L : List Nat) : Prop := sI t 811 0 = io L.length ∧ ∀ i, i < L.length → sA t 21 27 i = io (L.getD i 0)
theorem irem_io {p q : Nat} (hp : p < 2 ^ 31) (hq : q < 2 ^ 31) (h0 : 0 < q) : io p - io p / io q * io q = io (p % q) := by
  have hdl : (p / q) < 2 ^ 31 := Nat.lt_of_le_of_lt (Nat.div_le_self p q) hp
  have hd : io p / io q = io (p / q) := by
    apply Int32.toInt_inj.mp
    rw [Int32.toInt_div, io_int hp, io_int hq, io_int hdl]
    have e : ((p : Int).tdiv (q : Int)) = ((p / q : Nat) : Int) := by
      rw [Int.tdiv_eq_ediv_of_nonneg (Int.natCast_nonneg p)]; rfl
    rw [e]
    clear e
    generalize p / q = d at hdl ⊢
    exact Int.bmod_eq_of_le (by omega) (by omega)
  rw [hd, io_mul]
  have e2 : io p = io (p % q) + io (p / q * q) := by
    rw [io_add]
    congr 1
    have := Nat.mod_add_div p q
    rw [Nat.mul_comm] at this
    exact this.symm
  rw [e2, Int32.add_sub_cancel]
def laS (M : sM) (n : Nat) (b : Nat) (s : Bool) (p : Int32) (l : Int32) (k : Nat) (f : Option Nat) : Option Nat := (bif ((decide ((mA M 19 k) = 1)) && ((decide ((oB M k) = b)) && (!(xor (mB M 3 k) s) && ((decide ((mA M 14 k) = p)) && (decide (l < (mA M 18 k))))))) then (bif f.isNone then (some k) else (bif (decide ((mA M 18 k) < (mA M 18 (ovD f)))) then (some k) else f)) else f)
def laL (M : sM) (n : Nat) (b : Nat) (s : Bool) (p : Int32) (l : Int32) (f : Option Nat) : Nat → Option Nat
  | 0 => f
  | k + 1 => laS M n b s p l k (laL M n b s p l f k)
set_option maxHeartbeats 4000000 in
set_option maxRecDepth 10000 in
theorem r169_38_b {t : sT} {Q : sRs → sT → Prop} {M : sM} {n : Nat} {k : Nat} {b : Nat} {s : Bool} {p : Int32} {l : Int32} {j : Nat} {f : Option Nat} {d0 : sV}
    (hM : rp t = M)
    (hc : Cn t)
    (hR : Ri M n)
    (hk : k < n)
    (hb : b < 5)
    (hb_f : ∀ j, f = some j → j < n)
    (q : ∀ (e0 : sV), (∀ j, (laS M n b s p l k f) = some j → j < n) → X 169 38 [.inr (.inr (12, (some 0))), .inl (io b), .inl (bz s), .inl p, .inl l, .inl (io j), .inl (ov (laS M n b s p l k f)), .inl (io (k + 1)), e0] [] t Q) :
    X 169 38 [.inr (.inr (12, (some 0))), .inl (io b), .inl (bz s), .inl p, .inl l, .inl (io j), .inl (ov f), .inl (io k), d0] [] t Q := by
  refine x_iload (pc' := 40) rfl rfl rfl ?_
  refine x_aload_n (pc' := 41) rfl rfl rfl rfl rfl ?_
  refine x_gI (pc' := 44) (x := (io n)) rfl rfl rfl (gFn hM (Fr.refl _) hR) ?_
  refine x_icmp_n (a' := 153) (pc' := 47) (z := decide (k < n)) rfl rfl rfl (ic_gen (p := k) (q := n) (Nat.lt_trans hk (gn31 hR)) (gn31 hR)) (fun h => absurd hk (of_decide_eq_false h)) (fun _ => ?_)
  refine x_aload_n (pc' := 48) rfl rfl rfl rfl rfl ?_
  refine x_gR (pc' := 51) (r := (some 19)) rfl rfl rfl (kR_795_0 hc) ?_
  refine x_iload (pc' := 53) rfl rfl rfl ?_
  refine x_iald (pc' := 54) (N := 200) (x := (mA M 19 k)) rfl rfl rfl (kN_21_19 hc) (io_in (p := k) (N := 200) (Nat.lt_of_lt_of_le hk (gn200 hR)) (by decide)) (Eq.trans (congrArg (sA t 21 19) (nn_io (p := k) (Nat.lt_trans (Nat.lt_of_lt_of_le hk (gn200 hR)) (by decide)))) (gA hM rfl)) ?_
  refine x_iconst (pc' := 55) rfl rfl ?_
  have J6 : X 169 108 [.inr (.inr (12, (some 0))), .inl (io b), .inl (bz s), .inl p, .inl l, .inl (io j), .inl (ov f), .inl (io k), d0] [.inl (bz ((decide ((mA M 19 k) = 1)) && ((decide ((oB M k) = b)) && (!(xor (mB M 3 k) s) && ((decide ((mA M 14 k) = p)) && (decide (l < (mA M 18 k))))))))] t Q := by
    refine x_istore (pc' := 110) (ls' := [_, _, _, _, _, _, _, _, _]) rfl rfl rfl rfl ?_
    refine x_iload (pc' := 112) rfl rfl rfl ?_
    have J10 : X 169 145 [.inr (.inr (12, (some 0))), .inl (io b), .inl (bz s), .inl p, .inl l, .inl (io j), .inl (ov f), .inl (io k), .inl (bz ((decide ((mA M 19 k) = 1)) && ((decide ((oB M k) = b)) && (!(xor (mB M 3 k) s) && ((decide ((mA M 14 k) = p)) && (decide (l < (mA M 18 k))))))))] [.inl (ov (bif ((decide ((mA M 19 k) = 1)) && ((decide ((oB M k) = b)) && (!(xor (mB M 3 k) s) && ((decide ((mA M 14 k) = p)) && (decide (l < (mA M 18 k))))))) then (bif f.isNone then (some k) else (bif (decide ((mA M 18 k) < (mA M 18 (ovD f)))) then (some k) else f)) else f))] t Q := by
      refine x_istore (pc' := 147) (ls' := [_, _, _, _, _, _, _, _, _]) rfl rfl rfl rfl ?_
      refine x_iinc (pc' := 150) (y := (io (k + 1))) (ls' := [_, _, _, _, _, _, _, _, _]) rfl rfl rfl (io_add k 1) rfl ?_
      refine x_goto (pc' := 38) rfl rfl ?_
      exact q (.inl (bz ((decide ((mA M 19 k) = 1)) && ((decide ((oB M k) = b)) && (!(xor (mB M 3 k) s) && ((decide ((mA M 14 k) = p)) && (decide (l < (mA M 18 k))))))))) (obd_c (obd_c (obd_s hk) (obd_c (obd_s hk) hb_f)) hb_f)
    refine x_ifeq_z (a' := 143) (pc' := 115) (z := ((decide ((mA M 19 k) = 1)) && ((decide ((oB M k) = b)) && (!(xor (mB M 3 k) s) && ((decide ((mA M 14 k) = p)) && (decide (l < (mA M 18 k)))))))) rfl rfl rfl (fun q8 => ?_) (fun q8 => ?_)
    · refine x_iload (pc' := 145) rfl rfl rfl ?_
      ((try rw [q8] at J10); (try rw [q8]); (try simp only [cd_t, cd_f, nt_t, nt_f, an_t, an_f, or_t, or_f] at J10); (try simp only [cd_t, cd_f, nt_t, nt_f, an_t, an_f, or_t, or_f]); exact J10)
    · refine x_iload (pc' := 117) rfl rfl rfl ?_
      refine x_iconst (pc' := 118) rfl rfl ?_
      refine x_icmp (a' := 138) (pc' := 121) (z := f.isNone) rfl rfl rfl (ov_eq (ov_31 (N := n) hb_f (Nat.le_of_lt (gn31 hR)))) (fun q9 => ?_) (fun q9 => ?_)
      · refine x_iload (pc' := 140) rfl rfl rfl ?_
        refine x_goto (pc' := 145) rfl rfl ?_
        ((try rw [q9] at J10); (try rw [q9]); (try rw [q8] at J10); (try rw [q8]); (try simp only [cd_t, cd_f, nt_t, nt_f, an_t, an_f, or_t, or_f] at J10); (try simp only [cd_t, cd_f, nt_t, nt_f, an_t, an_f, or_t, or_f]); exact J10)
      · refine x_aload_n (pc' := 122) rfl rfl rfl rfl rfl ?_
        refine x_gR (pc' := 125) (r := (some 18)) rfl rfl rfl (kR_794_0 hc) ?_
        refine x_iload (pc' := 127) rfl rfl rfl ?_
        refine x_iald (pc' := 128) (N := 200) (x := (mA M 18 k)) rfl rfl rfl (kN_21_18 hc) (io_in (p := k) (N := 200) (Nat.lt_of_lt_of_le hk (gn200 hR)) (by decide)) (Eq.trans (congrArg (sA t 21 18) (nn_io (p := k) (Nat.lt_trans (Nat.lt_of_lt_of_le hk (gn200 hR)) (by decide)))) (gA hM rfl)) ?_
        refine x_aload_n (pc' := 129) rfl rfl rfl rfl rfl ?_
        refine x_gR (pc' := 132) (r := (some 18)) rfl rfl rfl (kR_794_0 hc) ?_
        refine x_iload (pc' := 134) rfl rfl rfl ?_
        refine x_iald (pc' := 135) (N := 200) (x := (mA M 18 (ovD f))) rfl rfl rfl (kN_21_18 hc) (ov_in (N := 200) q9 (Nat.lt_of_lt_of_le (ov_lt (N := n) q9 hb_f) (gn200 hR)) (by decide)) (Eq.trans (congrArg (sA t 21 18) (ov_nn q9 (Nat.lt_trans (Nat.lt_of_lt_of_le (ov_lt (N := n) q9 hb_f) (gn200 hR)) (by decide)))) (gA hM rfl)) ?_
        refine x_icmp_n (a' := 143) (pc' := 138) (z := decide ((mA M 18 k) < (mA M 18 (ovD f)))) rfl rfl rfl (ik_ge _ _) (fun q10 => ?_) (fun q10 => ?_)
        · refine x_iload (pc' := 145) rfl rfl rfl ?_
          ((try rw [q10] at J10); (try rw [q10]); (try rw [q9] at J10); (try rw [q9]); (try rw [q8] at J10); (try rw [q8]); (try simp only [cd_t, cd_f, nt_t, nt_f, an_t, an_f, or_t, or_f] at J10); (try simp only [cd_t, cd_f, nt_t, nt_f, an_t, an_f, or_t, or_f]); exact J10)
        · refine x_iload (pc' := 140) rfl rfl rfl ?_
          refine x_goto (pc' := 145) rfl rfl ?_
          ((try rw [q10] at J10); (try rw [q10]); (try rw [q9] at J10); (try rw [q9]); (try rw [q8] at J10); (try rw [q8]); (try simp only [cd_t, cd_f, nt_t, nt_f, an_t, an_f, or_t, or_f] at J10); (try simp only [cd_t, cd_f, nt_t, nt_f, an_t, an_f, or_t, or_f]); exact J10)
  refine x_icmp_n (a' := 107) (pc' := 58) (z := decide ((mA M 19 k) = 1)) rfl rfl rfl (ik_ne _ _) (fun q2 => ?_) (fun q2 => ?_)
  · refine x_iconst (pc' := 108) rfl rfl ?_
    ((try rw [q2] at J6); (try rw [q2]); (try simp only [cd_t, cd_f, nt_t, nt_f, an_t, an_f, or_t, or_f] at J6); (try simp only [cd_t, cd_f, nt_t, nt_f, an_t, an_f, or_t, or_f]); exact J6)
  · refine x_aload_n (pc' := 59) rfl rfl rfl rfl rfl ?_
    refine x_gR (pc' := 62) (r := (some 13)) rfl rfl rfl (kR_788_0 hc) ?_
    refine x_iload (pc' := 64) rfl rfl rfl ?_
    refine x_iald (pc' := 65) (N := 200) (x := (io (oB M k))) rfl rfl rfl (kN_21_13 hc) (io_in (p := k) (N := 200) (Nat.lt_of_lt_of_le hk (gn200 hR)) (by decide)) (Eq.trans (congrArg (sA t 21 13) (nn_io (p := k) (Nat.lt_trans (Nat.lt_of_lt_of_le hk (gn200 hR)) (by decide)))) (gF13 hM (Fr.refl _) hR hk)) ?_
    refine x_iload_n (pc' := 66) rfl rfl rfl ?_
    refine x_icmp_n (a' := 107) (pc' := 69) (z := decide ((oB M k) = b)) rfl rfl rfl (ic_nen (p := (oB M k)) (q := b) (gb31 (gb5 hR hk)) (gb31 hb)) (fun q3 => ?_) (fun q3 => ?_)
    · refine x_iconst (pc' := 108) rfl rfl ?_
      ((try rw [q3] at J6); (try rw [q3]); (try rw [q2] at J6); (try rw [q2]); (try simp only [cd_t, cd_f, nt_t, nt_f, an_t, an_f, or_t, or_f] at J6); (try simp only [cd_t, cd_f, nt_t, nt_f, an_t, an_f, or_t, or_f]); exact J6)
    · refine x_aload_n (pc' := 70) rfl rfl rfl rfl rfl ?_
      refine x_gR (pc' := 73) (r := (some 3)) rfl rfl rfl (kR_789_0 hc) ?_
      refine x_iload (pc' := 75) rfl rfl rfl ?_
      refine x_bald (pc' := 76) (N := 200) (z := (mB M 3 k)) rfl rfl (kN_22_3 hc) (io_in (p := k) (N := 200) (Nat.lt_of_lt_of_le hk (gn200 hR)) (by decide)) (Eq.trans (congrArg (sB t 22 3) (nn_io (p := k) (Nat.lt_trans (Nat.lt_of_lt_of_le hk (gn200 hR)) (by decide)))) (gF3 hM (Fr.refl _))) ?_
      refine x_iload_n (pc' := 77) rfl rfl rfl ?_
      refine x_icmp (a' := 107) (pc' := 80) (z := (xor (mB M 3 k) s)) rfl rfl rfl (bz_neb _ _) (fun q4 => ?_) (fun q4 => ?_)
      · refine x_iconst (pc' := 108) rfl rfl ?_
        ((try rw [q4] at J6); (try rw [q4]); (try rw [q3] at J6); (try rw [q3]); (try rw [q2] at J6); (try rw [q2]); (try simp only [cd_t, cd_f, nt_t, nt_f, an_t, an_f, or_t, or_f] at J6); (try simp only [cd_t, cd_f, nt_t, nt_f, an_t, an_f, or_t, or_f]); exact J6)
      · refine x_aload_n (pc' := 81) rfl rfl rfl rfl rfl ?_
        refine x_gR (pc' := 84) (r := (some 14)) rfl rfl rfl (kR_790_0 hc) ?_
        refine x_iload (pc' := 86) rfl rfl rfl ?_
        refine x_iald (pc' := 87) (N := 200) (x := (mA M 14 k)) rfl rfl rfl (kN_21_14 hc) (io_in (p := k) (N := 200) (Nat.lt_of_lt_of_le hk (gn200 hR)) (by decide)) (Eq.trans (congrArg (sA t 21 14) (nn_io (p := k) (Nat.lt_trans (Nat.lt_of_lt_of_le hk (gn200 hR)) (by decide)))) (gF14 hM (Fr.refl _))) ?_
        refine x_iload_n (pc' := 88) rfl rfl rfl ?_
        refine x_icmp_n (a' := 107) (pc' := 91) (z := decide ((mA M 14 k) = p)) rfl rfl rfl (ik_ne _ _) (fun q5 => ?_) (fun q5 => ?_)
        · refine x_iconst (pc' := 108) rfl rfl ?_
          ((try rw [q5] at J6); (try rw [q5]); (try rw [q4] at J6); (try rw [q4]); (try rw [q3] at J6); (try rw [q3]); (try rw [q2] at J6); (try rw [q2]); (try simp only [cd_t, cd_f, nt_t, nt_f, an_t, an_f, or_t, or_f] at J6); (try simp only [cd_t, cd_f, nt_t, nt_f, an_t, an_f, or_t, or_f]); exact J6)
        · refine x_aload_n (pc' := 92) rfl rfl rfl rfl rfl ?_
          refine x_gR (pc' := 95) (r := (some 18)) rfl rfl rfl (kR_794_0 hc) ?_
          refine x_iload (pc' := 97) rfl rfl rfl ?_
          refine x_iald (pc' := 98) (N := 200) (x := (mA M 18 k)) rfl rfl rfl (kN_21_18 hc) (io_in (p := k) (N := 200) (Nat.lt_of_lt_of_le hk (gn200 hR)) (by decide)) (Eq.trans (congrArg (sA t 21 18) (nn_io (p := k) (Nat.lt_trans (Nat.lt_of_lt_of_le hk (gn200 hR)) (by decide)))) (gA hM rfl)) ?_
          refine x_iload (pc' := 100) rfl rfl rfl ?_
          refine x_icmp_n (a' := 107) (pc' := 103) (z := decide (l < (mA M 18 k))) rfl rfl rfl (ik_le _ _) (fun q6 => ?_) (fun q6 => ?_)
          · refine x_iconst (pc' := 108) rfl rfl ?_
            ((try rw [q6] at J6); (try rw [q6]); (try rw [q5] at J6); (try rw [q5]); (try rw [q4] at J6); (try rw [q4]); (try rw [q3] at J6); (try rw [q3]); (try rw [q2] at J6); (try rw [q2]); (try simp only [cd_t, cd_f, nt_t, nt_f, an_t, an_f, or_t, or_f] at J6); (try simp only [cd_t, cd_f, nt_t, nt_f, an_t, an_f, or_t, or_f]); exact J6)
          · refine x_iconst (pc' := 104) rfl rfl ?_
            refine x_goto (pc' := 108) rfl rfl ?_
            ((try rw [q6] at J6); (try rw [q6]); (try rw [q5] at J6); (try rw [q5]); (try rw [q4] at J6); (try rw [q4]); (try rw [q3] at J6); (try rw [q3]); (try rw [q2] at J6); (try rw [q2]); (try simp only [cd_t, cd_f, nt_t, nt_f, an_t, an_f, or_t, or_f] at J6); (try simp only [cd_t, cd_f, nt_t, nt_f, an_t, an_f, or_t, or_f]); exact J6)
set_option maxHeartbeats 4000000 in
set_option maxRecDepth 10000 in
theorem r169_38 {t : sT} {Q : sRs → sT → Prop} {M : sM} {n : Nat} {b : Nat} {s : Bool} {p : Int32} {l : Int32} {j : Nat} {f : Option Nat} {d0 : sV}
    (hM : rp t = M)
    (hc : Cn t)
    (hR : Ri M n)
    (hb : b < 5)
    (hb_f : ∀ j, f = some j → j < n)
    (q : ∀ (e0 : sV), (∀ j, (laL M n b s p l f n) = some j → j < n) → X 169 38 [.inr (.inr (12, (some 0))), .inl (io b), .inl (bz s), .inl p, .inl l, .inl (io j), .inl (ov (laL M n b s p l f n)), .inl (io n), e0] [] t Q) :
    X 169 38 [.inr (.inr (12, (some 0))), .inl (io b), .inl (bz s), .inl p, .inl l, .inl (io j), .inl (ov f), .inl (io 0), d0] [] t Q := by
  refine lp0 (n := n) (fun k ls u => (∃ e0, ls = [.inr (.inr (12, (some 0))), .inl (io b), .inl (bz s), .inl p, .inl l, .inl (io j), .inl (ov (laL M n b s p l f k)), .inl (io k), e0]) ∧ u = t ∧ (∀ j, (laL M n b s p l f k) = some j → j < n)) ⟨⟨_, rfl⟩, rfl, hb_f⟩ ?_ ?_
  · rintro k ls u hk ⟨⟨e0, rfl⟩, rfl, b0⟩ ih
    refine r169_38_b hM hc hR hk hb b0 ?_
    intro x0' z0
    exact ih _ _ ⟨⟨_, rfl⟩, rfl, z0⟩
  · rintro ls u ⟨⟨e0, rfl⟩, rfl, b0⟩
    exact q e0 b0
set_option maxHeartbeats 4000000 in
set_option maxRecDepth 10000 in
theorem r169_0 {t : sT} {Q : sRs → sT → Prop} {M : sM} {n : Nat} {L0 : List Nat} {x : Nat} {b : Nat} {s : Bool}
    (hM : rp t = M)
    (hc : Cn t)
    (hR : Ri M n)
    (hT0 : TkL t L0)
    (hL9 : L0.length ≤ 200)
    (hk : 0 < L0.length)
    (hx : L0.getD 0 0 = x)
    (hxn : x < n)
    (hb : b < 5)
    (k0 : X 169 23 [.inr (.inr (12, (some 0))), .inl (io b), .inl (bz s), .inl (mA M 14 x), .inl 0, .inl 0, sJk, sJk, sJk] [] (sIw t 811 0 0) Q) :
    X 169 0 [.inr (.inr (12, (some 0))), .inl (io b), .inl (bz s), sJk, sJk, sJk, sJk, sJk, sJk] [] t Q := by
  refine x_aload_n (pc' := 1) rfl rfl rfl rfl rfl ?_
  refine x_gR (pc' := 4) (r := (some 14)) rfl rfl rfl (kR_790_0 hc) ?_
  refine x_aload_n (pc' := 5) rfl rfl rfl rfl rfl ?_
  refine x_gR (pc' := 8) (r := (some 27)) rfl rfl rfl (kR_809_0 hc) ?_
  refine x_iconst (pc' := 9) rfl rfl ?_
  refine x_iald (pc' := 10) (N := 200) (x := (io x)) rfl rfl rfl (kN_21_27 hc) (io_in (p := 0) (N := 200) (by decide) (by decide)) (Eq.trans (congrArg (sA t 21 27) (nn_io (p := 0) (by decide))) ((hT0.2 0 hk).trans (congrArg io hx))) ?_
  refine x_iald (pc' := 11) (N := 200) (x := (mA M 14 x)) rfl rfl rfl (kN_21_14 hc) (io_in (p := x) (N := 200) (Nat.lt_of_lt_of_le hxn (gn200 hR)) (by decide)) (Eq.trans (congrArg (sA t 21 14) (nn_io (p := x) (Nat.lt_trans (Nat.lt_of_lt_of_le hxn (gn200 hR)) (by decide)))) (gF14 hM (Fr.refl _))) ?_
  refine x_istore_n (pc' := 12) (ls' := [_, _, _, _, _, _, _, _, _]) rfl rfl rfl rfl ?_
  refine x_iconst (pc' := 13) rfl rfl ?_
  refine x_istore (pc' := 15) (ls' := [_, _, _, _, _, _, _, _, _]) rfl rfl rfl rfl ?_
  refine x_aload_n (pc' := 16) rfl rfl rfl rfl rfl ?_
  refine x_iconst (pc' := 17) rfl rfl ?_
  refine x_pI (pc' := 20) rfl rfl rfl ?_
  refine x_iconst (pc' := 21) rfl rfl ?_
  refine x_istore (pc' := 23) (ls' := [_, _, _, _, _, _, _, _, _]) rfl rfl rfl rfl ?_
  exact k0
set_option maxHeartbeats 4000000 in
set_option maxRecDepth 10000 in
theorem r169_23 {t : sT} {Q : sRs → sT → Prop} {M : sM} {n : Nat} {L0 : List Nat} {b : Nat} {s : Bool} {p : Int32} {l : Int32} {y0 : sV} {y1 : sV} {y2 : sV} {j : Nat}
    (hM : rp t = M)
    (hc : Cn t)
    (hR : Ri M n)
    (hT0 : TkL t L0)
    (hL9 : L0.length ≤ 200)
    (hb : b < 5)
    (hj : j < n)
    (k0 : X 169 38 [.inr (.inr (12, (some 0))), .inl (io b), .inl (bz s), .inl p, .inl l, .inl (io j), .inl (-1), .inl 0, y2] [] t Q) :
    X 169 23 [.inr (.inr (12, (some 0))), .inl (io b), .inl (bz s), .inl p, .inl l, .inl (io j), y0, y1, y2] [] t Q := by
  refine x_iload (pc' := 25) rfl rfl rfl ?_
  refine x_aload_n (pc' := 26) rfl rfl rfl rfl rfl ?_
  refine x_gI (pc' := 29) (x := (io n)) rfl rfl rfl (gFn hM (Fr.refl _) hR) ?_
  refine x_icmp_n (a' := 195) (pc' := 32) (z := decide (j < n)) rfl rfl rfl (ic_gen (p := j) (q := n) (Nat.lt_trans hj (gn31 hR)) (gn31 hR)) (fun h => absurd hj (of_decide_eq_false h)) (fun _ => ?_)
  refine x_iconst (pc' := 33) rfl rfl ?_
  refine x_istore (pc' := 35) (ls' := [_, _, _, _, _, _, _, _, _]) rfl rfl rfl rfl ?_
  refine x_iconst (pc' := 36) rfl rfl ?_
  refine x_istore (pc' := 38) (ls' := [_, _, _, _, _, _, _, _, _]) rfl rfl rfl rfl ?_
  exact k0
set_option maxHeartbeats 4000000 in
set_option maxRecDepth 10000 in
theorem r169_23e {t : sT} {Q : sRs → sT → Prop} {M : sM} {n : Nat} {L0 : List Nat} {b : Nat} {s : Bool} {p : Int32} {l : Int32} {y0 : sV} {y1 : sV} {y2 : sV}
    (hM : rp t = M)
    (hc : Cn t)
    (hR : Ri M n)
    (hT0 : TkL t L0)
    (hL9 : L0.length ≤ 200)
    (hb : b < 5)
    (k0 : Q (.inl none) t) :
    X 169 23 [.inr (.inr (12, (some 0))), .inl (io b), .inl (bz s), .inl p, .inl l, .inl (io n), y0, y1, y2] [] t Q := by
  refine x_iload (pc' := 25) rfl rfl rfl ?_
  refine x_aload_n (pc' := 26) rfl rfl rfl rfl rfl ?_
  refine x_gI (pc' := 29) (x := (io n)) rfl rfl rfl (gFn hM (Fr.refl _) hR) ?_
  refine x_icmp_n (a' := 195) (pc' := 32) (z := decide (n < n)) rfl rfl rfl (ic_gen (p := n) (q := n) (gn31 hR) (gn31 hR)) (fun _ => ?_) (fun h => absurd (of_decide_eq_true h) (by first | decide | omega | simp))
  refine x_ret rfl ?_
  exact k0
set_option maxHeartbeats 4000000 in
set_option maxRecDepth 10000 in
theorem r169_38n {t : sT} {Q : sRs → sT → Prop} {M : sM} {n : Nat} {L0 : List Nat} {b : Nat} {s : Bool} {p : Int32} {l : Int32} {y0 : sV} {j : Nat}
    (hM : rp t = M)
    (hc : Cn t)
    (hR : Ri M n)
    (hT0 : TkL t L0)
    (hL9 : L0.length ≤ 200)
    (hb : b < 5)
    (hj : j < n)
    (k0 : X 169 23 [.inr (.inr (12, (some 0))), .inl (io b), .inl (bz s), .inl p, .inl l, .inl (io (j + 1)), .inl (-1), .inl (io n), y0] [] t Q) :
    X 169 38 [.inr (.inr (12, (some 0))), .inl (io b), .inl (bz s), .inl p, .inl l, .inl (io j), .inl (-1), .inl (io n), y0] [] t Q := by
  refine x_iload (pc' := 40) rfl rfl rfl ?_
  refine x_aload_n (pc' := 41) rfl rfl rfl rfl rfl ?_
  refine x_gI (pc' := 44) (x := (io n)) rfl rfl rfl (gFn hM (Fr.refl _) hR) ?_
  refine x_icmp_n (a' := 153) (pc' := 47) (z := decide (n < n)) rfl rfl rfl (ic_gen (p := n) (q := n) (gn31 hR) (gn31 hR)) (fun _ => ?_) (fun h => absurd (of_decide_eq_true h) (by first | decide | omega | simp))
  refine x_iload (pc' := 155) rfl rfl rfl ?_
  refine x_iconst (pc' := 156) rfl rfl ?_
  refine x_icmp (a' := 189) (pc' := 159) (z := true) rfl rfl rfl (by decide) (fun _ => ?_) (fun h => by cases h)
  refine x_iinc (pc' := 192) (y := (io (j + 1))) (ls' := [_, _, _, _, _, _, _, _, _]) rfl rfl rfl (io_add j 1) rfl ?_
  refine x_goto (pc' := 23) rfl rfl ?_
  exact k0
set_option maxHeartbeats 4000000 in
set_option maxRecDepth 10000 in
theorem r169_38s {t : sT} {Q : sRs → sT → Prop} {M : sM} {n : Nat} {L0 : List Nat} {b : Nat} {s : Bool} {p : Int32} {l : Int32} {y0 : sV} {x : Nat} {j : Nat}
    (hM : rp t = M)
    (hc : Cn t)
    (hR : Ri M n)
    (hT0 : TkL t L0)
    (hL9 : L0.length ≤ 200)
    (hb : b < 5)
    (hxn : x < n)
    (hl2 : L0.length < 200)
    (hj : j < n)
    (k0 : (io x) = (-1) → X 169 23 [.inr (.inr (12, (some 0))), .inl (io b), .inl (bz s), .inl p, .inl l, .inl (io (j + 1)), .inl (io x), .inl (io n), y0] [] t Q)
    (k1 : ¬ ((io x) = (-1)) → X 169 23 [.inr (.inr (12, (some 0))), .inl (io b), .inl (bz s), .inl p, .inl (mA M 18 x), .inl (io (j + 1)), .inl (io x), .inl (io n), y0] [] (sIw (sAw t 21 27 L0.length (io x)) 811 0 (io (L0.length + 1))) Q) :
    X 169 38 [.inr (.inr (12, (some 0))), .inl (io b), .inl (bz s), .inl p, .inl l, .inl (io j), .inl (io x), .inl (io n), y0] [] t Q := by
  refine x_iload (pc' := 40) rfl rfl rfl ?_
  refine x_aload_n (pc' := 41) rfl rfl rfl rfl rfl ?_
  refine x_gI (pc' := 44) (x := (io n)) rfl rfl rfl (gFn hM (Fr.refl _) hR) ?_
  refine x_icmp_n (a' := 153) (pc' := 47) (z := decide (n < n)) rfl rfl rfl (ic_gen (p := n) (q := n) (gn31 hR) (gn31 hR)) (fun _ => ?_) (fun h => absurd (of_decide_eq_true h) (by first | decide | omega | simp))
  refine x_iload (pc' := 155) rfl rfl rfl ?_
  refine x_iconst (pc' := 156) rfl rfl ?_
  refine x_icmp (a' := 189) (pc' := 159) (z := decide ((io x) = (-1))) rfl rfl rfl rfl (fun q2 => ?_) (fun q2 => ?_)
  · refine x_iinc (pc' := 192) (y := (io (j + 1))) (ls' := [_, _, _, _, _, _, _, _, _]) rfl rfl rfl (io_add j 1) rfl ?_
    refine x_goto (pc' := 23) rfl rfl ?_
    exact k0 (of_decide_eq_true q2)
  · refine x_aload_n (pc' := 160) rfl rfl rfl rfl rfl ?_
    refine x_gR (pc' := 163) (r := (some 27)) rfl rfl rfl (kR_809_0 hc) ?_
    refine x_aload_n (pc' := 164) rfl rfl rfl rfl rfl ?_
    refine x_gI (pc' := 167) (x := (io L0.length)) rfl rfl rfl hT0.1 ?_
    refine x_iload (pc' := 169) rfl rfl rfl ?_
    refine x_iast (pc' := 170) (N := 200) (p := L0.length) rfl rfl rfl (kN_21_27 hc) (io_in (p := L0.length) (N := 200) hl2 (by decide)) (nn_io (p := L0.length) (Nat.lt_trans hl2 (by decide))) ?_
    refine x_aload_n (pc' := 171) rfl rfl rfl rfl rfl ?_
    refine x_gR (pc' := 174) (r := (some 18)) rfl rfl rfl (Eq.trans (b := sR t 794 0) rfl (kR_794_0 hc)) ?_
    refine x_iload (pc' := 176) rfl rfl rfl ?_
    refine x_iald (pc' := 177) (N := 200) (x := (mA M 18 x)) rfl rfl rfl (Eq.trans rdNA (kN_21_18 hc)) (io_in (p := x) (N := 200) (Nat.lt_of_lt_of_le hxn (gn200 hR)) (by decide)) (Eq.trans (congrArg (sA (sAw t 21 27 L0.length (io x)) 21 18) (nn_io (p := x) (Nat.lt_trans (Nat.lt_of_lt_of_le hxn (gn200 hR)) (by decide)))) (Eq.trans (b := sA t 21 18 x) rfl (gA hM rfl))) ?_
    refine x_istore (pc' := 179) (ls' := [_, _, _, _, _, _, _, _, _]) rfl rfl rfl rfl ?_
    refine x_aload_n (pc' := 180) rfl rfl rfl rfl rfl ?_
    refine x_dup (pc' := 181) rfl rfl rfl ?_
    refine x_gI (pc' := 184) (x := (io L0.length)) rfl rfl rfl (Eq.trans (b := sI t 811 0) rfl hT0.1) ?_
    refine x_iconst (pc' := 185) rfl rfl ?_
    refine x_iadd (pc' := 186) (z := (io (L0.length + 1))) rfl rfl (io_add L0.length 1) ?_
    refine x_pI (pc' := 189) rfl rfl rfl ?_
    refine x_iinc (pc' := 192) (y := (io (j + 1))) (ls' := [_, _, _, _, _, _, _, _, _]) rfl rfl rfl (io_add j 1) rfl ?_
    refine x_goto (pc' := 23) rfl rfl ?_
    exact k1 (of_decide_eq_false q2)
set_option maxHeartbeats 4000000 in
set_option maxRecDepth 10000 in
theorem r172_0 {t : sT} {Q : sRs → sT → Prop} {M : sM} {n : Nat} {L0 : List Nat} {a : Int32}
    (hM : rp t = M)
    (hc : Cn t)
    (hR : Ri M n)
    (hT0 : TkL t L0)
    (hL9 : L0.length ≤ 200)
    (k0 : X 172 4 [.inr (.inr (12, (some 0))), .inl a, .inl 0, .inl 1, sJk, sJk, sJk] [] t Q) :
    X 172 0 [.inr (.inr (12, (some 0))), .inl a, sJk, sJk, sJk, sJk, sJk] [] t Q := by
  refine x_iconst (pc' := 1) rfl rfl ?_
  refine x_istore_n (pc' := 2) (ls' := [_, _, _, _, _, _, _]) rfl rfl rfl rfl ?_
  refine x_iconst (pc' := 3) rfl rfl ?_
  refine x_istore_n (pc' := 4) (ls' := [_, _, _, _, _, _, _]) rfl rfl rfl rfl ?_
  exact k0
set_option maxHeartbeats 4000000 in
set_option maxRecDepth 10000 in
theorem r172_4k {t : sT} {Q : sRs → sT → Prop} {M : sM} {n : Nat} {L0 : List Nat} {k : Nat} {x : Nat} {a : Int32} {h : Int32}
    (hM : rp t = M)
    (hc : Cn t)
    (hR : Ri M n)
    (hT0 : TkL t L0)
    (hL9 : L0.length ≤ 200)
    (hk : k < L0.length)
    (hx : L0.getD k 0 = x)
    (hxn : x < n)
    (k0 : X 172 4 [.inr (.inr (12, (some 0))), .inl a, .inl (h + (mA M 17 x)), .inl (io (k + 1)), sJk, sJk, sJk] [] t Q) :
    X 172 4 [.inr (.inr (12, (some 0))), .inl a, .inl h, .inl (io k), sJk, sJk, sJk] [] t Q := by
  refine x_iload_n (pc' := 5) rfl rfl rfl ?_
  refine x_aload_n (pc' := 6) rfl rfl rfl rfl rfl ?_
  refine x_gI (pc' := 9) (x := (io L0.length)) rfl rfl rfl hT0.1 ?_
  refine x_icmp_n (a' := 32) (pc' := 12) (z := decide (k < L0.length)) rfl rfl rfl (ic_gen (p := k) (q := L0.length) (Nat.lt_trans hk (Nat.lt_of_le_of_lt hL9 (by decide))) (Nat.lt_of_le_of_lt hL9 (by decide))) (fun h => absurd hk (of_decide_eq_false h)) (fun _ => ?_)
  refine x_iload_n (pc' := 13) rfl rfl rfl ?_
  refine x_aload_n (pc' := 14) rfl rfl rfl rfl rfl ?_
  refine x_gR (pc' := 17) (r := (some 17)) rfl rfl rfl (kR_793_0 hc) ?_
  refine x_aload_n (pc' := 18) rfl rfl rfl rfl rfl ?_
  refine x_gR (pc' := 21) (r := (some 27)) rfl rfl rfl (kR_809_0 hc) ?_
  refine x_iload_n (pc' := 22) rfl rfl rfl ?_
  refine x_iald (pc' := 23) (N := 200) (x := (io x)) rfl rfl rfl (kN_21_27 hc) (io_in (p := k) (N := 200) (Nat.lt_of_lt_of_le hk hL9) (by decide)) (Eq.trans (congrArg (sA t 21 27) (nn_io (p := k) (Nat.lt_trans (Nat.lt_of_lt_of_le hk hL9) (by decide)))) ((hT0.2 k hk).trans (congrArg io hx))) ?_
  refine x_iald (pc' := 24) (N := 200) (x := (mA M 17 x)) rfl rfl rfl (kN_21_17 hc) (io_in (p := x) (N := 200) (Nat.lt_of_lt_of_le hxn (gn200 hR)) (by decide)) (Eq.trans (congrArg (sA t 21 17) (nn_io (p := x) (Nat.lt_trans (Nat.lt_of_lt_of_le hxn (gn200 hR)) (by decide)))) (gA hM rfl)) ?_
  refine x_iadd (pc' := 25) (z := (h + (mA M 17 x))) rfl rfl rfl ?_
  refine x_istore_n (pc' := 26) (ls' := [_, _, _, _, _, _, _]) rfl rfl rfl rfl ?_
  refine x_iinc (pc' := 29) (y := (io (k + 1))) (ls' := [_, _, _, _, _, _, _]) rfl rfl rfl (io_add k 1) rfl ?_
  refine x_goto (pc' := 4) rfl rfl ?_
  exact k0
set_option maxHeartbeats 4000000 in
set_option maxRecDepth 10000 in
theorem r172_4e {t : sT} {Q : sRs → sT → Prop} {M : sM} {n : Nat} {L0 : List Nat} {x : Nat} {a : Int32} {h : Int32}
    (hM : rp t = M)
    (hc : Cn t)
    (hR : Ri M n)
    (hT0 : TkL t L0)
    (hL9 : L0.length ≤ 200)
    (hk : 0 < L0.length)
    (hx : L0.getD 0 0 = x)
    (hxn : x < n)
    (k0 : X 172 88 [.inr (.inr (12, (some 0))), .inl a, .inl h, .inl (a - (mnc (mA M 17 x) a)), .inl (mnc (mA M 17 x) a), .inl 1, sJk] [] (sAw t 21 28 0 (mnc (mA M 17 x) a)) Q) :
    X 172 4 [.inr (.inr (12, (some 0))), .inl a, .inl h, .inl (io L0.length), sJk, sJk, sJk] [] t Q := by
  refine x_iload_n (pc' := 5) rfl rfl rfl ?_
  refine x_aload_n (pc' := 6) rfl rfl rfl rfl rfl ?_
  refine x_gI (pc' := 9) (x := (io L0.length)) rfl rfl rfl hT0.1 ?_
  refine x_icmp_n (a' := 32) (pc' := 12) (z := decide (L0.length < L0.length)) rfl rfl rfl (ic_gen (p := L0.length) (q := L0.length) (Nat.lt_of_le_of_lt hL9 (by decide)) (Nat.lt_of_le_of_lt hL9 (by decide))) (fun _ => ?_) (fun h => absurd (of_decide_eq_true h) (by first | decide | omega | simp))
  refine x_aload_n (pc' := 33) rfl rfl rfl rfl rfl ?_
  refine x_gR (pc' := 36) (r := (some 28)) rfl rfl rfl (kR_810_0 hc) ?_
  refine x_iconst (pc' := 37) rfl rfl ?_
  refine x_aload_n (pc' := 38) rfl rfl rfl rfl rfl ?_
  refine x_gR (pc' := 41) (r := (some 17)) rfl rfl rfl (kR_793_0 hc) ?_
  refine x_aload_n (pc' := 42) rfl rfl rfl rfl rfl ?_
  refine x_gR (pc' := 45) (r := (some 27)) rfl rfl rfl (kR_809_0 hc) ?_
  refine x_iconst (pc' := 46) rfl rfl ?_
  refine x_iald (pc' := 47) (N := 200) (x := (io x)) rfl rfl rfl (kN_21_27 hc) (io_in (p := 0) (N := 200) (by decide) (by decide)) (Eq.trans (congrArg (sA t 21 27) (nn_io (p := 0) (by decide))) ((hT0.2 0 hk).trans (congrArg io hx))) ?_
  refine x_iald (pc' := 48) (N := 200) (x := (mA M 17 x)) rfl rfl rfl (kN_21_17 hc) (io_in (p := x) (N := 200) (Nat.lt_of_lt_of_le hxn (gn200 hR)) (by decide)) (Eq.trans (congrArg (sA t 21 17) (nn_io (p := x) (Nat.lt_trans (Nat.lt_of_lt_of_le hxn (gn200 hR)) (by decide)))) (gA hM rfl)) ?_
  refine x_iload_n (pc' := 49) rfl rfl rfl ?_
  have J2 : X 172 67 [.inr (.inr (12, (some 0))), .inl a, .inl h, .inl (io L0.length), sJk, sJk, sJk] [.inl (mnc (mA M 17 x) a), .inl 0, .inr (.inr (21, (some 28)))] t Q := by
    refine x_iast (pc' := 68) (N := 200) (p := 0) rfl rfl rfl (kN_21_28 hc) (io_in (p := 0) (N := 200) (by decide) (by decide)) (nn_io (p := 0) (by decide)) ?_
    refine x_iload_n (pc' := 69) rfl rfl rfl ?_
    refine x_aload_n (pc' := 70) rfl rfl rfl rfl rfl ?_
    refine x_gR (pc' := 73) (r := (some 28)) rfl rfl rfl (Eq.trans (b := sR t 810 0) rfl (kR_810_0 hc)) ?_
    refine x_iconst (pc' := 74) rfl rfl ?_
    refine x_iald (pc' := 75) (N := 200) (x := (mnc (mA M 17 x) a)) rfl rfl rfl (Eq.trans rdNA (kN_21_28 hc)) (io_in (p := 0) (N := 200) (by decide) (by decide)) (Eq.trans (congrArg (sA (sAw t 21 28 0 (mnc (mA M 17 x) a)) 21 28) (nn_io (p := 0) (by decide))) sA_s) ?_
    refine x_isub (pc' := 76) (z := (a - (mnc (mA M 17 x) a))) rfl rfl rfl ?_
    refine x_istore_n (pc' := 77) (ls' := [_, _, _, _, _, _, _]) rfl rfl rfl rfl ?_
    refine x_aload_n (pc' := 78) rfl rfl rfl rfl rfl ?_
    refine x_gR (pc' := 81) (r := (some 28)) rfl rfl rfl (Eq.trans (b := sR t 810 0) rfl (kR_810_0 hc)) ?_
    refine x_iconst (pc' := 82) rfl rfl ?_
    refine x_iald (pc' := 83) (N := 200) (x := (mnc (mA M 17 x) a)) rfl rfl rfl (Eq.trans rdNA (kN_21_28 hc)) (io_in (p := 0) (N := 200) (by decide) (by decide)) (Eq.trans (congrArg (sA (sAw t 21 28 0 (mnc (mA M 17 x) a)) 21 28) (nn_io (p := 0) (by decide))) sA_s) ?_
    refine x_istore (pc' := 85) (ls' := [_, _, _, _, _, _, _]) rfl rfl rfl rfl ?_
    refine x_iconst (pc' := 86) rfl rfl ?_
    refine x_istore (pc' := 88) (ls' := [_, _, _, _, _, _, _]) rfl rfl rfl rfl ?_
    exact k0
  refine x_icmp_n (a' := 66) (pc' := 52) (z := decide ((mA M 17 x) < a)) rfl rfl rfl (ik_ge _ _) (fun q2 => ?_) (fun q2 => ?_)
  · refine x_iload_n (pc' := 67) rfl rfl rfl ?_
    ((try rw [mnc_f q2] at J2); (try simp only [cd_t, cd_f, nt_t, nt_f, an_t, an_f, or_t, or_f] at J2); (try simp only [cd_t, cd_f, nt_t, nt_f, an_t, an_f, or_t, or_f]); exact J2)
  · refine x_aload_n (pc' := 53) rfl rfl rfl rfl rfl ?_
    refine x_gR (pc' := 56) (r := (some 17)) rfl rfl rfl (kR_793_0 hc) ?_
    refine x_aload_n (pc' := 57) rfl rfl rfl rfl rfl ?_
    refine x_gR (pc' := 60) (r := (some 27)) rfl rfl rfl (kR_809_0 hc) ?_
    refine x_iconst (pc' := 61) rfl rfl ?_
    refine x_iald (pc' := 62) (N := 200) (x := (io x)) rfl rfl rfl (kN_21_27 hc) (io_in (p := 0) (N := 200) (by decide) (by decide)) (Eq.trans (congrArg (sA t 21 27) (nn_io (p := 0) (by decide))) ((hT0.2 0 hk).trans (congrArg io hx))) ?_
    refine x_iald (pc' := 63) (N := 200) (x := (mA M 17 x)) rfl rfl rfl (kN_21_17 hc) (io_in (p := x) (N := 200) (Nat.lt_of_lt_of_le hxn (gn200 hR)) (by decide)) (Eq.trans (congrArg (sA t 21 17) (nn_io (p := x) (Nat.lt_trans (Nat.lt_of_lt_of_le hxn (gn200 hR)) (by decide)))) (gA hM rfl)) ?_
    refine x_goto (pc' := 67) rfl rfl ?_
    ((try rw [mnc_t q2] at J2); (try simp only [cd_t, cd_f, nt_t, nt_f, an_t, an_f, or_t, or_f] at J2); (try simp only [cd_t, cd_f, nt_t, nt_f, an_t, an_f, or_t, or_f]); exact J2)
set_option maxHeartbeats 4000000 in
set_option maxRecDepth 10000 in
theorem r172_88k {t : sT} {Q : sRs → sT → Prop} {M : sM} {n : Nat} {L0 : List Nat} {k : Nat} {x : Nat} {a : Int32} {h : Int32} {r : Int32} {d : Int32}
    (hM : rp t = M)
    (hc : Cn t)
    (hR : Ri M n)
    (hT0 : TkL t L0)
    (hL9 : L0.length ≤ 200)
    (hk : k < L0.length)
    (hx : L0.getD k 0 = x)
    (hxn : x < n)
    (hh : ¬ h = 0)
    (k0 : X 172 88 [.inr (.inr (12, (some 0))), .inl a, .inl h, .inl r, .inl (d + ((r * (mA M 17 x)) / h)), .inl (io (k + 1)), sJk] [] (sAw t 21 28 k ((r * (mA M 17 x)) / h)) Q) :
    X 172 88 [.inr (.inr (12, (some 0))), .inl a, .inl h, .inl r, .inl d, .inl (io k), sJk] [] t Q := by
  refine x_iload (pc' := 90) rfl rfl rfl ?_
  refine x_aload_n (pc' := 91) rfl rfl rfl rfl rfl ?_
  refine x_gI (pc' := 94) (x := (io L0.length)) rfl rfl rfl hT0.1 ?_
  refine x_icmp_n (a' := 138) (pc' := 97) (z := decide (k < L0.length)) rfl rfl rfl (ic_gen (p := k) (q := L0.length) (Nat.lt_trans hk (Nat.lt_of_le_of_lt hL9 (by decide))) (Nat.lt_of_le_of_lt hL9 (by decide))) (fun h => absurd hk (of_decide_eq_false h)) (fun _ => ?_)
  refine x_aload_n (pc' := 98) rfl rfl rfl rfl rfl ?_
  refine x_gR (pc' := 101) (r := (some 28)) rfl rfl rfl (kR_810_0 hc) ?_
  refine x_iload (pc' := 103) rfl rfl rfl ?_
  refine x_iload_n (pc' := 104) rfl rfl rfl ?_
  refine x_aload_n (pc' := 105) rfl rfl rfl rfl rfl ?_
  refine x_gR (pc' := 108) (r := (some 17)) rfl rfl rfl (kR_793_0 hc) ?_
  refine x_aload_n (pc' := 109) rfl rfl rfl rfl rfl ?_
  refine x_gR (pc' := 112) (r := (some 27)) rfl rfl rfl (kR_809_0 hc) ?_
  refine x_iload (pc' := 114) rfl rfl rfl ?_
  refine x_iald (pc' := 115) (N := 200) (x := (io x)) rfl rfl rfl (kN_21_27 hc) (io_in (p := k) (N := 200) (Nat.lt_of_lt_of_le hk hL9) (by decide)) (Eq.trans (congrArg (sA t 21 27) (nn_io (p := k) (Nat.lt_trans (Nat.lt_of_lt_of_le hk hL9) (by decide)))) ((hT0.2 k hk).trans (congrArg io hx))) ?_
  refine x_iald (pc' := 116) (N := 200) (x := (mA M 17 x)) rfl rfl rfl (kN_21_17 hc) (io_in (p := x) (N := 200) (Nat.lt_of_lt_of_le hxn (gn200 hR)) (by decide)) (Eq.trans (congrArg (sA t 21 17) (nn_io (p := x) (Nat.lt_trans (Nat.lt_of_lt_of_le hxn (gn200 hR)) (by decide)))) (gA hM rfl)) ?_
  refine x_imul (pc' := 117) (z := (r * (mA M 17 x))) rfl rfl rfl ?_
  refine x_iload_n (pc' := 118) rfl rfl rfl ?_
  refine x_idiv (pc' := 119) (z := ((r * (mA M 17 x)) / h)) rfl rfl hh rfl ?_
  refine x_iast (pc' := 120) (N := 200) (p := k) rfl rfl rfl (kN_21_28 hc) (io_in (p := k) (N := 200) (Nat.lt_of_lt_of_le hk hL9) (by decide)) (nn_io (p := k) (Nat.lt_trans (Nat.lt_of_lt_of_le hk hL9) (by decide))) ?_
  refine x_iload (pc' := 122) rfl rfl rfl ?_
  refine x_aload_n (pc' := 123) rfl rfl rfl rfl rfl ?_
  refine x_gR (pc' := 126) (r := (some 28)) rfl rfl rfl (Eq.trans (b := sR t 810 0) rfl (kR_810_0 hc)) ?_
  refine x_iload (pc' := 128) rfl rfl rfl ?_
  refine x_iald (pc' := 129) (N := 200) (x := ((r * (mA M 17 x)) / h)) rfl rfl rfl (Eq.trans rdNA (kN_21_28 hc)) (io_in (p := k) (N := 200) (Nat.lt_of_lt_of_le hk hL9) (by decide)) (Eq.trans (congrArg (sA (sAw t 21 28 k ((r * (mA M 17 x)) / h)) 21 28) (nn_io (p := k) (Nat.lt_trans (Nat.lt_of_lt_of_le hk hL9) (by decide)))) sA_s) ?_
  refine x_iadd (pc' := 130) (z := (d + ((r * (mA M 17 x)) / h))) rfl rfl rfl ?_
  refine x_istore (pc' := 132) (ls' := [_, _, _, _, _, _, _]) rfl rfl rfl rfl ?_
  refine x_iinc (pc' := 135) (y := (io (k + 1))) (ls' := [_, _, _, _, _, _, _]) rfl rfl rfl (io_add k 1) rfl ?_
  refine x_goto (pc' := 88) rfl rfl ?_
  exact k0
set_option maxHeartbeats 4000000 in
set_option maxRecDepth 10000 in
theorem r172_88e {t : sT} {Q : sRs → sT → Prop} {M : sM} {n : Nat} {L0 : List Nat} {a : Int32} {h : Int32} {r : Int32} {d : Int32}
    (hM : rp t = M)
    (hc : Cn t)
    (hR : Ri M n)
    (hT0 : TkL t L0)
    (hL9 : L0.length ≤ 200)
    (k0 : X 172 141 [.inr (.inr (12, (some 0))), .inl a, .inl h, .inl r, .inl d, .inl 0, sJk] [] t Q) :
    X 172 88 [.inr (.inr (12, (some 0))), .inl a, .inl h, .inl r, .inl d, .inl (io L0.length), sJk] [] t Q := by
  refine x_iload (pc' := 90) rfl rfl rfl ?_
  refine x_aload_n (pc' := 91) rfl rfl rfl rfl rfl ?_
  refine x_gI (pc' := 94) (x := (io L0.length)) rfl rfl rfl hT0.1 ?_
  refine x_icmp_n (a' := 138) (pc' := 97) (z := decide (L0.length < L0.length)) rfl rfl rfl (ic_gen (p := L0.length) (q := L0.length) (Nat.lt_of_le_of_lt hL9 (by decide)) (Nat.lt_of_le_of_lt hL9 (by decide))) (fun _ => ?_) (fun h => absurd (of_decide_eq_true h) (by first | decide | omega | simp))
  refine x_iconst (pc' := 139) rfl rfl ?_
  refine x_istore (pc' := 141) (ls' := [_, _, _, _, _, _, _]) rfl rfl rfl rfl ?_
  exact k0
set_option maxHeartbeats 4000000 in
set_option maxRecDepth 10000 in
theorem r172_141 {t : sT} {Q : sRs → sT → Prop} {M : sM} {n : Nat} {L0 : List Nat} {k : Nat} {x : Nat} {a : Int32} {h : Int32} {r : Int32} {d : Int32} {y0 : sV}
    (hM : rp t = M)
    (hc : Cn t)
    (hR : Ri M n)
    (hT0 : TkL t L0)
    (hL9 : L0.length ≤ 200)
    (hk : k < L0.length)
    (hx : L0.getD k 0 = x)
    (hxn : x < n)
    (hd0 : ¬ (io L0.length) = 0)
    (k0 : ¬ (d < a) → Q (.inl none) t)
    (k1 : d < a → X 172 141 [.inr (.inr (12, (some 0))), .inl a, .inl h, .inl r, .inl (d + (bz (decide ((sA t 21 28 k) < (mA M 17 x))))), .inl ((io (k + 1)) - (io (k + 1)) / (io L0.length) * (io L0.length)), .inl (bz (decide ((sA t 21 28 k) < (mA M 17 x))))] [] (sAw t 21 28 k ((sA t 21 28 k) + (bz (decide ((sA t 21 28 k) < (mA M 17 x)))))) Q) :
    X 172 141 [.inr (.inr (12, (some 0))), .inl a, .inl h, .inl r, .inl d, .inl (io k), y0] [] t Q := by
  refine x_iload (pc' := 143) rfl rfl rfl ?_
  refine x_iload_n (pc' := 144) rfl rfl rfl ?_
  refine x_icmp_n (a' := 209) (pc' := 147) (z := decide (d < a)) rfl rfl rfl (ik_ge _ _) (fun q1 => ?_) (fun q1 => ?_)
  · refine x_ret rfl ?_
    exact k0 (of_decide_eq_false q1)
  · refine x_aload_n (pc' := 148) rfl rfl rfl rfl rfl ?_
    refine x_gR (pc' := 151) (r := (some 17)) rfl rfl rfl (kR_793_0 hc) ?_
    refine x_aload_n (pc' := 152) rfl rfl rfl rfl rfl ?_
    refine x_gR (pc' := 155) (r := (some 27)) rfl rfl rfl (kR_809_0 hc) ?_
    refine x_iload (pc' := 157) rfl rfl rfl ?_
    refine x_iald (pc' := 158) (N := 200) (x := (io x)) rfl rfl rfl (kN_21_27 hc) (io_in (p := k) (N := 200) (Nat.lt_of_lt_of_le hk hL9) (by decide)) (Eq.trans (congrArg (sA t 21 27) (nn_io (p := k) (Nat.lt_trans (Nat.lt_of_lt_of_le hk hL9) (by decide)))) ((hT0.2 k hk).trans (congrArg io hx))) ?_
    refine x_iald (pc' := 159) (N := 200) (x := (mA M 17 x)) rfl rfl rfl (kN_21_17 hc) (io_in (p := x) (N := 200) (Nat.lt_of_lt_of_le hxn (gn200 hR)) (by decide)) (Eq.trans (congrArg (sA t 21 17) (nn_io (p := x) (Nat.lt_trans (Nat.lt_of_lt_of_le hxn (gn200 hR)) (by decide)))) (gA hM rfl)) ?_
    refine x_aload_n (pc' := 160) rfl rfl rfl rfl rfl ?_
    refine x_gR (pc' := 163) (r := (some 28)) rfl rfl rfl (kR_810_0 hc) ?_
    refine x_iload (pc' := 165) rfl rfl rfl ?_
    refine x_iald (pc' := 166) (N := 200) (x := (sA t 21 28 k)) rfl rfl rfl (kN_21_28 hc) (io_in (p := k) (N := 200) (Nat.lt_of_lt_of_le hk hL9) (by decide)) (Eq.trans (congrArg (sA t 21 28) (nn_io (p := k) (Nat.lt_trans (Nat.lt_of_lt_of_le hk hL9) (by decide)))) rfl) ?_
    have J2 : X 172 174 [.inr (.inr (12, (some 0))), .inl a, .inl h, .inl r, .inl d, .inl (io k), y0] [.inl (bz (decide ((sA t 21 28 k) < (mA M 17 x))))] t Q := by
      refine x_istore (pc' := 176) (ls' := [_, _, _, _, _, _, _]) rfl rfl rfl rfl ?_
      refine x_aload_n (pc' := 177) rfl rfl rfl rfl rfl ?_
      refine x_gR (pc' := 180) (r := (some 28)) rfl rfl rfl (kR_810_0 hc) ?_
      refine x_iload (pc' := 182) rfl rfl rfl ?_
      refine x_dup2 (pc' := 183) rfl rfl rfl rfl ?_
      refine x_iald (pc' := 184) (N := 200) (x := (sA t 21 28 k)) rfl rfl rfl (kN_21_28 hc) (io_in (p := k) (N := 200) (Nat.lt_of_lt_of_le hk hL9) (by decide)) (Eq.trans (congrArg (sA t 21 28) (nn_io (p := k) (Nat.lt_trans (Nat.lt_of_lt_of_le hk hL9) (by decide)))) rfl) ?_
      refine x_iload (pc' := 186) rfl rfl rfl ?_
      refine x_iadd (pc' := 187) (z := ((sA t 21 28 k) + (bz (decide ((sA t 21 28 k) < (mA M 17 x)))))) rfl rfl rfl ?_
      refine x_iast (pc' := 188) (N := 200) (p := k) rfl rfl rfl (kN_21_28 hc) (io_in (p := k) (N := 200) (Nat.lt_of_lt_of_le hk hL9) (by decide)) (nn_io (p := k) (Nat.lt_trans (Nat.lt_of_lt_of_le hk hL9) (by decide))) ?_
      refine x_iload (pc' := 190) rfl rfl rfl ?_
      refine x_iload (pc' := 192) rfl rfl rfl ?_
      refine x_iadd (pc' := 193) (z := (d + (bz (decide ((sA t 21 28 k) < (mA M 17 x)))))) rfl rfl rfl ?_
      refine x_istore (pc' := 195) (ls' := [_, _, _, _, _, _, _]) rfl rfl rfl rfl ?_
      refine x_iload (pc' := 197) rfl rfl rfl ?_
      refine x_iconst (pc' := 198) rfl rfl ?_
      refine x_iadd (pc' := 199) (z := (io (k + 1))) rfl rfl (io_add k 1) ?_
      refine x_aload_n (pc' := 200) rfl rfl rfl rfl rfl ?_
      refine x_gI (pc' := 203) (x := (io L0.length)) rfl rfl rfl (Eq.trans (b := sI t 811 0) rfl hT0.1) ?_
      refine x_irem (pc' := 204) (z := ((io (k + 1)) - (io (k + 1)) / (io L0.length) * (io L0.length))) rfl rfl hd0 rfl ?_
      refine x_istore (pc' := 206) (ls' := [_, _, _, _, _, _, _]) rfl rfl rfl rfl ?_
      refine x_goto (pc' := 141) rfl rfl ?_
      exact k1 (of_decide_eq_true q1)
    refine x_icmp_n (a' := 173) (pc' := 169) (z := decide ((sA t 21 28 k) < (mA M 17 x))) rfl rfl rfl (ik_le _ _) (fun q2 => ?_) (fun q2 => ?_)
    · refine x_iconst (pc' := 174) rfl rfl ?_
      ((try rw [q2] at J2); (try rw [q2]); (try simp only [cd_t, cd_f, nt_t, nt_f, an_t, an_f, or_t, or_f] at J2); (try simp only [cd_t, cd_f, nt_t, nt_f, an_t, an_f, or_t, or_f]); exact J2)
    · refine x_iconst (pc' := 170) rfl rfl ?_
      refine x_goto (pc' := 174) rfl rfl ?_
      ((try rw [q2] at J2); (try rw [q2]); (try simp only [cd_t, cd_f, nt_t, nt_f, an_t, an_f, or_t, or_f] at J2); (try simp only [cd_t, cd_f, nt_t, nt_f, an_t, an_f, or_t, or_f]); exact J2)
set_option maxHeartbeats 4000000 in
set_option maxRecDepth 10000 in
theorem r172_141e {t : sT} {Q : sRs → sT → Prop} {M : sM} {n : Nat} {L0 : List Nat} {a : Int32} {h : Int32} {r : Int32} {d : Int32} {y0 : sV} {y1 : sV}
    (hM : rp t = M)
    (hc : Cn t)
    (hR : Ri M n)
    (hT0 : TkL t L0)
    (hL9 : L0.length ≤ 200)
    (hda : ¬ d < a)
    (k0 : Q (.inl none) t) :
    X 172 141 [.inr (.inr (12, (some 0))), .inl a, .inl h, .inl r, .inl d, y1, y0] [] t Q := by
  refine x_iload (pc' := 143) rfl rfl rfl ?_
  refine x_iload_n (pc' := 144) rfl rfl rfl ?_
  refine x_icmp_n (a' := 209) (pc' := 147) (z := decide (d < a)) rfl rfl rfl (ik_ge _ _) (fun _ => ?_) (fun h => absurd (of_decide_eq_true h) hda)
  refine x_ret rfl ?_
  exact k0
set_option maxHeartbeats 4000000 in
set_option maxRecDepth 10000 in
theorem r174_0 {t : sT} {Q : sRs → sT → Prop} {M : sM} {n : Nat} {L0 : List Nat} {o : Nat} {p : Int32}
    (hM : rp t = M)
    (hc : Cn t)
    (hR : Ri M n)
    (hT0 : TkL t L0)
    (hL9 : L0.length ≤ 200)
    (ho : o < n)
    (k0 : X 174 13 [.inr (.inr (12, (some 0))), .inl (io o), .inl p, .inl (io (oB M o)), .inl 0, .inl 0, sJk, sJk] [] t Q) :
    X 174 0 [.inr (.inr (12, (some 0))), .inl (io o), .inl p, sJk, sJk, sJk, sJk, sJk] [] t Q := by
  refine x_aload_n (pc' := 1) rfl rfl rfl rfl rfl ?_
  refine x_gR (pc' := 4) (r := (some 13)) rfl rfl rfl (kR_788_0 hc) ?_
  refine x_iload_n (pc' := 5) rfl rfl rfl ?_
  refine x_iald (pc' := 6) (N := 200) (x := (io (oB M o))) rfl rfl rfl (kN_21_13 hc) (io_in (p := o) (N := 200) (Nat.lt_of_lt_of_le ho (gn200 hR)) (by decide)) (Eq.trans (congrArg (sA t 21 13) (nn_io (p := o) (Nat.lt_trans (Nat.lt_of_lt_of_le ho (gn200 hR)) (by decide)))) (gF13 hM (Fr.refl _) hR ho)) ?_
  refine x_istore_n (pc' := 7) (ls' := [_, _, _, _, _, _, _, _]) rfl rfl rfl rfl ?_
  refine x_iconst (pc' := 8) rfl rfl ?_
  refine x_istore (pc' := 10) (ls' := [_, _, _, _, _, _, _, _]) rfl rfl rfl rfl ?_
  refine x_iconst (pc' := 11) rfl rfl ?_
  refine x_istore (pc' := 13) (ls' := [_, _, _, _, _, _, _, _]) rfl rfl rfl rfl ?_
  exact k0
set_option maxHeartbeats 4000000 in
set_option maxRecDepth 10000 in
theorem r174_13k {t : sT} {Q : sRs → sT → Prop} {M : sM} {n : Nat} {L0 : List Nat} {k : Nat} {x : Nat} {o : Nat} {b : Nat} {p : Int32} {h : Int32}
    (hM : rp t = M)
    (hc : Cn t)
    (hR : Ri M n)
    (hT0 : TkL t L0)
    (hL9 : L0.length ≤ 200)
    (hk : k < L0.length)
    (hx : L0.getD k 0 = x)
    (hxn : x < n)
    (ho : o < n)
    (hb : b < 5)
    (k0 : X 174 13 [.inr (.inr (12, (some 0))), .inl (io o), .inl p, .inl (io b), .inl (h + (mA M 17 x)), .inl (io (k + 1)), sJk, sJk] [] t Q) :
    X 174 13 [.inr (.inr (12, (some 0))), .inl (io o), .inl p, .inl (io b), .inl h, .inl (io k), sJk, sJk] [] t Q := by
  refine x_iload (pc' := 15) rfl rfl rfl ?_
  refine x_aload_n (pc' := 16) rfl rfl rfl rfl rfl ?_
  refine x_gI (pc' := 19) (x := (io L0.length)) rfl rfl rfl hT0.1 ?_
  refine x_icmp_n (a' := 45) (pc' := 22) (z := decide (k < L0.length)) rfl rfl rfl (ic_gen (p := k) (q := L0.length) (Nat.lt_trans hk (Nat.lt_of_le_of_lt hL9 (by decide))) (Nat.lt_of_le_of_lt hL9 (by decide))) (fun h => absurd hk (of_decide_eq_false h)) (fun _ => ?_)
  refine x_iload (pc' := 24) rfl rfl rfl ?_
  refine x_aload_n (pc' := 25) rfl rfl rfl rfl rfl ?_
  refine x_gR (pc' := 28) (r := (some 17)) rfl rfl rfl (kR_793_0 hc) ?_
  refine x_aload_n (pc' := 29) rfl rfl rfl rfl rfl ?_
  refine x_gR (pc' := 32) (r := (some 27)) rfl rfl rfl (kR_809_0 hc) ?_
  refine x_iload (pc' := 34) rfl rfl rfl ?_
  refine x_iald (pc' := 35) (N := 200) (x := (io x)) rfl rfl rfl (kN_21_27 hc) (io_in (p := k) (N := 200) (Nat.lt_of_lt_of_le hk hL9) (by decide)) (Eq.trans (congrArg (sA t 21 27) (nn_io (p := k) (Nat.lt_trans (Nat.lt_of_lt_of_le hk hL9) (by decide)))) ((hT0.2 k hk).trans (congrArg io hx))) ?_
  refine x_iald (pc' := 36) (N := 200) (x := (mA M 17 x)) rfl rfl rfl (kN_21_17 hc) (io_in (p := x) (N := 200) (Nat.lt_of_lt_of_le hxn (gn200 hR)) (by decide)) (Eq.trans (congrArg (sA t 21 17) (nn_io (p := x) (Nat.lt_trans (Nat.lt_of_lt_of_le hxn (gn200 hR)) (by decide)))) (gA hM rfl)) ?_
  refine x_iadd (pc' := 37) (z := (h + (mA M 17 x))) rfl rfl rfl ?_
  refine x_istore (pc' := 39) (ls' := [_, _, _, _, _, _, _, _]) rfl rfl rfl rfl ?_
  refine x_iinc (pc' := 42) (y := (io (k + 1))) (ls' := [_, _, _, _, _, _, _, _]) rfl rfl rfl (io_add k 1) rfl ?_
  refine x_goto (pc' := 13) rfl rfl ?_
  exact k0
set_option maxHeartbeats 4000000 in
set_option maxRecDepth 10000 in
theorem r174_13e {t : sT} {Q : sRs → sT → Prop} {M : sM} {n : Nat} {L0 : List Nat} {o : Nat} {b : Nat} {p : Int32} {h : Int32}
    (hM : rp t = M)
    (hc : Cn t)
    (hR : Ri M n)
    (hT0 : TkL t L0)
    (hL9 : L0.length ≤ 200)
    (ho : o < n)
    (hb : b < 5)
    (k0 : X 172 0 [.inr (.inr (12, (some 0))), .inl (mnc h (mA M 15 o)), sJk, sJk, sJk, sJk, sJk] [] t (sK 172 174 72 [.inr (.inr (12, (some 0))), .inl (io o), .inl p, .inl (io b), .inl h, .inl (mnc h (mA M 15 o)), sJk, sJk] [] Q)) :
    X 174 13 [.inr (.inr (12, (some 0))), .inl (io o), .inl p, .inl (io b), .inl h, .inl (io L0.length), sJk, sJk] [] t Q := by
  refine x_iload (pc' := 15) rfl rfl rfl ?_
  refine x_aload_n (pc' := 16) rfl rfl rfl rfl rfl ?_
  refine x_gI (pc' := 19) (x := (io L0.length)) rfl rfl rfl hT0.1 ?_
  refine x_icmp_n (a' := 45) (pc' := 22) (z := decide (L0.length < L0.length)) rfl rfl rfl (ic_gen (p := L0.length) (q := L0.length) (Nat.lt_of_le_of_lt hL9 (by decide)) (Nat.lt_of_le_of_lt hL9 (by decide))) (fun _ => ?_) (fun h => absurd (of_decide_eq_true h) (by first | decide | omega | simp))
  refine x_iload (pc' := 47) rfl rfl rfl ?_
  refine x_aload_n (pc' := 48) rfl rfl rfl rfl rfl ?_
  refine x_gR (pc' := 51) (r := (some 15)) rfl rfl rfl (kR_791_0 hc) ?_
  refine x_iload_n (pc' := 52) rfl rfl rfl ?_
  refine x_iald (pc' := 53) (N := 200) (x := (mA M 15 o)) rfl rfl rfl (kN_21_15 hc) (io_in (p := o) (N := 200) (Nat.lt_of_lt_of_le ho (gn200 hR)) (by decide)) (Eq.trans (congrArg (sA t 21 15) (nn_io (p := o) (Nat.lt_trans (Nat.lt_of_lt_of_le ho (gn200 hR)) (by decide)))) (gA hM rfl)) ?_
  have J2 : X 174 67 [.inr (.inr (12, (some 0))), .inl (io o), .inl p, .inl (io b), .inl h, .inl (io L0.length), sJk, sJk] [.inl (mnc h (mA M 15 o))] t Q := by
    refine x_istore (pc' := 69) (ls' := [_, _, _, _, _, _, _, _]) rfl rfl rfl rfl ?_
    refine x_aload_n (pc' := 70) rfl rfl rfl rfl rfl ?_
    refine x_iload (pc' := 72) rfl rfl rfl ?_
    refine x_cv (ls0 := [_, _, sJk, sJk, sJk, sJk, sJk]) (rest := []) rfl rfl rfl rfl rfl ?_
    exact k0
  refine x_icmp_n (a' := 61) (pc' := 56) (z := decide (h < (mA M 15 o))) rfl rfl rfl (ik_ge _ _) (fun q2 => ?_) (fun q2 => ?_)
  · refine x_aload_n (pc' := 62) rfl rfl rfl rfl rfl ?_
    refine x_gR (pc' := 65) (r := (some 15)) rfl rfl rfl (kR_791_0 hc) ?_
    refine x_iload_n (pc' := 66) rfl rfl rfl ?_
    refine x_iald (pc' := 67) (N := 200) (x := (mA M 15 o)) rfl rfl rfl (kN_21_15 hc) (io_in (p := o) (N := 200) (Nat.lt_of_lt_of_le ho (gn200 hR)) (by decide)) (Eq.trans (congrArg (sA t 21 15) (nn_io (p := o) (Nat.lt_trans (Nat.lt_of_lt_of_le ho (gn200 hR)) (by decide)))) (gA hM rfl)) ?_
    ((try rw [mnc_f q2] at J2); (try simp only [cd_t, cd_f, nt_t, nt_f, an_t, an_f, or_t, or_f] at J2); (try simp only [cd_t, cd_f, nt_t, nt_f, an_t, an_f, or_t, or_f]); exact J2)
  · refine x_iload (pc' := 58) rfl rfl rfl ?_
    refine x_goto (pc' := 67) rfl rfl ?_
    ((try rw [mnc_t q2] at J2); (try simp only [cd_t, cd_f, nt_t, nt_f, an_t, an_f, or_t, or_f] at J2); (try simp only [cd_t, cd_f, nt_t, nt_f, an_t, an_f, or_t, or_f]); exact J2)
set_option maxHeartbeats 4000000 in
set_option maxRecDepth 10000 in
theorem r174_75 {t : sT} {Q : sRs → sT → Prop} {M : sM} {n : Nat} {L0 : List Nat} {o : Nat} {b : Nat} {p : Int32} {h : Int32} {z : Int32}
    (hM : rp t = M)
    (hc : Cn t)
    (hR : Ri M n)
    (hT0 : TkL t L0)
    (hL9 : L0.length ≤ 200)
    (ho : o < n)
    (hb : b < 5)
    (k0 : X 174 78 [.inr (.inr (12, (some 0))), .inl (io o), .inl p, .inl (io b), .inl h, .inl z, .inl 0, sJk] [] t Q) :
    X 174 75 [.inr (.inr (12, (some 0))), .inl (io o), .inl p, .inl (io b), .inl h, .inl z, sJk, sJk] [] t Q := by
  refine x_iconst (pc' := 76) rfl rfl ?_
  refine x_istore (pc' := 78) (ls' := [_, _, _, _, _, _, _, _]) rfl rfl rfl rfl ?_
  exact k0
set_option maxHeartbeats 4000000 in
set_option maxRecDepth 10000 in
theorem r174_78k {t : sT} {Q : sRs → sT → Prop} {M : sM} {n : Nat} {L0 : List Nat} {k : Nat} {x : Nat} {o : Nat} {b : Nat} {p : Int32} {h : Int32} {z : Int32} {y0 : sV}
    (hM : rp t = M)
    (hc : Cn t)
    (hR : Ri M n)
    (hT0 : TkL t L0)
    (hL9 : L0.length ≤ 200)
    (hk : k < L0.length)
    (hx : L0.getD k 0 = x)
    (hxn : x < n)
    (ho : o < n)
    (hb : b < 5)
    (k0 : ¬ (0 < (sA t 21 28 k)) → X 174 78 [.inr (.inr (12, (some 0))), .inl (io o), .inl p, .inl (io b), .inl h, .inl z, .inl (io (k + 1)), .inl (io x)] [] t Q)
    (k1 : 0 < (sA t 21 28 k) → ¬ (b < 3) → X 165 0 [.inr (.inr (12, (some 0))), .inl (io b), .inl (bz (mB M 3 o)), .inl (io (oM M o)), .inl (io (oM M x)), .inl p, .inl (sA t 21 28 k), sJk, sJk] [] t (sK 165 174 186 [.inr (.inr (12, (some 0))), .inl (io o), .inl p, .inl (io b), .inl h, .inl z, .inl (io k), .inl (io x)] [] Q))
    (k2 : 0 < (sA t 21 28 k) → b < 3 → X 164 0 [.inr (.inr (12, (some 0))), .inl (io b), .inl (bz (mB M 3 o)), .inl (io (oM M o)), .inl (io (oM M x)), .inl p, .inl (sA t 21 28 k), .inl 1] [] t (sK 164 174 141 [.inr (.inr (12, (some 0))), .inl (io o), .inl p, .inl (io b), .inl h, .inl z, .inl (io k), .inl (io x)] [] Q)) :
    X 174 78 [.inr (.inr (12, (some 0))), .inl (io o), .inl p, .inl (io b), .inl h, .inl z, .inl (io k), y0] [] t Q := by
  refine x_iload (pc' := 80) rfl rfl rfl ?_
  refine x_aload_n (pc' := 81) rfl rfl rfl rfl rfl ?_
  refine x_gI (pc' := 84) (x := (io L0.length)) rfl rfl rfl hT0.1 ?_
  refine x_icmp_n (a' := 195) (pc' := 87) (z := decide (k < L0.length)) rfl rfl rfl (ic_gen (p := k) (q := L0.length) (Nat.lt_trans hk (Nat.lt_of_le_of_lt hL9 (by decide))) (Nat.lt_of_le_of_lt hL9 (by decide))) (fun h => absurd hk (of_decide_eq_false h)) (fun _ => ?_)
  refine x_aload_n (pc' := 88) rfl rfl rfl rfl rfl ?_
  refine x_gR (pc' := 91) (r := (some 27)) rfl rfl rfl (kR_809_0 hc) ?_
  refine x_iload (pc' := 93) rfl rfl rfl ?_
  refine x_iald (pc' := 94) (N := 200) (x := (io x)) rfl rfl rfl (kN_21_27 hc) (io_in (p := k) (N := 200) (Nat.lt_of_lt_of_le hk hL9) (by decide)) (Eq.trans (congrArg (sA t 21 27) (nn_io (p := k) (Nat.lt_trans (Nat.lt_of_lt_of_le hk hL9) (by decide)))) ((hT0.2 k hk).trans (congrArg io hx))) ?_
  refine x_istore (pc' := 96) (ls' := [_, _, _, _, _, _, _, _]) rfl rfl rfl rfl ?_
  refine x_aload_n (pc' := 97) rfl rfl rfl rfl rfl ?_
  refine x_gR (pc' := 100) (r := (some 28)) rfl rfl rfl (kR_810_0 hc) ?_
  refine x_iload (pc' := 102) rfl rfl rfl ?_
  refine x_iald (pc' := 103) (N := 200) (x := (sA t 21 28 k)) rfl rfl rfl (kN_21_28 hc) (io_in (p := k) (N := 200) (Nat.lt_of_lt_of_le hk hL9) (by decide)) (Eq.trans (congrArg (sA t 21 28) (nn_io (p := k) (Nat.lt_trans (Nat.lt_of_lt_of_le hk hL9) (by decide)))) rfl) ?_
  refine x_if_n (a' := 147) (pc' := 106) (z := decide (0 < (sA t 21 28 k))) rfl rfl rfl (ik_le _ _) (fun q2 => ?_) (fun q2 => ?_)
  · refine x_aload_n (pc' := 148) rfl rfl rfl rfl rfl ?_
    refine x_gR (pc' := 151) (r := (some 28)) rfl rfl rfl (kR_810_0 hc) ?_
    refine x_iload (pc' := 153) rfl rfl rfl ?_
    refine x_iald (pc' := 154) (N := 200) (x := (sA t 21 28 k)) rfl rfl rfl (kN_21_28 hc) (io_in (p := k) (N := 200) (Nat.lt_of_lt_of_le hk hL9) (by decide)) (Eq.trans (congrArg (sA t 21 28) (nn_io (p := k) (Nat.lt_trans (Nat.lt_of_lt_of_le hk hL9) (by decide)))) rfl) ?_
    refine x_if_n (a' := 189) (pc' := 157) (z := decide (0 < (sA t 21 28 k))) rfl rfl rfl (ik_le _ _) (fun _ => ?_) (fun h => absurd (of_decide_eq_true h) (of_decide_eq_false q2))
    refine x_iinc (pc' := 192) (y := (io (k + 1))) (ls' := [_, _, _, _, _, _, _, _]) rfl rfl rfl (io_add k 1) rfl ?_
    refine x_goto (pc' := 78) rfl rfl ?_
    exact k0 (of_decide_eq_false q2)
  · refine x_iload_n (pc' := 107) rfl rfl rfl ?_
    refine x_iconst (pc' := 108) rfl rfl ?_
    refine x_icmp_n (a' := 147) (pc' := 111) (z := decide (b < 3)) rfl rfl rfl (ic_gen (p := b) (q := 3) (gb31 hb) (by decide)) (fun q4 => ?_) (fun q4 => ?_)
    · refine x_aload_n (pc' := 148) rfl rfl rfl rfl rfl ?_
      refine x_gR (pc' := 151) (r := (some 28)) rfl rfl rfl (kR_810_0 hc) ?_
      refine x_iload (pc' := 153) rfl rfl rfl ?_
      refine x_iald (pc' := 154) (N := 200) (x := (sA t 21 28 k)) rfl rfl rfl (kN_21_28 hc) (io_in (p := k) (N := 200) (Nat.lt_of_lt_of_le hk hL9) (by decide)) (Eq.trans (congrArg (sA t 21 28) (nn_io (p := k) (Nat.lt_trans (Nat.lt_of_lt_of_le hk hL9) (by decide)))) rfl) ?_
      refine x_if_n (a' := 189) (pc' := 157) (z := decide (0 < (sA t 21 28 k))) rfl rfl rfl (ik_le _ _) (fun h => absurd (of_decide_eq_true q2) (of_decide_eq_false h)) (fun _ => ?_)
      refine x_aload_n (pc' := 158) rfl rfl rfl rfl rfl ?_
      refine x_iload_n (pc' := 159) rfl rfl rfl ?_
      refine x_aload_n (pc' := 160) rfl rfl rfl rfl rfl ?_
      refine x_gR (pc' := 163) (r := (some 3)) rfl rfl rfl (kR_789_0 hc) ?_
      refine x_iload_n (pc' := 164) rfl rfl rfl ?_
      refine x_bald (pc' := 165) (N := 200) (z := (mB M 3 o)) rfl rfl (kN_22_3 hc) (io_in (p := o) (N := 200) (Nat.lt_of_lt_of_le ho (gn200 hR)) (by decide)) (Eq.trans (congrArg (sB t 22 3) (nn_io (p := o) (Nat.lt_trans (Nat.lt_of_lt_of_le ho (gn200 hR)) (by decide)))) (gF3 hM (Fr.refl _))) ?_
      refine x_aload_n (pc' := 166) rfl rfl rfl rfl rfl ?_
      refine x_gR (pc' := 169) (r := (some 12)) rfl rfl rfl (kR_787_0 hc) ?_
      refine x_iload_n (pc' := 170) rfl rfl rfl ?_
      refine x_iald (pc' := 171) (N := 200) (x := (io (oM M o))) rfl rfl rfl (kN_21_12 hc) (io_in (p := o) (N := 200) (Nat.lt_of_lt_of_le ho (gn200 hR)) (by decide)) (Eq.trans (congrArg (sA t 21 12) (nn_io (p := o) (Nat.lt_trans (Nat.lt_of_lt_of_le ho (gn200 hR)) (by decide)))) (gF12 hM (Fr.refl _) hR ho)) ?_
      refine x_aload_n (pc' := 172) rfl rfl rfl rfl rfl ?_
      refine x_gR (pc' := 175) (r := (some 12)) rfl rfl rfl (kR_787_0 hc) ?_
      refine x_iload (pc' := 177) rfl rfl rfl ?_
      refine x_iald (pc' := 178) (N := 200) (x := (io (oM M x))) rfl rfl rfl (kN_21_12 hc) (io_in (p := x) (N := 200) (Nat.lt_of_lt_of_le hxn (gn200 hR)) (by decide)) (Eq.trans (congrArg (sA t 21 12) (nn_io (p := x) (Nat.lt_trans (Nat.lt_of_lt_of_le hxn (gn200 hR)) (by decide)))) (gF12 hM (Fr.refl _) hR hxn)) ?_
      refine x_iload_n (pc' := 179) rfl rfl rfl ?_
      refine x_aload_n (pc' := 180) rfl rfl rfl rfl rfl ?_
      refine x_gR (pc' := 183) (r := (some 28)) rfl rfl rfl (kR_810_0 hc) ?_
      refine x_iload (pc' := 185) rfl rfl rfl ?_
      refine x_iald (pc' := 186) (N := 200) (x := (sA t 21 28 k)) rfl rfl rfl (kN_21_28 hc) (io_in (p := k) (N := 200) (Nat.lt_of_lt_of_le hk hL9) (by decide)) (Eq.trans (congrArg (sA t 21 28) (nn_io (p := k) (Nat.lt_trans (Nat.lt_of_lt_of_le hk hL9) (by decide)))) rfl) ?_
      refine x_cv (ls0 := [_, _, _, _, _, _, _, sJk, sJk]) (rest := []) rfl rfl rfl rfl rfl ?_
      exact k1 (of_decide_eq_true q2) (of_decide_eq_false q4)
    · refine x_aload_n (pc' := 112) rfl rfl rfl rfl rfl ?_
      refine x_iload_n (pc' := 113) rfl rfl rfl ?_
      refine x_aload_n (pc' := 114) rfl rfl rfl rfl rfl ?_
      refine x_gR (pc' := 117) (r := (some 3)) rfl rfl rfl (kR_789_0 hc) ?_
      refine x_iload_n (pc' := 118) rfl rfl rfl ?_
      refine x_bald (pc' := 119) (N := 200) (z := (mB M 3 o)) rfl rfl (kN_22_3 hc) (io_in (p := o) (N := 200) (Nat.lt_of_lt_of_le ho (gn200 hR)) (by decide)) (Eq.trans (congrArg (sB t 22 3) (nn_io (p := o) (Nat.lt_trans (Nat.lt_of_lt_of_le ho (gn200 hR)) (by decide)))) (gF3 hM (Fr.refl _))) ?_
      refine x_aload_n (pc' := 120) rfl rfl rfl rfl rfl ?_
      refine x_gR (pc' := 123) (r := (some 12)) rfl rfl rfl (kR_787_0 hc) ?_
      refine x_iload_n (pc' := 124) rfl rfl rfl ?_
      refine x_iald (pc' := 125) (N := 200) (x := (io (oM M o))) rfl rfl rfl (kN_21_12 hc) (io_in (p := o) (N := 200) (Nat.lt_of_lt_of_le ho (gn200 hR)) (by decide)) (Eq.trans (congrArg (sA t 21 12) (nn_io (p := o) (Nat.lt_trans (Nat.lt_of_lt_of_le ho (gn200 hR)) (by decide)))) (gF12 hM (Fr.refl _) hR ho)) ?_
      refine x_aload_n (pc' := 126) rfl rfl rfl rfl rfl ?_
      refine x_gR (pc' := 129) (r := (some 12)) rfl rfl rfl (kR_787_0 hc) ?_
      refine x_iload (pc' := 131) rfl rfl rfl ?_
      refine x_iald (pc' := 132) (N := 200) (x := (io (oM M x))) rfl rfl rfl (kN_21_12 hc) (io_in (p := x) (N := 200) (Nat.lt_of_lt_of_le hxn (gn200 hR)) (by decide)) (Eq.trans (congrArg (sA t 21 12) (nn_io (p := x) (Nat.lt_trans (Nat.lt_of_lt_of_le hxn (gn200 hR)) (by decide)))) (gF12 hM (Fr.refl _) hR hxn)) ?_
      refine x_iload_n (pc' := 133) rfl rfl rfl ?_
      refine x_aload_n (pc' := 134) rfl rfl rfl rfl rfl ?_
      refine x_gR (pc' := 137) (r := (some 28)) rfl rfl rfl (kR_810_0 hc) ?_
      refine x_iload (pc' := 139) rfl rfl rfl ?_
      refine x_iald (pc' := 140) (N := 200) (x := (sA t 21 28 k)) rfl rfl rfl (kN_21_28 hc) (io_in (p := k) (N := 200) (Nat.lt_of_lt_of_le hk hL9) (by decide)) (Eq.trans (congrArg (sA t 21 28) (nn_io (p := k) (Nat.lt_trans (Nat.lt_of_lt_of_le hk hL9) (by decide)))) rfl) ?_
      refine x_iconst (pc' := 141) rfl rfl ?_
      refine x_cv (ls0 := [_, _, _, _, _, _, _, _]) (rest := []) rfl rfl rfl rfl rfl ?_
      exact k2 (of_decide_eq_true q2) (of_decide_eq_true q4)
set_option maxHeartbeats 4000000 in
set_option maxRecDepth 10000 in
theorem r174_78e {t : sT} {Q : sRs → sT → Prop} {M : sM} {n : Nat} {L0 : List Nat} {o : Nat} {b : Nat} {p : Int32} {h : Int32} {z : Int32} {y0 : sV}
    (hM : rp t = M)
    (hc : Cn t)
    (hR : Ri M n)
    (hT0 : TkL t L0)
    (hL9 : L0.length ≤ 200)
    (ho : o < n)
    (hb : b < 5)
    (k0 : X 174 198 [.inr (.inr (12, (some 0))), .inl (io o), .inl p, .inl (io b), .inl h, .inl z, .inl 0, y0] [] t Q) :
    X 174 78 [.inr (.inr (12, (some 0))), .inl (io o), .inl p, .inl (io b), .inl h, .inl z, .inl (io L0.length), y0] [] t Q := by
  refine x_iload (pc' := 80) rfl rfl rfl ?_
  refine x_aload_n (pc' := 81) rfl rfl rfl rfl rfl ?_
  refine x_gI (pc' := 84) (x := (io L0.length)) rfl rfl rfl hT0.1 ?_
  refine x_icmp_n (a' := 195) (pc' := 87) (z := decide (L0.length < L0.length)) rfl rfl rfl (ic_gen (p := L0.length) (q := L0.length) (Nat.lt_of_le_of_lt hL9 (by decide)) (Nat.lt_of_le_of_lt hL9 (by decide))) (fun _ => ?_) (fun h => absurd (of_decide_eq_true h) (by first | decide | omega | simp))
  refine x_iconst (pc' := 196) rfl rfl ?_
  refine x_istore (pc' := 198) (ls' := [_, _, _, _, _, _, _, _]) rfl rfl rfl rfl ?_
  exact k0
set_option maxHeartbeats 4000000 in
set_option maxRecDepth 10000 in
theorem r174_189 {t : sT} {Q : sRs → sT → Prop} {M : sM} {n : Nat} {L0 : List Nat} {k : Nat} {x : Nat} {o : Nat} {b : Nat} {p : Int32} {h : Int32} {z : Int32} {y0 : sV}
    (hM : rp t = M)
    (hc : Cn t)
    (hR : Ri M n)
    (hT0 : TkL t L0)
    (hL9 : L0.length ≤ 200)
    (hk : k < L0.length)
    (hx : L0.getD k 0 = x)
    (hxn : x < n)
    (ho : o < n)
    (hb : b < 5)
    (k0 : X 174 78 [.inr (.inr (12, (some 0))), .inl (io o), .inl p, .inl (io b), .inl h, .inl z, .inl (io (k + 1)), y0] [] t Q) :
    X 174 189 [.inr (.inr (12, (some 0))), .inl (io o), .inl p, .inl (io b), .inl h, .inl z, .inl (io k), y0] [] t Q := by
  refine x_iinc (pc' := 192) (y := (io (k + 1))) (ls' := [_, _, _, _, _, _, _, _]) rfl rfl rfl (io_add k 1) rfl ?_
  refine x_goto (pc' := 78) rfl rfl ?_
  exact k0
set_option maxHeartbeats 4000000 in
set_option maxRecDepth 10000 in
theorem r174_198k {t : sT} {Q : sRs → sT → Prop} {M : sM} {n : Nat} {L0 : List Nat} {k : Nat} {x : Nat} {o : Nat} {b : Nat} {p : Int32} {h : Int32} {z : Int32} {y0 : sV}
    (hM : rp t = M)
    (hc : Cn t)
    (hR : Ri M n)
    (hT0 : TkL t L0)
    (hL9 : L0.length ≤ 200)
    (hk : k < L0.length)
    (hx : L0.getD k 0 = x)
    (hxn : x < n)
    (ho : o < n)
    (hb : b < 5)
    (k0 : ¬ (0 < (sA t 21 28 k)) → X 174 198 [.inr (.inr (12, (some 0))), .inl (io o), .inl p, .inl (io b), .inl h, .inl z, .inl (io (k + 1)), y0] [] t Q)
    (k1 : 0 < (sA t 21 28 k) → X 168 0 [.inr (.inr (12, (some 0))), .inl (io x), .inl (sA t 21 28 k)] [] t (sK 168 174 232 [.inr (.inr (12, (some 0))), .inl (io o), .inl p, .inl (io b), .inl h, .inl z, .inl (io k), y0] [] Q)) :
    X 174 198 [.inr (.inr (12, (some 0))), .inl (io o), .inl p, .inl (io b), .inl h, .inl z, .inl (io k), y0] [] t Q := by
  refine x_iload (pc' := 200) rfl rfl rfl ?_
  refine x_aload_n (pc' := 201) rfl rfl rfl rfl rfl ?_
  refine x_gI (pc' := 204) (x := (io L0.length)) rfl rfl rfl hT0.1 ?_
  refine x_icmp_n (a' := 241) (pc' := 207) (z := decide (k < L0.length)) rfl rfl rfl (ic_gen (p := k) (q := L0.length) (Nat.lt_trans hk (Nat.lt_of_le_of_lt hL9 (by decide))) (Nat.lt_of_le_of_lt hL9 (by decide))) (fun h => absurd hk (of_decide_eq_false h)) (fun _ => ?_)
  refine x_aload_n (pc' := 208) rfl rfl rfl rfl rfl ?_
  refine x_gR (pc' := 211) (r := (some 28)) rfl rfl rfl (kR_810_0 hc) ?_
  refine x_iload (pc' := 213) rfl rfl rfl ?_
  refine x_iald (pc' := 214) (N := 200) (x := (sA t 21 28 k)) rfl rfl rfl (kN_21_28 hc) (io_in (p := k) (N := 200) (Nat.lt_of_lt_of_le hk hL9) (by decide)) (Eq.trans (congrArg (sA t 21 28) (nn_io (p := k) (Nat.lt_trans (Nat.lt_of_lt_of_le hk hL9) (by decide)))) rfl) ?_
  refine x_if_n (a' := 235) (pc' := 217) (z := decide (0 < (sA t 21 28 k))) rfl rfl rfl (ik_le _ _) (fun q2 => ?_) (fun q2 => ?_)
  · refine x_iinc (pc' := 238) (y := (io (k + 1))) (ls' := [_, _, _, _, _, _, _, _]) rfl rfl rfl (io_add k 1) rfl ?_
    refine x_goto (pc' := 198) rfl rfl ?_
    exact k0 (of_decide_eq_false q2)
  · refine x_aload_n (pc' := 218) rfl rfl rfl rfl rfl ?_
    refine x_aload_n (pc' := 219) rfl rfl rfl rfl rfl ?_
    refine x_gR (pc' := 222) (r := (some 27)) rfl rfl rfl (kR_809_0 hc) ?_
    refine x_iload (pc' := 224) rfl rfl rfl ?_
    refine x_iald (pc' := 225) (N := 200) (x := (io x)) rfl rfl rfl (kN_21_27 hc) (io_in (p := k) (N := 200) (Nat.lt_of_lt_of_le hk hL9) (by decide)) (Eq.trans (congrArg (sA t 21 27) (nn_io (p := k) (Nat.lt_trans (Nat.lt_of_lt_of_le hk hL9) (by decide)))) ((hT0.2 k hk).trans (congrArg io hx))) ?_
    refine x_aload_n (pc' := 226) rfl rfl rfl rfl rfl ?_
    refine x_gR (pc' := 229) (r := (some 28)) rfl rfl rfl (kR_810_0 hc) ?_
    refine x_iload (pc' := 231) rfl rfl rfl ?_
    refine x_iald (pc' := 232) (N := 200) (x := (sA t 21 28 k)) rfl rfl rfl (kN_21_28 hc) (io_in (p := k) (N := 200) (Nat.lt_of_lt_of_le hk hL9) (by decide)) (Eq.trans (congrArg (sA t 21 28) (nn_io (p := k) (Nat.lt_trans (Nat.lt_of_lt_of_le hk hL9) (by decide)))) rfl) ?_
    refine x_cv (ls0 := [_, _, _]) (rest := []) rfl rfl rfl rfl rfl ?_
    exact k1 (of_decide_eq_true q2)
set_option maxHeartbeats 4000000 in
set_option maxRecDepth 10000 in
theorem r174_235 {t : sT} {Q : sRs → sT → Prop} {M : sM} {n : Nat} {L0 : List Nat} {k : Nat} {x : Nat} {o : Nat} {b : Nat} {p : Int32} {h : Int32} {z : Int32} {y0 : sV}
    (hM : rp t = M)
    (hc : Cn t)
    (hR : Ri M n)
    (hT0 : TkL t L0)
    (hL9 : L0.length ≤ 200)
    (hk : k < L0.length)
    (hx : L0.getD k 0 = x)
    (hxn : x < n)
    (ho : o < n)
    (hb : b < 5)
    (k0 : X 174 198 [.inr (.inr (12, (some 0))), .inl (io o), .inl p, .inl (io b), .inl h, .inl z, .inl (io (k + 1)), y0] [] t Q) :
    X 174 235 [.inr (.inr (12, (some 0))), .inl (io o), .inl p, .inl (io b), .inl h, .inl z, .inl (io k), y0] [] t Q := by
  refine x_iinc (pc' := 238) (y := (io (k + 1))) (ls' := [_, _, _, _, _, _, _, _]) rfl rfl rfl (io_add k 1) rfl ?_
  refine x_goto (pc' := 198) rfl rfl ?_
  exact k0
set_option maxHeartbeats 4000000 in
set_option maxRecDepth 10000 in
theorem r174_198e {t : sT} {Q : sRs → sT → Prop} {M : sM} {n : Nat} {L0 : List Nat} {o : Nat} {b : Nat} {p : Int32} {h : Int32} {z : Int32} {y0 : sV}
    (hM : rp t = M)
    (hc : Cn t)
    (hR : Ri M n)
    (hT0 : TkL t L0)
    (hL9 : L0.length ≤ 200)
    (ho : o < n)
    (hb : b < 5)
    (k0 : X 167 0 [.inr (.inr (12, (some 0))), .inl (io o), .inl z] [] t (sK 167 174 245 [.inr (.inr (12, (some 0))), .inl (io o), .inl p, .inl (io b), .inl h, .inl z, .inl (io L0.length), y0] [] Q)) :
    X 174 198 [.inr (.inr (12, (some 0))), .inl (io o), .inl p, .inl (io b), .inl h, .inl z, .inl (io L0.length), y0] [] t Q := by
  refine x_iload (pc' := 200) rfl rfl rfl ?_
  refine x_aload_n (pc' := 201) rfl rfl rfl rfl rfl ?_
  refine x_gI (pc' := 204) (x := (io L0.length)) rfl rfl rfl hT0.1 ?_
  refine x_icmp_n (a' := 241) (pc' := 207) (z := decide (L0.length < L0.length)) rfl rfl rfl (ic_gen (p := L0.length) (q := L0.length) (Nat.lt_of_le_of_lt hL9 (by decide)) (Nat.lt_of_le_of_lt hL9 (by decide))) (fun _ => ?_) (fun h => absurd (of_decide_eq_true h) (by first | decide | omega | simp))
  refine x_aload_n (pc' := 242) rfl rfl rfl rfl rfl ?_
  refine x_iload_n (pc' := 243) rfl rfl rfl ?_
  refine x_iload (pc' := 245) rfl rfl rfl ?_
  refine x_cv (ls0 := [_, _, _]) (rest := []) rfl rfl rfl rfl rfl ?_
  exact k0
set_option maxHeartbeats 4000000 in
set_option maxRecDepth 10000 in
theorem r174_248 {t : sT} {Q : sRs → sT → Prop} {M : sM} {n : Nat} {o : Nat} {b : Nat} {p : Int32} {h : Int32} {z : Int32} {y0 : sV} {y1 : sV}
    (hM : rp t = M)
    (hc : Cn t)
    (hR : Ri M n)
    (ho : o < n)
    (hb : b < 5)
    (k0 : X 166 0 [.inr (.inr (12, (some 0))), .inl (io b), .inl p, sJk, sJk] [] t (sK 166 174 251 [.inr (.inr (12, (some 0))), .inl (io o), .inl p, .inl (io b), .inl h, .inl z, y1, y0] [] Q)) :
    X 174 248 [.inr (.inr (12, (some 0))), .inl (io o), .inl p, .inl (io b), .inl h, .inl z, y1, y0] [] t Q := by
  refine x_aload_n (pc' := 249) rfl rfl rfl rfl rfl ?_
  refine x_iload_n (pc' := 250) rfl rfl rfl ?_
  refine x_iload_n (pc' := 251) rfl rfl rfl ?_
  refine x_cv (ls0 := [_, _, _, sJk, sJk]) (rest := []) rfl rfl rfl rfl rfl ?_
  exact k0
set_option maxHeartbeats 4000000 in
set_option maxRecDepth 10000 in
theorem r174_254 {t : sT} {Q : sRs → sT → Prop} {M : sM} {n : Nat} {o : Nat} {b : Nat} {p : Int32} {h : Int32} {z : Int32} {y0 : sV} {y1 : sV}
    (hM : rp t = M)
    (hc : Cn t)
    (hR : Ri M n)
    (ho : o < n)
    (hb : b < 5)
    (k0 : Q (.inl none) t) :
    X 174 254 [.inr (.inr (12, (some 0))), .inl (io o), .inl p, .inl (io b), .inl h, .inl z, y1, y0] [] t Q := by
  refine x_ret rfl ?_
  exact k0
set_option maxHeartbeats 4000000 in
set_option maxRecDepth 10000 in
theorem r173s_0 {t : sT} {Q : sRs → sT → Prop} {M : sM} {n : Nat} {o : Nat}
    (hM : rp t = M)
    (hc : Cn t)
    (hR : Ri M n)
    (ho : o < n)
    (k0 : X 161 0 [.inr (.inr (12, (some 0))), .inl (io (oB M o)), .inl (bz (mB M 3 o)), sJk, sJk, sJk, sJk, sJk] [] t (sK 161 173 17 [.inr (.inr (12, (some 0))), .inl (io o), .inl (io (oB M o)), .inl (bz (mB M 3 o)), sJk, sJk, sJk, sJk, sJk, sJk, sJk, sJk, sJk] [] Q)) :
    X 173 0 [.inr (.inr (12, (some 0))), .inl (io o), sJk, sJk, sJk, sJk, sJk, sJk, sJk, sJk, sJk, sJk, sJk] [] t Q := by
  refine x_aload_n (pc' := 1) rfl rfl rfl rfl rfl ?_
  refine x_gR (pc' := 4) (r := (some 13)) rfl rfl rfl (kR_788_0 hc) ?_
  refine x_iload_n (pc' := 5) rfl rfl rfl ?_
  refine x_iald (pc' := 6) (N := 200) (x := (io (oB M o))) rfl rfl rfl (kN_21_13 hc) (io_in (p := o) (N := 200) (Nat.lt_of_lt_of_le ho (gn200 hR)) (by decide)) (Eq.trans (congrArg (sA t 21 13) (nn_io (p := o) (Nat.lt_trans (Nat.lt_of_lt_of_le ho (gn200 hR)) (by decide)))) (gF13 hM (Fr.refl _) hR ho)) ?_
  refine x_istore_n (pc' := 7) (ls' := [_, _, _, _, _, _, _, _, _, _, _, _, _]) rfl rfl rfl rfl ?_
  refine x_aload_n (pc' := 8) rfl rfl rfl rfl rfl ?_
  refine x_gR (pc' := 11) (r := (some 3)) rfl rfl rfl (kR_789_0 hc) ?_
  refine x_iload_n (pc' := 12) rfl rfl rfl ?_
  refine x_bald (pc' := 13) (N := 200) (z := (mB M 3 o)) rfl rfl (kN_22_3 hc) (io_in (p := o) (N := 200) (Nat.lt_of_lt_of_le ho (gn200 hR)) (by decide)) (Eq.trans (congrArg (sB t 22 3) (nn_io (p := o) (Nat.lt_trans (Nat.lt_of_lt_of_le ho (gn200 hR)) (by decide)))) (gF3 hM (Fr.refl _))) ?_
  refine x_istore_n (pc' := 14) (ls' := [_, _, _, _, _, _, _, _, _, _, _, _, _]) rfl rfl rfl rfl ?_
  refine x_aload_n (pc' := 15) rfl rfl rfl rfl rfl ?_
  refine x_iload_n (pc' := 16) rfl rfl rfl ?_
  refine x_iload_n (pc' := 17) rfl rfl rfl ?_
  refine x_cv (ls0 := [_, _, _, sJk, sJk, sJk, sJk, sJk]) (rest := []) rfl rfl rfl rfl rfl ?_
  exact k0
set_option maxHeartbeats 4000000 in
set_option maxRecDepth 10000 in
theorem r173s_20n {t : sT} {Q : sRs → sT → Prop} {M : sM} {n : Nat} {o : Nat} {b : Nat} {s : Bool}
    (hM : rp t = M)
    (hc : Cn t)
    (hR : Ri M n)
    (ho : o < n)
    (hb : b < 5)
    (k0 : Q (.inl (some (.inl (bz false)))) t) :
    X 173 20 [.inr (.inr (12, (some 0))), .inl (io o), .inl (io b), .inl (bz s), sJk, sJk, sJk, sJk, sJk, sJk, sJk, sJk, sJk] [.inl (-1)] t Q := by
  refine x_istore (pc' := 22) (ls' := [_, _, _, _, _, _, _, _, _, _, _, _, _]) rfl rfl rfl rfl ?_
  refine x_iload (pc' := 24) rfl rfl rfl ?_
  refine x_iconst (pc' := 25) rfl rfl ?_
  refine x_icmp (a' := 30) (pc' := 28) (z := false) rfl rfl rfl (by decide) (fun h => by cases h) (fun _ => ?_)
  refine x_iconst (pc' := 29) rfl rfl ?_
  refine x_retz (z := false) rfl rfl ?_
  exact k0
set_option maxHeartbeats 4000000 in
set_option maxRecDepth 10000 in
theorem r173s_20 {t : sT} {Q : sRs → sT → Prop} {M : sM} {n : Nat} {o : Nat} {b : Nat} {s : Bool}
    (hM : rp t = M)
    (hc : Cn t)
    (hR : Ri M n)
    (ho : o < n)
    (hb : b < 5)
    (k0 : X 159 0 [.inr (.inr (12, (some 0))), .inl (io b), .inl (bz s), .inl 0, sJk, sJk, sJk] [] t (sK 159 173 35 [.inr (.inr (12, (some 0))), .inl (io o), .inl (io b), .inl (bz s), .inl 0, sJk, sJk, sJk, sJk, sJk, sJk, sJk, sJk] [] Q)) :
    X 173 20 [.inr (.inr (12, (some 0))), .inl (io o), .inl (io b), .inl (bz s), sJk, sJk, sJk, sJk, sJk, sJk, sJk, sJk, sJk] [.inl 0] t Q := by
  refine x_istore (pc' := 22) (ls' := [_, _, _, _, _, _, _, _, _, _, _, _, _]) rfl rfl rfl rfl ?_
  refine x_iload (pc' := 24) rfl rfl rfl ?_
  refine x_iconst (pc' := 25) rfl rfl ?_
  refine x_icmp (a' := 30) (pc' := 28) (z := true) rfl rfl rfl (by decide) (fun _ => ?_) (fun h => by cases h)
  refine x_aload_n (pc' := 31) rfl rfl rfl rfl rfl ?_
  refine x_iload_n (pc' := 32) rfl rfl rfl ?_
  refine x_iload_n (pc' := 33) rfl rfl rfl ?_
  refine x_iload (pc' := 35) rfl rfl rfl ?_
  refine x_cv (ls0 := [_, _, _, _, sJk, sJk, sJk]) (rest := []) rfl rfl rfl rfl rfl ?_
  exact k0
set_option maxHeartbeats 4000000 in
set_option maxRecDepth 10000 in
theorem r173s_38 {t : sT} {Q : sRs → sT → Prop} {M : sM} {n : Nat} {o : Nat} {b : Nat} {s : Bool} {w : Bool}
    (hM : rp t = M)
    (hc : Cn t)
    (hR : Ri M n)
    (ho : o < n)
    (hb : b < 5)
    (k0 : X 160 0 [.inr (.inr (12, (some 0))), .inl (io b), .inl 0, sJk, sJk] [] t (sK 160 173 44 [.inr (.inr (12, (some 0))), .inl (io o), .inl (io b), .inl (bz s), .inl 0, .inl (bz w), sJk, sJk, sJk, sJk, sJk, sJk, sJk] [] Q)) :
    X 173 38 [.inr (.inr (12, (some 0))), .inl (io o), .inl (io b), .inl (bz s), .inl 0, sJk, sJk, sJk, sJk, sJk, sJk, sJk, sJk] [.inl (bz w)] t Q := by
  refine x_istore (pc' := 40) (ls' := [_, _, _, _, _, _, _, _, _, _, _, _, _]) rfl rfl rfl rfl ?_
  refine x_aload_n (pc' := 41) rfl rfl rfl rfl rfl ?_
  refine x_iload_n (pc' := 42) rfl rfl rfl ?_
  refine x_iload (pc' := 44) rfl rfl rfl ?_
  refine x_cv (ls0 := [_, _, _, sJk, sJk]) (rest := []) rfl rfl rfl rfl rfl ?_
  exact k0
set_option maxHeartbeats 4000000 in
set_option maxRecDepth 10000 in
theorem r173s_47 {t : sT} {Q : sRs → sT → Prop} {M : sM} {n : Nat} {o : Nat} {b : Nat} {s : Bool} {w : Bool} {p : Int32}
    (hM : rp t = M)
    (hc : Cn t)
    (hR : Ri M n)
    (ho : o < n)
    (hb : b < 5)
    (k0 : s = false → ¬ (p < (mA M 14 o)) → (mB M 0 b) = false → X 173 126 [.inr (.inr (12, (some 0))), .inl (io o), .inl (io b), .inl (bz s), .inl 0, .inl (bz w), .inl p, .inl 0, .inl 0, .inl 0, sJk, sJk, sJk] [] t Q)
    (k1 : s = false → ¬ (p < (mA M 14 o)) → (mB M 0 b) = true → X 169 0 [.inr (.inr (12, (some 0))), .inl (io b), .inl 1, sJk, sJk, sJk, sJk, sJk, sJk] [] t (sK 169 173 117 [.inr (.inr (12, (some 0))), .inl (io o), .inl (io b), .inl (bz s), .inl 0, .inl (bz w), .inl p, .inl 1, sJk, sJk, sJk, sJk, sJk] [] Q))
    (k2 : s = false → p < (mA M 14 o) → Q (.inl (some (.inl (bz false)))) t)
    (k3 : s = true → ¬ ((mA M 14 o) < p) → (mB M 0 b) = false → X 173 126 [.inr (.inr (12, (some 0))), .inl (io o), .inl (io b), .inl (bz s), .inl 0, .inl (bz w), .inl p, .inl 0, .inl 0, .inl 0, sJk, sJk, sJk] [] t Q)
    (k4 : s = true → ¬ ((mA M 14 o) < p) → (mB M 0 b) = true → X 169 0 [.inr (.inr (12, (some 0))), .inl (io b), .inl 0, sJk, sJk, sJk, sJk, sJk, sJk] [] t (sK 169 173 117 [.inr (.inr (12, (some 0))), .inl (io o), .inl (io b), .inl (bz s), .inl 0, .inl (bz w), .inl p, .inl 1, sJk, sJk, sJk, sJk, sJk] [] Q))
    (k5 : s = true → (mA M 14 o) < p → Q (.inl (some (.inl (bz false)))) t) :
    X 173 47 [.inr (.inr (12, (some 0))), .inl (io o), .inl (io b), .inl (bz s), .inl 0, .inl (bz w), sJk, sJk, sJk, sJk, sJk, sJk, sJk] [.inl p] t Q := by
  refine x_istore (pc' := 49) (ls' := [_, _, _, _, _, _, _, _, _, _, _, _, _]) rfl rfl rfl rfl ?_
  refine x_iload_n (pc' := 50) rfl rfl rfl ?_
  refine x_ifeq_z (a' := 67) (pc' := 53) (z := s) rfl rfl rfl (fun q1 => ?_) (fun q1 => ?_)
  · refine x_iload (pc' := 69) rfl rfl rfl ?_
    refine x_aload_n (pc' := 70) rfl rfl rfl rfl rfl ?_
    refine x_gR (pc' := 73) (r := (some 14)) rfl rfl rfl (kR_790_0 hc) ?_
    refine x_iload_n (pc' := 74) rfl rfl rfl ?_
    refine x_iald (pc' := 75) (N := 200) (x := (mA M 14 o)) rfl rfl rfl (kN_21_14 hc) (io_in (p := o) (N := 200) (Nat.lt_of_lt_of_le ho (gn200 hR)) (by decide)) (Eq.trans (congrArg (sA t 21 14) (nn_io (p := o) (Nat.lt_trans (Nat.lt_of_lt_of_le ho (gn200 hR)) (by decide)))) (gF14 hM (Fr.refl _))) ?_
    refine x_icmp_n (a' := 80) (pc' := 78) (z := decide (p < (mA M 14 o))) rfl rfl rfl (ik_ge _ _) (fun q2 => ?_) (fun q2 => ?_)
    · refine x_iload (pc' := 82) rfl rfl rfl ?_
      refine x_if (a' := 98) (pc' := 85) (z := false) rfl rfl rfl (by decide) (fun h => by cases h) (fun _ => ?_)
      refine x_aload_n (pc' := 86) rfl rfl rfl rfl rfl ?_
      refine x_gR (pc' := 89) (r := (some 0)) rfl rfl rfl (kR_770_0 hc) ?_
      refine x_iload_n (pc' := 90) rfl rfl rfl ?_
      refine x_bald (pc' := 91) (N := 5) (z := (mB M 0 b)) rfl rfl (kN_22_0 hc) (io_in (p := b) (N := 5) hb (by decide)) (Eq.trans (congrArg (sB t 22 0) (nn_io (p := b) (Nat.lt_trans hb (by decide)))) (gB hM)) ?_
      refine x_ifeq_z (a' := 98) (pc' := 94) (z := (mB M 0 b)) rfl rfl rfl (fun q4 => ?_) (fun q4 => ?_)
      · refine x_iconst (pc' := 99) rfl rfl ?_
        refine x_istore (pc' := 101) (ls' := [_, _, _, _, _, _, _, _, _, _, _, _, _]) rfl rfl rfl rfl ?_
        refine x_iload (pc' := 103) rfl rfl rfl ?_
        refine x_if (a' := 120) (pc' := 106) (z := true) rfl rfl rfl (by decide) (fun _ => ?_) (fun h => by cases h)
        refine x_iconst (pc' := 121) rfl rfl ?_
        refine x_istore (pc' := 123) (ls' := [_, _, _, _, _, _, _, _, _, _, _, _, _]) rfl rfl rfl rfl ?_
        refine x_iconst (pc' := 124) rfl rfl ?_
        refine x_istore (pc' := 126) (ls' := [_, _, _, _, _, _, _, _, _, _, _, _, _]) rfl rfl rfl rfl ?_
        exact k0 q1 (of_decide_eq_false q2) q4
      · refine x_iconst (pc' := 95) rfl rfl ?_
        refine x_goto (pc' := 99) rfl rfl ?_
        refine x_istore (pc' := 101) (ls' := [_, _, _, _, _, _, _, _, _, _, _, _, _]) rfl rfl rfl rfl ?_
        refine x_iload (pc' := 103) rfl rfl rfl ?_
        refine x_if (a' := 120) (pc' := 106) (z := false) rfl rfl rfl (by decide) (fun h => by cases h) (fun _ => ?_)
        refine x_aload_n (pc' := 107) rfl rfl rfl rfl rfl ?_
        refine x_iload_n (pc' := 108) rfl rfl rfl ?_
        refine x_iload_n (pc' := 109) rfl rfl rfl ?_
        refine x_ifne_z (a' := 116) (pc' := 112) (z := s) rfl rfl rfl (fun h => zz_no h q1) (fun _ => ?_)
        refine x_iconst (pc' := 113) rfl rfl ?_
        refine x_goto (pc' := 117) rfl rfl ?_
        refine x_cv (ls0 := [_, _, _, sJk, sJk, sJk, sJk, sJk, sJk]) (rest := []) rfl rfl rfl rfl rfl ?_
        exact k1 q1 (of_decide_eq_false q2) q4
    · refine x_iconst (pc' := 79) rfl rfl ?_
      refine x_retz (z := false) rfl rfl ?_
      exact k2 q1 (of_decide_eq_true q2)
  · refine x_iload (pc' := 55) rfl rfl rfl ?_
    refine x_aload_n (pc' := 56) rfl rfl rfl rfl rfl ?_
    refine x_gR (pc' := 59) (r := (some 14)) rfl rfl rfl (kR_790_0 hc) ?_
    refine x_iload_n (pc' := 60) rfl rfl rfl ?_
    refine x_iald (pc' := 61) (N := 200) (x := (mA M 14 o)) rfl rfl rfl (kN_21_14 hc) (io_in (p := o) (N := 200) (Nat.lt_of_lt_of_le ho (gn200 hR)) (by decide)) (Eq.trans (congrArg (sA t 21 14) (nn_io (p := o) (Nat.lt_trans (Nat.lt_of_lt_of_le ho (gn200 hR)) (by decide)))) (gF14 hM (Fr.refl _))) ?_
    refine x_icmp_n (a' := 80) (pc' := 64) (z := decide ((mA M 14 o) < p)) rfl rfl rfl (ik_le _ _) (fun q8 => ?_) (fun q8 => ?_)
    · refine x_iload (pc' := 82) rfl rfl rfl ?_
      refine x_if (a' := 98) (pc' := 85) (z := false) rfl rfl rfl (by decide) (fun h => by cases h) (fun _ => ?_)
      refine x_aload_n (pc' := 86) rfl rfl rfl rfl rfl ?_
      refine x_gR (pc' := 89) (r := (some 0)) rfl rfl rfl (kR_770_0 hc) ?_
      refine x_iload_n (pc' := 90) rfl rfl rfl ?_
      refine x_bald (pc' := 91) (N := 5) (z := (mB M 0 b)) rfl rfl (kN_22_0 hc) (io_in (p := b) (N := 5) hb (by decide)) (Eq.trans (congrArg (sB t 22 0) (nn_io (p := b) (Nat.lt_trans hb (by decide)))) (gB hM)) ?_
      refine x_ifeq_z (a' := 98) (pc' := 94) (z := (mB M 0 b)) rfl rfl rfl (fun q10 => ?_) (fun q10 => ?_)
      · refine x_iconst (pc' := 99) rfl rfl ?_
        refine x_istore (pc' := 101) (ls' := [_, _, _, _, _, _, _, _, _, _, _, _, _]) rfl rfl rfl rfl ?_
        refine x_iload (pc' := 103) rfl rfl rfl ?_
        refine x_if (a' := 120) (pc' := 106) (z := true) rfl rfl rfl (by decide) (fun _ => ?_) (fun h => by cases h)
        refine x_iconst (pc' := 121) rfl rfl ?_
        refine x_istore (pc' := 123) (ls' := [_, _, _, _, _, _, _, _, _, _, _, _, _]) rfl rfl rfl rfl ?_
        refine x_iconst (pc' := 124) rfl rfl ?_
        refine x_istore (pc' := 126) (ls' := [_, _, _, _, _, _, _, _, _, _, _, _, _]) rfl rfl rfl rfl ?_
        exact k3 q1 (of_decide_eq_false q8) q10
      · refine x_iconst (pc' := 95) rfl rfl ?_
        refine x_goto (pc' := 99) rfl rfl ?_
        refine x_istore (pc' := 101) (ls' := [_, _, _, _, _, _, _, _, _, _, _, _, _]) rfl rfl rfl rfl ?_
        refine x_iload (pc' := 103) rfl rfl rfl ?_
        refine x_if (a' := 120) (pc' := 106) (z := false) rfl rfl rfl (by decide) (fun h => by cases h) (fun _ => ?_)
        refine x_aload_n (pc' := 107) rfl rfl rfl rfl rfl ?_
        refine x_iload_n (pc' := 108) rfl rfl rfl ?_
        refine x_iload_n (pc' := 109) rfl rfl rfl ?_
        refine x_ifne_z (a' := 116) (pc' := 112) (z := s) rfl rfl rfl (fun _ => ?_) (fun h => zz_no q1 h)
        refine x_iconst (pc' := 117) rfl rfl ?_
        refine x_cv (ls0 := [_, _, _, sJk, sJk, sJk, sJk, sJk, sJk]) (rest := []) rfl rfl rfl rfl rfl ?_
        exact k4 q1 (of_decide_eq_false q8) q10
    · refine x_goto (pc' := 78) rfl rfl ?_
      refine x_iconst (pc' := 79) rfl rfl ?_
      refine x_retz (z := false) rfl rfl ?_
      exact k5 q1 (of_decide_eq_true q8)
set_option maxHeartbeats 4000000 in
set_option maxRecDepth 10000 in
theorem r173s_120 {t : sT} {Q : sRs → sT → Prop} {M : sM} {n : Nat} {L0 : List Nat} {o : Nat} {b : Nat} {s : Bool} {w : Bool} {p : Int32}
    (hM : rp t = M)
    (hc : Cn t)
    (hR : Ri M n)
    (hT0 : TkL t L0)
    (hL9 : L0.length ≤ 200)
    (ho : o < n)
    (hb : b < 5)
    (k0 : X 173 126 [.inr (.inr (12, (some 0))), .inl (io o), .inl (io b), .inl (bz s), .inl 0, .inl (bz w), .inl p, .inl (bz true), .inl 0, .inl 0, sJk, sJk, sJk] [] t Q) :
    X 173 120 [.inr (.inr (12, (some 0))), .inl (io o), .inl (io b), .inl (bz s), .inl 0, .inl (bz w), .inl p, .inl (bz true), sJk, sJk, sJk, sJk, sJk] [] t Q := by
  refine x_iconst (pc' := 121) rfl rfl ?_
  refine x_istore (pc' := 123) (ls' := [_, _, _, _, _, _, _, _, _, _, _, _, _]) rfl rfl rfl rfl ?_
  refine x_iconst (pc' := 124) rfl rfl ?_
  refine x_istore (pc' := 126) (ls' := [_, _, _, _, _, _, _, _, _, _, _, _, _]) rfl rfl rfl rfl ?_
  exact k0
set_option maxHeartbeats 4000000 in
set_option maxRecDepth 10000 in
theorem r173s_126k {t : sT} {Q : sRs → sT → Prop} {M : sM} {n : Nat} {L0 : List Nat} {k : Nat} {x : Nat} {o : Nat} {b : Nat} {s : Bool} {w : Bool} {p : Int32} {z : Bool}
    (hM : rp t = M)
    (hc : Cn t)
    (hR : Ri M n)
    (hT0 : TkL t L0)
    (hL9 : L0.length ≤ 200)
    (hk : k < L0.length)
    (hx : L0.getD k 0 = x)
    (hxn : x < n)
    (ho : o < n)
    (hb : b < 5)
    (k0 : ¬ ((oM M x) = (oM M o)) → X 173 126 [.inr (.inr (12, (some 0))), .inl (io o), .inl (io b), .inl (bz s), .inl 0, .inl (bz w), .inl p, .inl (bz true), .inl (bz z), .inl (io (k + 1)), sJk, sJk, sJk] [] t Q)
    (k1 : (oM M x) = (oM M o) → X 156 0 [.inr (.inr (12, (some 0))), .inl (io x)] [] t (sK 156 173 164 [.inr (.inr (12, (some 0))), .inl (io o), .inl (io b), .inl (bz s), .inl 0, .inl (bz w), .inl p, .inl (bz true), .inl (bz z), .inl (io k), sJk, sJk, sJk] [] Q)) :
    X 173 126 [.inr (.inr (12, (some 0))), .inl (io o), .inl (io b), .inl (bz s), .inl 0, .inl (bz w), .inl p, .inl (bz true), .inl (bz z), .inl (io k), sJk, sJk, sJk] [] t Q := by
  refine x_iload (pc' := 128) rfl rfl rfl ?_
  refine x_aload_n (pc' := 129) rfl rfl rfl rfl rfl ?_
  refine x_gI (pc' := 132) (x := (io L0.length)) rfl rfl rfl hT0.1 ?_
  refine x_icmp_n (a' := 176) (pc' := 135) (z := decide (k < L0.length)) rfl rfl rfl (ic_gen (p := k) (q := L0.length) (Nat.lt_trans hk (Nat.lt_of_le_of_lt hL9 (by decide))) (Nat.lt_of_le_of_lt hL9 (by decide))) (fun h => absurd hk (of_decide_eq_false h)) (fun _ => ?_)
  refine x_aload_n (pc' := 136) rfl rfl rfl rfl rfl ?_
  refine x_gR (pc' := 139) (r := (some 12)) rfl rfl rfl (kR_787_0 hc) ?_
  refine x_aload_n (pc' := 140) rfl rfl rfl rfl rfl ?_
  refine x_gR (pc' := 143) (r := (some 27)) rfl rfl rfl (kR_809_0 hc) ?_
  refine x_iload (pc' := 145) rfl rfl rfl ?_
  refine x_iald (pc' := 146) (N := 200) (x := (io x)) rfl rfl rfl (kN_21_27 hc) (io_in (p := k) (N := 200) (Nat.lt_of_lt_of_le hk hL9) (by decide)) (Eq.trans (congrArg (sA t 21 27) (nn_io (p := k) (Nat.lt_trans (Nat.lt_of_lt_of_le hk hL9) (by decide)))) ((hT0.2 k hk).trans (congrArg io hx))) ?_
  refine x_iald (pc' := 147) (N := 200) (x := (io (oM M x))) rfl rfl rfl (kN_21_12 hc) (io_in (p := x) (N := 200) (Nat.lt_of_lt_of_le hxn (gn200 hR)) (by decide)) (Eq.trans (congrArg (sA t 21 12) (nn_io (p := x) (Nat.lt_trans (Nat.lt_of_lt_of_le hxn (gn200 hR)) (by decide)))) (gF12 hM (Fr.refl _) hR hxn)) ?_
  refine x_aload_n (pc' := 148) rfl rfl rfl rfl rfl ?_
  refine x_gR (pc' := 151) (r := (some 12)) rfl rfl rfl (kR_787_0 hc) ?_
  refine x_iload_n (pc' := 152) rfl rfl rfl ?_
  refine x_iald (pc' := 153) (N := 200) (x := (io (oM M o))) rfl rfl rfl (kN_21_12 hc) (io_in (p := o) (N := 200) (Nat.lt_of_lt_of_le ho (gn200 hR)) (by decide)) (Eq.trans (congrArg (sA t 21 12) (nn_io (p := o) (Nat.lt_trans (Nat.lt_of_lt_of_le ho (gn200 hR)) (by decide)))) (gF12 hM (Fr.refl _) hR ho)) ?_
  refine x_icmp_n (a' := 170) (pc' := 156) (z := decide ((oM M x) = (oM M o))) rfl rfl rfl (ic_nen (p := (oM M x)) (q := (oM M o)) (gm31 (gm6 hR hxn)) (gm31 (gm6 hR ho))) (fun q2 => ?_) (fun q2 => ?_)
  · refine x_iinc (pc' := 173) (y := (io (k + 1))) (ls' := [_, _, _, _, _, _, _, _, _, _, _, _, _]) rfl rfl rfl (io_add k 1) rfl ?_
    refine x_goto (pc' := 126) rfl rfl ?_
    exact k0 (of_decide_eq_false q2)
  · refine x_aload_n (pc' := 157) rfl rfl rfl rfl rfl ?_
    refine x_aload_n (pc' := 158) rfl rfl rfl rfl rfl ?_
    refine x_gR (pc' := 161) (r := (some 27)) rfl rfl rfl (kR_809_0 hc) ?_
    refine x_iload (pc' := 163) rfl rfl rfl ?_
    refine x_iald (pc' := 164) (N := 200) (x := (io x)) rfl rfl rfl (kN_21_27 hc) (io_in (p := k) (N := 200) (Nat.lt_of_lt_of_le hk hL9) (by decide)) (Eq.trans (congrArg (sA t 21 27) (nn_io (p := k) (Nat.lt_trans (Nat.lt_of_lt_of_le hk hL9) (by decide)))) ((hT0.2 k hk).trans (congrArg io hx))) ?_
    refine x_cv (ls0 := [_, _]) (rest := []) rfl rfl rfl rfl rfl ?_
    exact k1 (of_decide_eq_true q2)
set_option maxHeartbeats 4000000 in
set_option maxRecDepth 10000 in
theorem r173s_167 {t : sT} {Q : sRs → sT → Prop} {M : sM} {n : Nat} {L0 : List Nat} {k : Nat} {x : Nat} {o : Nat} {b : Nat} {s : Bool} {w : Bool} {p : Int32} {z : Bool}
    (hM : rp t = M)
    (hc : Cn t)
    (hR : Ri M n)
    (hT0 : TkL t L0)
    (hL9 : L0.length ≤ 200)
    (hk : k < L0.length)
    (hx : L0.getD k 0 = x)
    (hxn : x < n)
    (ho : o < n)
    (hb : b < 5)
    (k0 : X 173 126 [.inr (.inr (12, (some 0))), .inl (io o), .inl (io b), .inl (bz s), .inl 0, .inl (bz w), .inl p, .inl (bz true), .inl 1, .inl (io (k + 1)), sJk, sJk, sJk] [] t Q) :
    X 173 167 [.inr (.inr (12, (some 0))), .inl (io o), .inl (io b), .inl (bz s), .inl 0, .inl (bz w), .inl p, .inl (bz true), .inl (bz z), .inl (io k), sJk, sJk, sJk] [] t Q := by
  refine x_iconst (pc' := 168) rfl rfl ?_
  refine x_istore (pc' := 170) (ls' := [_, _, _, _, _, _, _, _, _, _, _, _, _]) rfl rfl rfl rfl ?_
  refine x_iinc (pc' := 173) (y := (io (k + 1))) (ls' := [_, _, _, _, _, _, _, _, _, _, _, _, _]) rfl rfl rfl (io_add k 1) rfl ?_
  refine x_goto (pc' := 126) rfl rfl ?_
  exact k0
set_option maxHeartbeats 4000000 in
set_option maxRecDepth 10000 in
theorem r173s_126e {t : sT} {Q : sRs → sT → Prop} {M : sM} {n : Nat} {L0 : List Nat} {o : Nat} {b : Nat} {s : Bool} {w : Bool} {p : Int32} {z : Bool}
    (hM : rp t = M)
    (hc : Cn t)
    (hR : Ri M n)
    (hT0 : TkL t L0)
    (hL9 : L0.length ≤ 200)
    (ho : o < n)
    (hb : b < 5)
    (k0 : z = false → X 170 0 [.inr (.inr (12, (some 0))), .inl (io b), .inl 0, .inl p, sJk, sJk, sJk] [] t (sK 170 173 189 [.inr (.inr (12, (some 0))), .inl (io o), .inl (io b), .inl (bz s), .inl 0, .inl (bz w), .inl p, .inl (bz true), .inl (bz z), .inl (io L0.length), sJk, sJk, sJk] [] Q))
    (k1 : z = true → Q (.inl (some (.inl (bz true)))) t) :
    X 173 126 [.inr (.inr (12, (some 0))), .inl (io o), .inl (io b), .inl (bz s), .inl 0, .inl (bz w), .inl p, .inl (bz true), .inl (bz z), .inl (io L0.length), sJk, sJk, sJk] [] t Q := by
  refine x_iload (pc' := 128) rfl rfl rfl ?_
  refine x_aload_n (pc' := 129) rfl rfl rfl rfl rfl ?_
  refine x_gI (pc' := 132) (x := (io L0.length)) rfl rfl rfl hT0.1 ?_
  refine x_icmp_n (a' := 176) (pc' := 135) (z := decide (L0.length < L0.length)) rfl rfl rfl (ic_gen (p := L0.length) (q := L0.length) (Nat.lt_of_le_of_lt hL9 (by decide)) (Nat.lt_of_le_of_lt hL9 (by decide))) (fun _ => ?_) (fun h => absurd (of_decide_eq_true h) (by first | decide | omega | simp))
  refine x_iload (pc' := 178) rfl rfl rfl ?_
  refine x_ifeq_z (a' := 183) (pc' := 181) (z := z) rfl rfl rfl (fun q2 => ?_) (fun q2 => ?_)
  · refine x_aload_n (pc' := 184) rfl rfl rfl rfl rfl ?_
    refine x_iload_n (pc' := 185) rfl rfl rfl ?_
    refine x_iload (pc' := 187) rfl rfl rfl ?_
    refine x_iload (pc' := 189) rfl rfl rfl ?_
    refine x_cv (ls0 := [_, _, _, _, sJk, sJk, sJk]) (rest := []) rfl rfl rfl rfl rfl ?_
    exact k0 q2
  · refine x_iconst (pc' := 182) rfl rfl ?_
    refine x_retz (z := true) rfl rfl ?_
    exact k1 q2
set_option maxHeartbeats 4000000 in
set_option maxRecDepth 10000 in
theorem r170_0 {t : sT} {Q : sRs → sT → Prop} {M : sM} {n : Nat} {L0 : List Nat} {x : Nat} {b : Nat} {p : Int32}
    (hM : rp t = M)
    (hc : Cn t)
    (hR : Ri M n)
    (hT0 : TkL t L0)
    (hL9 : L0.length ≤ 200)
    (hk : 0 < L0.length)
    (hx : L0.getD 0 0 = x)
    (hxn : x < n)
    (hb : b < 5)
    (k0 : b < 3 → X 170 96 [.inr (.inr (12, (some 0))), .inl (io b), .inl 0, .inl p, .inl 1, sJk, sJk] [] (sAw (sAw t 21 29 0 (io b)) 21 30 0 p) Q)
    (k1 : ¬ (b < 3) → Q (.inl (some (.inl 0))) (sAw (sAw (sAw (sAw t 21 29 0 ((io b) - 3)) 21 29 1 (((io b) - 3) + 1)) 21 30 0 (mA M 14 x)) 21 30 1 0)) :
    X 170 0 [.inr (.inr (12, (some 0))), .inl (io b), .inl 0, .inl p, sJk, sJk, sJk] [] t Q := by
  refine x_iload_n (pc' := 1) rfl rfl rfl ?_
  refine x_iconst (pc' := 2) rfl rfl ?_
  refine x_icmp (a' := 79) (pc' := 5) (z := decide (b < 3)) rfl rfl rfl (ic_lt (p := b) (q := 3) (gb31 hb) (by decide)) (fun q1 => ?_) (fun q1 => ?_)
  · refine x_aload_n (pc' := 80) rfl rfl rfl rfl rfl ?_
    refine x_gR (pc' := 83) (r := (some 29)) rfl rfl rfl (kR_812_0 hc) ?_
    refine x_iconst (pc' := 84) rfl rfl ?_
    refine x_iload_n (pc' := 85) rfl rfl rfl ?_
    refine x_iast (pc' := 86) (N := 3) (p := 0) rfl rfl rfl (kN_21_29 hc) (io_in (p := 0) (N := 3) (by decide) (by decide)) (nn_io (p := 0) (by decide)) ?_
    refine x_aload_n (pc' := 87) rfl rfl rfl rfl rfl ?_
    refine x_gR (pc' := 90) (r := (some 30)) rfl rfl rfl (Eq.trans (b := sR t 813 0) rfl (kR_813_0 hc)) ?_
    refine x_iconst (pc' := 91) rfl rfl ?_
    refine x_iload_n (pc' := 92) rfl rfl rfl ?_
    refine x_iast (pc' := 93) (N := 3) (p := 0) rfl rfl rfl (Eq.trans rdNA (kN_21_30 hc)) (io_in (p := 0) (N := 3) (by decide) (by decide)) (nn_io (p := 0) (by decide)) ?_
    refine x_iconst (pc' := 94) rfl rfl ?_
    refine x_istore (pc' := 96) (ls' := [_, _, _, _, _, _, _]) rfl rfl rfl rfl ?_
    exact k0 (of_decide_eq_true q1)
  · refine x_aload_n (pc' := 6) rfl rfl rfl rfl rfl ?_
    refine x_gR (pc' := 9) (r := (some 29)) rfl rfl rfl (kR_812_0 hc) ?_
    refine x_iconst (pc' := 10) rfl rfl ?_
    refine x_iload_n (pc' := 11) rfl rfl rfl ?_
    refine x_cs (ls0 := [_]) (rest := [_, _]) rfl rfl rfl rfl ?_
    refine x_iload_n (pc' := 1) rfl rfl rfl ?_
    refine x_iconst (pc' := 2) rfl rfl ?_
    refine x_isub (pc' := 3) (z := ((io b) - 3)) rfl rfl rfl ?_
    refine x_reti rfl rfl ?_
    refine sK_i (pc' := 14) rfl ?_
    refine x_iast (pc' := 15) (N := 3) (p := 0) rfl rfl rfl (kN_21_29 hc) (io_in (p := 0) (N := 3) (by decide) (by decide)) (nn_io (p := 0) (by decide)) ?_
    refine x_aload_n (pc' := 16) rfl rfl rfl rfl rfl ?_
    refine x_gR (pc' := 19) (r := (some 29)) rfl rfl rfl (Eq.trans (b := sR t 812 0) rfl (kR_812_0 hc)) ?_
    refine x_iconst (pc' := 20) rfl rfl ?_
    refine x_iload_n (pc' := 21) rfl rfl rfl ?_
    refine x_cs (ls0 := [_]) (rest := [_, _]) rfl rfl rfl rfl ?_
    refine x_iload_n (pc' := 1) rfl rfl rfl ?_
    refine x_iconst (pc' := 2) rfl rfl ?_
    refine x_isub (pc' := 3) (z := ((io b) - 3)) rfl rfl rfl ?_
    refine x_reti rfl rfl ?_
    refine sK_i (pc' := 24) rfl ?_
    refine x_iconst (pc' := 25) rfl rfl ?_
    refine x_iadd (pc' := 26) (z := (((io b) - 3) + 1)) rfl rfl rfl ?_
    refine x_iast (pc' := 27) (N := 3) (p := 1) rfl rfl rfl (Eq.trans rdNA (kN_21_29 hc)) (io_in (p := 1) (N := 3) (by decide) (by decide)) (nn_io (p := 1) (by decide)) ?_
    refine x_aload_n (pc' := 28) rfl rfl rfl rfl rfl ?_
    refine x_gR (pc' := 31) (r := (some 30)) rfl rfl rfl (Eq.trans (b := sR t 813 0) rfl (kR_813_0 hc)) ?_
    refine x_iconst (pc' := 32) rfl rfl ?_
    refine x_aload_n (pc' := 33) rfl rfl rfl rfl rfl ?_
    refine x_gR (pc' := 36) (r := (some 14)) rfl rfl rfl (Eq.trans (b := sR t 790 0) rfl (kR_790_0 hc)) ?_
    refine x_aload_n (pc' := 37) rfl rfl rfl rfl rfl ?_
    refine x_gR (pc' := 40) (r := (some 27)) rfl rfl rfl (Eq.trans (b := sR t 809 0) rfl (kR_809_0 hc)) ?_
    refine x_iconst (pc' := 41) rfl rfl ?_
    refine x_iald (pc' := 42) (N := 200) (x := (io x)) rfl rfl rfl (Eq.trans rdNA (Eq.trans rdNA (kN_21_27 hc))) (io_in (p := 0) (N := 200) (by decide) (by decide)) (Eq.trans (congrArg (sA (sAw (sAw t 21 29 0 ((io b) - 3)) 21 29 1 (((io b) - 3) + 1)) 21 27) (nn_io (p := 0) (by decide))) (Eq.trans (b := sA t 21 27 0) rfl ((hT0.2 0 hk).trans (congrArg io hx)))) ?_
    refine x_iald (pc' := 43) (N := 200) (x := (mA M 14 x)) rfl rfl rfl (Eq.trans rdNA (Eq.trans rdNA (kN_21_14 hc))) (io_in (p := x) (N := 200) (Nat.lt_of_lt_of_le hxn (gn200 hR)) (by decide)) (Eq.trans (congrArg (sA (sAw (sAw t 21 29 0 ((io b) - 3)) 21 29 1 (((io b) - 3) + 1)) 21 14) (nn_io (p := x) (Nat.lt_trans (Nat.lt_of_lt_of_le hxn (gn200 hR)) (by decide)))) (Eq.trans (b := sA t 21 14 x) rfl (gF14 hM (Fr.refl _)))) ?_
    refine x_iast (pc' := 44) (N := 3) (p := 0) rfl rfl rfl (Eq.trans rdNA (Eq.trans rdNA (kN_21_30 hc))) (io_in (p := 0) (N := 3) (by decide) (by decide)) (nn_io (p := 0) (by decide)) ?_
    refine x_aload_n (pc' := 45) rfl rfl rfl rfl rfl ?_
    refine x_gR (pc' := 48) (r := (some 30)) rfl rfl rfl (Eq.trans (b := sR t 813 0) rfl (kR_813_0 hc)) ?_
    refine x_iconst (pc' := 49) rfl rfl ?_
    refine x_iload_n (pc' := 50) rfl rfl rfl ?_
    refine x_if (a' := 57) (pc' := 53) (z := false) rfl rfl rfl (by decide) (fun h => by cases h) (fun _ => ?_)
    refine x_iconst (pc' := 54) rfl rfl ?_
    refine x_goto (pc' := 68) rfl rfl ?_
    refine x_iast (pc' := 69) (N := 3) (p := 1) rfl rfl rfl (Eq.trans rdNA (Eq.trans rdNA (Eq.trans rdNA (kN_21_30 hc)))) (io_in (p := 1) (N := 3) (by decide) (by decide)) (nn_io (p := 1) (by decide)) ?_
    refine x_iload_n (pc' := 70) rfl rfl rfl ?_
    refine x_if (a' := 77) (pc' := 73) (z := false) rfl rfl rfl (by decide) (fun h => by cases h) (fun _ => ?_)
    refine x_iconst (pc' := 74) rfl rfl ?_
    refine x_goto (pc' := 78) rfl rfl ?_
    refine x_reti rfl rfl ?_
    exact k1 (of_decide_eq_false q1)
set_option maxHeartbeats 4000000 in
set_option maxRecDepth 10000 in
theorem r170_96 {t : sT} {Q : sRs → sT → Prop} {M : sM} {n : Nat} {L0 : List Nat} {b : Nat} {p : Int32}
    (hM : rp t = M)
    (hc : Cn t)
    (hR : Ri M n)
    (hT0 : TkL t L0)
    (hL9 : L0.length ≤ 200)
    (hb : b < 5)
    (k0 : ¬ (1 < L0.length) → Q (.inl (some (.inl 1))) t)
    (k1 : 1 < L0.length → Q (.inl (some (.inl 1))) t) :
    X 170 96 [.inr (.inr (12, (some 0))), .inl (io b), .inl 0, .inl p, .inl 1, sJk, sJk] [] t Q := by
  refine x_iload (pc' := 98) rfl rfl rfl ?_
  refine x_aload_n (pc' := 99) rfl rfl rfl rfl rfl ?_
  refine x_gI (pc' := 102) (x := (io L0.length)) rfl rfl rfl hT0.1 ?_
  refine x_icmp_n (a' := 232) (pc' := 105) (z := decide (1 < L0.length)) rfl rfl rfl (ic_gen (p := 1) (q := L0.length) (by decide) (Nat.lt_of_le_of_lt hL9 (by decide))) (fun q1 => ?_) (fun q1 => ?_)
  · refine x_iload_n (pc' := 233) rfl rfl rfl ?_
    refine x_if (a' := 240) (pc' := 236) (z := false) rfl rfl rfl (by decide) (fun h => by cases h) (fun _ => ?_)
    refine x_iconst (pc' := 237) rfl rfl ?_
    refine x_goto (pc' := 244) rfl rfl ?_
    refine x_reti rfl rfl ?_
    exact k0 (of_decide_eq_false q1)
  · refine x_iload_n (pc' := 106) rfl rfl rfl ?_
    refine x_if (a' := 232) (pc' := 109) (z := true) rfl rfl rfl (by decide) (fun _ => ?_) (fun h => by cases h)
    refine x_iload_n (pc' := 233) rfl rfl rfl ?_
    refine x_if (a' := 240) (pc' := 236) (z := false) rfl rfl rfl (by decide) (fun h => by cases h) (fun _ => ?_)
    refine x_iconst (pc' := 237) rfl rfl ?_
    refine x_goto (pc' := 244) rfl rfl ?_
    refine x_reti rfl rfl ?_
    exact k1 (of_decide_eq_true q1)
set_option maxHeartbeats 4000000 in
set_option maxRecDepth 10000 in
theorem r173s_192 {t : sT} {Q : sRs → sT → Prop} {M : sM} {n : Nat} {o : Nat} {b : Nat} {s : Bool} {w : Bool} {p : Int32} {N : Nat} {y0 : sV}
    (hM : rp t = M)
    (hc : Cn t)
    (hR : Ri M n)
    (ho : o < n)
    (hb : b < 5)
    (k0 : X 171 0 [.inr (.inr (12, (some 0))), .inl (io N), sJk, sJk, sJk, sJk] [] t (sK 171 173 197 [.inr (.inr (12, (some 0))), .inl (io o), .inl (io b), .inl (bz s), .inl 0, .inl (bz w), .inl p, .inl (bz true), .inl (bz false), .inl (io N), sJk, sJk, sJk] [] Q)) :
    X 173 192 [.inr (.inr (12, (some 0))), .inl (io o), .inl (io b), .inl (bz s), .inl 0, .inl (bz w), .inl p, .inl (bz true), .inl (bz false), y0, sJk, sJk, sJk] [.inl (io N)] t Q := by
  refine x_istore (pc' := 194) (ls' := [_, _, _, _, _, _, _, _, _, _, _, _, _]) rfl rfl rfl rfl ?_
  refine x_aload_n (pc' := 195) rfl rfl rfl rfl rfl ?_
  refine x_iload (pc' := 197) rfl rfl rfl ?_
  refine x_cv (ls0 := [_, _, sJk, sJk, sJk, sJk]) (rest := []) rfl rfl rfl rfl rfl ?_
  exact k0
set_option maxHeartbeats 4000000 in
set_option maxRecDepth 10000 in
theorem r173s_200n {t : sT} {Q : sRs → sT → Prop} {M : sM} {n : Nat} {o : Nat} {b : Nat} {s : Bool} {w : Bool} {p : Int32} {N : Nat}
    (hM : rp t = M)
    (hc : Cn t)
    (hR : Ri M n)
    (ho : o < n)
    (hb : b < 5)
    (k0 : X 174 0 [.inr (.inr (12, (some 0))), .inl (io o), .inl p, sJk, sJk, sJk, sJk, sJk] [] t (sK 174 173 292 [.inr (.inr (12, (some 0))), .inl (io o), .inl (io b), .inl (bz s), .inl 0, .inl (bz w), .inl p, .inl (bz true), .inl (bz false), .inl (io N), .inl (-1), sJk, sJk] [] Q)) :
    X 173 200 [.inr (.inr (12, (some 0))), .inl (io o), .inl (io b), .inl (bz s), .inl 0, .inl (bz w), .inl p, .inl (bz true), .inl (bz false), .inl (io N), sJk, sJk, sJk] [.inl (-1)] t Q := by
  refine x_istore (pc' := 202) (ls' := [_, _, _, _, _, _, _, _, _, _, _, _, _]) rfl rfl rfl rfl ?_
  refine x_iload (pc' := 204) rfl rfl rfl ?_
  refine x_iconst (pc' := 205) rfl rfl ?_
  refine x_icmp (a' := 283) (pc' := 208) (z := true) rfl rfl rfl (by decide) (fun _ => ?_) (fun h => by cases h)
  refine x_iload (pc' := 285) rfl rfl rfl ?_
  refine x_if (a' := 298) (pc' := 288) (z := false) rfl rfl rfl (by decide) (fun h => by cases h) (fun _ => ?_)
  refine x_aload_n (pc' := 289) rfl rfl rfl rfl rfl ?_
  refine x_iload_n (pc' := 290) rfl rfl rfl ?_
  refine x_iload (pc' := 292) rfl rfl rfl ?_
  refine x_cv (ls0 := [_, _, _, sJk, sJk, sJk, sJk, sJk]) (rest := []) rfl rfl rfl rfl rfl ?_
  exact k0
set_option maxHeartbeats 4000000 in
set_option maxRecDepth 10000 in
theorem r173s_200s {t : sT} {Q : sRs → sT → Prop} {M : sM} {n : Nat} {L0 : List Nat} {o : Nat} {b : Nat} {s : Bool} {w : Bool} {p : Int32} {N : Nat} {c : Nat}
    (hM : rp t = M)
    (hc : Cn t)
    (hR : Ri M n)
    (hT0 : TkL t L0)
    (hL9 : L0.length ≤ 200)
    (ho : o < n)
    (hb : b < 5)
    (hc3 : c < 3)
    (k0 : (io c) = (-1) → X 174 0 [.inr (.inr (12, (some 0))), .inl (io o), .inl p, sJk, sJk, sJk, sJk, sJk] [] t (sK 174 173 292 [.inr (.inr (12, (some 0))), .inl (io o), .inl (io b), .inl (bz s), .inl 0, .inl (bz w), .inl p, .inl (bz true), .inl (bz false), .inl (io N), .inl (io c), sJk, sJk] [] Q))
    (k1 : ¬ ((io c) = (-1)) → X 173 222 [.inr (.inr (12, (some 0))), .inl (io o), .inl (io b), .inl (bz s), .inl 0, .inl (bz w), .inl p, .inl (bz true), .inl (bz false), .inl (io N), .inl (io c), .inl 0, .inl 0] [] (sAw t 21 0 c 3) Q) :
    X 173 200 [.inr (.inr (12, (some 0))), .inl (io o), .inl (io b), .inl (bz s), .inl 0, .inl (bz w), .inl p, .inl (bz true), .inl (bz false), .inl (io N), sJk, sJk, sJk] [.inl (io c)] t Q := by
  refine x_istore (pc' := 202) (ls' := [_, _, _, _, _, _, _, _, _, _, _, _, _]) rfl rfl rfl rfl ?_
  refine x_iload (pc' := 204) rfl rfl rfl ?_
  refine x_iconst (pc' := 205) rfl rfl ?_
  refine x_icmp (a' := 283) (pc' := 208) (z := decide ((io c) = (-1))) rfl rfl rfl rfl (fun q1 => ?_) (fun q1 => ?_)
  · refine x_iload (pc' := 285) rfl rfl rfl ?_
    refine x_if (a' := 298) (pc' := 288) (z := false) rfl rfl rfl (by decide) (fun h => by cases h) (fun _ => ?_)
    refine x_aload_n (pc' := 289) rfl rfl rfl rfl rfl ?_
    refine x_iload_n (pc' := 290) rfl rfl rfl ?_
    refine x_iload (pc' := 292) rfl rfl rfl ?_
    refine x_cv (ls0 := [_, _, _, sJk, sJk, sJk, sJk, sJk]) (rest := []) rfl rfl rfl rfl rfl ?_
    exact k0 (of_decide_eq_true q1)
  · refine x_aload_n (pc' := 209) rfl rfl rfl rfl rfl ?_
    refine x_gR (pc' := 212) (r := (some 0)) rfl rfl rfl (kR_769_0 hc) ?_
    refine x_iload (pc' := 214) rfl rfl rfl ?_
    refine x_iconst (pc' := 215) rfl rfl ?_
    refine x_iast (pc' := 216) (N := 5) (p := c) rfl rfl rfl (kN_21_0 hc) (io_in (p := c) (N := 5) (show c < 5 by omega) (by decide)) (nn_io (p := c) (Nat.lt_trans (show c < 5 by omega) (by decide))) ?_
    refine x_iconst (pc' := 217) rfl rfl ?_
    refine x_istore (pc' := 219) (ls' := [_, _, _, _, _, _, _, _, _, _, _, _, _]) rfl rfl rfl rfl ?_
    refine x_iconst (pc' := 220) rfl rfl ?_
    refine x_istore (pc' := 222) (ls' := [_, _, _, _, _, _, _, _, _, _, _, _, _]) rfl rfl rfl rfl ?_
    exact k1 (of_decide_eq_false q1)
set_option maxHeartbeats 4000000 in
set_option maxRecDepth 10000 in
theorem r173s_222k {t : sT} {Q : sRs → sT → Prop} {M : sM} {n : Nat} {L0 : List Nat} {k : Nat} {x : Nat} {o : Nat} {b : Nat} {s : Bool} {w : Bool} {p : Int32} {N : Nat} {c : Nat} {z : Bool}
    (hM : rp t = M)
    (hc : Cn t)
    (hR : Ri M n)
    (hT0 : TkL t L0)
    (hL9 : L0.length ≤ 200)
    (hk : k < L0.length)
    (hx : L0.getD k 0 = x)
    (hxn : x < n)
    (ho : o < n)
    (hb : b < 5)
    (hc3 : c < 3)
    (k0 : X 173 222 [.inr (.inr (12, (some 0))), .inl (io o), .inl (io b), .inl (bz s), .inl 0, .inl (bz w), .inl p, .inl (bz true), .inl (bz false), .inl (io N), .inl (io c), .inl (bz (z || (decide ((oB M x) = c)))), .inl (io (k + 1))] [] t Q) :
    X 173 222 [.inr (.inr (12, (some 0))), .inl (io o), .inl (io b), .inl (bz s), .inl 0, .inl (bz w), .inl p, .inl (bz true), .inl (bz false), .inl (io N), .inl (io c), .inl (bz z), .inl (io k)] [] t Q := by
  refine x_iload (pc' := 224) rfl rfl rfl ?_
  refine x_aload_n (pc' := 225) rfl rfl rfl rfl rfl ?_
  refine x_gI (pc' := 228) (x := (io L0.length)) rfl rfl rfl hT0.1 ?_
  refine x_icmp_n (a' := 266) (pc' := 231) (z := decide (k < L0.length)) rfl rfl rfl (ic_gen (p := k) (q := L0.length) (Nat.lt_trans hk (Nat.lt_of_le_of_lt hL9 (by decide))) (Nat.lt_of_le_of_lt hL9 (by decide))) (fun h => absurd hk (of_decide_eq_false h)) (fun _ => ?_)
  refine x_iload (pc' := 233) rfl rfl rfl ?_
  have J3 : X 173 258 [.inr (.inr (12, (some 0))), .inl (io o), .inl (io b), .inl (bz s), .inl 0, .inl (bz w), .inl p, .inl (bz true), .inl (bz false), .inl (io N), .inl (io c), .inl (bz z), .inl (io k)] [.inl (bz (z || (decide ((oB M x) = c))))] t Q := by
    refine x_istore (pc' := 260) (ls' := [_, _, _, _, _, _, _, _, _, _, _, _, _]) rfl rfl rfl rfl ?_
    refine x_iinc (pc' := 263) (y := (io (k + 1))) (ls' := [_, _, _, _, _, _, _, _, _, _, _, _, _]) rfl rfl rfl (io_add k 1) rfl ?_
    refine x_goto (pc' := 222) rfl rfl ?_
    exact k0
  refine x_ifne_z (a' := 253) (pc' := 236) (z := z) rfl rfl rfl (fun q2 => ?_) (fun q2 => ?_)
  · refine x_iconst (pc' := 254) rfl rfl ?_
    refine x_goto (pc' := 258) rfl rfl ?_
    ((try rw [q2] at J3); (try rw [q2]); (try simp only [cd_t, cd_f, nt_t, nt_f, an_t, an_f, or_t, or_f] at J3); (try simp only [cd_t, cd_f, nt_t, nt_f, an_t, an_f, or_t, or_f]); exact J3)
  · refine x_aload_n (pc' := 237) rfl rfl rfl rfl rfl ?_
    refine x_gR (pc' := 240) (r := (some 13)) rfl rfl rfl (kR_788_0 hc) ?_
    refine x_aload_n (pc' := 241) rfl rfl rfl rfl rfl ?_
    refine x_gR (pc' := 244) (r := (some 27)) rfl rfl rfl (kR_809_0 hc) ?_
    refine x_iload (pc' := 246) rfl rfl rfl ?_
    refine x_iald (pc' := 247) (N := 200) (x := (io x)) rfl rfl rfl (kN_21_27 hc) (io_in (p := k) (N := 200) (Nat.lt_of_lt_of_le hk hL9) (by decide)) (Eq.trans (congrArg (sA t 21 27) (nn_io (p := k) (Nat.lt_trans (Nat.lt_of_lt_of_le hk hL9) (by decide)))) ((hT0.2 k hk).trans (congrArg io hx))) ?_
    refine x_iald (pc' := 248) (N := 200) (x := (io (oB M x))) rfl rfl rfl (kN_21_13 hc) (io_in (p := x) (N := 200) (Nat.lt_of_lt_of_le hxn (gn200 hR)) (by decide)) (Eq.trans (congrArg (sA t 21 13) (nn_io (p := x) (Nat.lt_trans (Nat.lt_of_lt_of_le hxn (gn200 hR)) (by decide)))) (gF13 hM (Fr.refl _) hR hxn)) ?_
    refine x_iload (pc' := 250) rfl rfl rfl ?_
    refine x_icmp_n (a' := 257) (pc' := 253) (z := decide ((oB M x) = c)) rfl rfl rfl (ic_nen (p := (oB M x)) (q := c) (gb31 (gb5 hR hxn)) (gc31 hc3)) (fun q3 => ?_) (fun q3 => ?_)
    · refine x_iconst (pc' := 258) rfl rfl ?_
      ((try rw [q3] at J3); (try rw [q3]); (try rw [q2] at J3); (try rw [q2]); (try simp only [cd_t, cd_f, nt_t, nt_f, an_t, an_f, or_t, or_f] at J3); (try simp only [cd_t, cd_f, nt_t, nt_f, an_t, an_f, or_t, or_f]); exact J3)
    · refine x_iconst (pc' := 254) rfl rfl ?_
      refine x_goto (pc' := 258) rfl rfl ?_
      ((try rw [q3] at J3); (try rw [q3]); (try rw [q2] at J3); (try rw [q2]); (try simp only [cd_t, cd_f, nt_t, nt_f, an_t, an_f, or_t, or_f] at J3); (try simp only [cd_t, cd_f, nt_t, nt_f, an_t, an_f, or_t, or_f]); exact J3)
set_option maxHeartbeats 4000000 in
set_option maxRecDepth 10000 in
theorem r173s_222e {t : sT} {Q : sRs → sT → Prop} {M : sM} {n : Nat} {L0 : List Nat} {o : Nat} {b : Nat} {s : Bool} {w : Bool} {p : Int32} {N : Nat} {c : Nat} {z : Bool}
    (hM : rp t = M)
    (hc : Cn t)
    (hR : Ri M n)
    (hT0 : TkL t L0)
    (hL9 : L0.length ≤ 200)
    (ho : o < n)
    (hb : b < 5)
    (hc3 : c < 3)
    (k0 : Q (.inl (some (.inl (bz (!(decide (c = b)) && z))))) t) :
    X 173 222 [.inr (.inr (12, (some 0))), .inl (io o), .inl (io b), .inl (bz s), .inl 0, .inl (bz w), .inl p, .inl (bz true), .inl (bz false), .inl (io N), .inl (io c), .inl (bz z), .inl (io L0.length)] [] t Q := by
  refine x_iload (pc' := 224) rfl rfl rfl ?_
  refine x_aload_n (pc' := 225) rfl rfl rfl rfl rfl ?_
  refine x_gI (pc' := 228) (x := (io L0.length)) rfl rfl rfl hT0.1 ?_
  refine x_icmp_n (a' := 266) (pc' := 231) (z := decide (L0.length < L0.length)) rfl rfl rfl (ic_gen (p := L0.length) (q := L0.length) (Nat.lt_of_le_of_lt hL9 (by decide)) (Nat.lt_of_le_of_lt hL9 (by decide))) (fun _ => ?_) (fun h => absurd (of_decide_eq_true h) (by first | decide | omega | simp))
  refine x_iload (pc' := 268) rfl rfl rfl ?_
  refine x_iload_n (pc' := 269) rfl rfl rfl ?_
  have J3 : X 173 282 [.inr (.inr (12, (some 0))), .inl (io o), .inl (io b), .inl (bz s), .inl 0, .inl (bz w), .inl p, .inl (bz true), .inl (bz false), .inl (io N), .inl (io c), .inl (bz z), .inl (io L0.length)] [.inl (bz (!(decide (c = b)) && z))] t Q := by
    refine x_retz (z := (!(decide (c = b)) && z)) rfl rfl ?_
    exact k0
  refine x_icmp (a' := 281) (pc' := 272) (z := decide (c = b)) rfl rfl rfl (ic_eq (p := c) (q := b) (gc31 hc3) (gb31 hb)) (fun q2 => ?_) (fun q2 => ?_)
  · refine x_iconst (pc' := 282) rfl rfl ?_
    ((try rw [q2] at J3); (try rw [q2]); (try simp only [cd_t, cd_f, nt_t, nt_f, an_t, an_f, or_t, or_f] at J3); (try simp only [cd_t, cd_f, nt_t, nt_f, an_t, an_f, or_t, or_f]); exact J3)
  · refine x_iload (pc' := 274) rfl rfl rfl ?_
    refine x_ifeq_z (a' := 281) (pc' := 277) (z := z) rfl rfl rfl (fun q3 => ?_) (fun q3 => ?_)
    · refine x_iconst (pc' := 282) rfl rfl ?_
      ((try rw [q2] at J3); (try rw [q2]); (try rw [q3] at J3); (try rw [q3]); (try simp only [cd_t, cd_f, nt_t, nt_f, an_t, an_f, or_t, or_f] at J3); (try simp only [cd_t, cd_f, nt_t, nt_f, an_t, an_f, or_t, or_f]); exact J3)
    · refine x_iconst (pc' := 278) rfl rfl ?_
      refine x_goto (pc' := 282) rfl rfl ?_
      ((try rw [q2] at J3); (try rw [q2]); (try rw [q3] at J3); (try rw [q3]); (try simp only [cd_t, cd_f, nt_t, nt_f, an_t, an_f, or_t, or_f] at J3); (try simp only [cd_t, cd_f, nt_t, nt_f, an_t, an_f, or_t, or_f]); exact J3)
set_option maxHeartbeats 4000000 in
set_option maxRecDepth 10000 in
theorem r173s_295 {t : sT} {Q : sRs → sT → Prop} {M : sM} {n : Nat} {o : Nat} {b : Nat} {s : Bool} {w : Bool} {p : Int32} {N : Nat} {y0 : sV}
    (hM : rp t = M)
    (hc : Cn t)
    (hR : Ri M n)
    (ho : o < n)
    (hb : b < 5)
    (k0 : Q (.inl (some (.inl (bz true)))) t) :
    X 173 295 [.inr (.inr (12, (some 0))), .inl (io o), .inl (io b), .inl (bz s), .inl 0, .inl (bz w), .inl p, .inl (bz true), .inl (bz false), .inl (io N), y0, sJk, sJk] [] t Q := by
  refine x_goto (pc' := 309) rfl rfl ?_
  refine x_iconst (pc' := 310) rfl rfl ?_
  refine x_retz (z := true) rfl rfl ?_
  exact k0
set_option maxHeartbeats 4000000 in
set_option maxRecDepth 10000 in
theorem r176_0 {t : sT} {Q : sRs → sT → Prop} {M : sM} {n : Nat} {o : Nat}
    (hM : rp t = M)
    (hc : Cn t)
    (hR : Ri M n)
    (ho : o < n)
    (k0 : X 176 28 [.inr (.inr (12, (some 0))), .inl (io o), .inl (bz (decide ((mA M 0 (oB M o)) = 2)))] [] (sAw t 21 19 o 4) Q) :
    X 176 0 [.inr (.inr (12, (some 0))), .inl (io o), sJk] [] t Q := by
  refine x_aload_n (pc' := 1) rfl rfl rfl rfl rfl ?_
  refine x_gR (pc' := 4) (r := (some 19)) rfl rfl rfl (kR_795_0 hc) ?_
  refine x_iload_n (pc' := 5) rfl rfl rfl ?_
  refine x_iconst (pc' := 6) rfl rfl ?_
  refine x_iast (pc' := 7) (N := 200) (p := o) rfl rfl rfl (kN_21_19 hc) (io_in (p := o) (N := 200) (Nat.lt_of_lt_of_le ho (gn200 hR)) (by decide)) (nn_io (p := o) (Nat.lt_trans (Nat.lt_of_lt_of_le ho (gn200 hR)) (by decide))) ?_
  refine x_aload_n (pc' := 8) rfl rfl rfl rfl rfl ?_
  refine x_gR (pc' := 11) (r := (some 0)) rfl rfl rfl (Eq.trans (b := sR t 769 0) rfl (kR_769_0 hc)) ?_
  refine x_aload_n (pc' := 12) rfl rfl rfl rfl rfl ?_
  refine x_gR (pc' := 15) (r := (some 13)) rfl rfl rfl (Eq.trans (b := sR t 788 0) rfl (kR_788_0 hc)) ?_
  refine x_iload_n (pc' := 16) rfl rfl rfl ?_
  refine x_iald (pc' := 17) (N := 200) (x := (io (oB M o))) rfl rfl rfl (Eq.trans rdNA (kN_21_13 hc)) (io_in (p := o) (N := 200) (Nat.lt_of_lt_of_le ho (gn200 hR)) (by decide)) (Eq.trans (congrArg (sA (sAw t 21 19 o 4) 21 13) (nn_io (p := o) (Nat.lt_trans (Nat.lt_of_lt_of_le ho (gn200 hR)) (by decide)))) (Eq.trans (b := sA t 21 13 o) rfl (gF13 hM (Fr.refl _) hR ho))) ?_
  refine x_iald (pc' := 18) (N := 5) (x := (mA M 0 (oB M o))) rfl rfl rfl (Eq.trans rdNA (kN_21_0 hc)) (io_in (p := (oB M o)) (N := 5) (gb5 hR ho) (by decide)) (Eq.trans (congrArg (sA (sAw t 21 19 o 4) 21 0) (nn_io (p := (oB M o)) (Nat.lt_trans (gb5 hR ho) (by decide)))) (Eq.trans (b := sA t 21 0 (oB M o)) rfl (gA hM rfl))) ?_
  refine x_iconst (pc' := 19) rfl rfl ?_
  have J1 : X 176 27 [.inr (.inr (12, (some 0))), .inl (io o), sJk] [.inl (bz (decide ((mA M 0 (oB M o)) = 2)))] (sAw t 21 19 o 4) Q := by
    refine x_istore_n (pc' := 28) (ls' := [_, _, _]) rfl rfl rfl rfl ?_
    exact k0
  refine x_icmp_n (a' := 26) (pc' := 22) (z := decide ((mA M 0 (oB M o)) = 2)) rfl rfl rfl (ik_ne _ _) (fun q1 => ?_) (fun q1 => ?_)
  · refine x_iconst (pc' := 27) rfl rfl ?_
    ((try rw [q1] at J1); (try rw [q1]); (try simp only [cd_t, cd_f, nt_t, nt_f, an_t, an_f, or_t, or_f] at J1); (try simp only [cd_t, cd_f, nt_t, nt_f, an_t, an_f, or_t, or_f]); exact J1)
  · refine x_iconst (pc' := 23) rfl rfl ?_
    refine x_goto (pc' := 27) rfl rfl ?_
    ((try rw [q1] at J1); (try rw [q1]); (try simp only [cd_t, cd_f, nt_t, nt_f, an_t, an_f, or_t, or_f] at J1); (try simp only [cd_t, cd_f, nt_t, nt_f, an_t, an_f, or_t, or_f]); exact J1)
set_option maxHeartbeats 4000000 in
set_option maxRecDepth 10000 in
theorem r176_28f {t : sT} {Q : sRs → sT → Prop} {M : sM} {n : Nat} {o : Nat}
    (hM : rp t = M)
    (hc : Cn t)
    (hR : Ri M n)
    (ho : o < n)
    (k0 : X 176 60 [.inr (.inr (12, (some 0))), .inl (io o), .inl (bz false)] [] t Q) :
    X 176 28 [.inr (.inr (12, (some 0))), .inl (io o), .inl (bz false)] [] t Q := by
  refine x_iload_n (pc' := 29) rfl rfl rfl ?_
  refine x_if (a' := 60) (pc' := 32) (z := true) rfl rfl rfl (by decide) (fun _ => ?_) (fun h => by cases h)
  exact k0
set_option maxHeartbeats 4000000 in
set_option maxRecDepth 10000 in
theorem r176_28t {t : sT} {Q : sRs → sT → Prop} {M : sM} {n : Nat} {T : Nat} {o : Nat}
    (hM : rp t = M)
    (hc : Cn t)
    (hR : Ri M n)
    (hT : mI M 801 = io T)
    (hT4 : T < 4096)
    (ho : o < n)
    (k0 : ¬ (0 < (mA M 15 o)) → X 176 60 [.inr (.inr (12, (some 0))), .inl (io o), .inl (bz true)] [] t Q)
    (k1 : 0 < (mA M 15 o) → ¬ (T < 1500) → X 176 60 [.inr (.inr (12, (some 0))), .inl (io o), .inl (bz true)] [] t Q)
    (k2 : 0 < (mA M 15 o) → T < 1500 → X 173 0 [.inr (.inr (12, (some 0))), .inl (io o), sJk, sJk, sJk, sJk, sJk, sJk, sJk, sJk, sJk, sJk, sJk] [] t (sK 173 176 53 [.inr (.inr (12, (some 0))), .inl (io o), .inl (bz true)] [] Q)) :
    X 176 28 [.inr (.inr (12, (some 0))), .inl (io o), .inl (bz true)] [] t Q := by
  refine x_iload_n (pc' := 29) rfl rfl rfl ?_
  refine x_if (a' := 60) (pc' := 32) (z := false) rfl rfl rfl (by decide) (fun h => by cases h) (fun _ => ?_)
  refine x_aload_n (pc' := 33) rfl rfl rfl rfl rfl ?_
  refine x_gR (pc' := 36) (r := (some 15)) rfl rfl rfl (kR_791_0 hc) ?_
  refine x_iload_n (pc' := 37) rfl rfl rfl ?_
  refine x_iald (pc' := 38) (N := 200) (x := (mA M 15 o)) rfl rfl rfl (kN_21_15 hc) (io_in (p := o) (N := 200) (Nat.lt_of_lt_of_le ho (gn200 hR)) (by decide)) (Eq.trans (congrArg (sA t 21 15) (nn_io (p := o) (Nat.lt_trans (Nat.lt_of_lt_of_le ho (gn200 hR)) (by decide)))) (gA hM rfl)) ?_
  refine x_if_n (a' := 60) (pc' := 41) (z := decide (0 < (mA M 15 o))) rfl rfl rfl (ik_le _ _) (fun q2 => ?_) (fun q2 => ?_)
  · exact k0 (of_decide_eq_false q2)
  · refine x_aload_n (pc' := 42) rfl rfl rfl rfl rfl ?_
    refine x_gI (pc' := 45) (x := (io T)) rfl rfl rfl ((gI hM rfl).trans hT) ?_
    refine x_sipush (pc' := 48) rfl rfl ?_
    refine x_icmp_n (a' := 60) (pc' := 51) (z := decide (T < 1500)) rfl rfl rfl (ic_gen (p := T) (q := 1500) (Nat.lt_trans hT4 (by decide)) (by decide)) (fun q3 => ?_) (fun q3 => ?_)
    · exact k1 (of_decide_eq_true q2) (of_decide_eq_false q3)
    · refine x_aload_n (pc' := 52) rfl rfl rfl rfl rfl ?_
      refine x_iload_n (pc' := 53) rfl rfl rfl ?_
      refine x_cv (ls0 := [_, _, sJk, sJk, sJk, sJk, sJk, sJk, sJk, sJk, sJk, sJk, sJk]) (rest := []) rfl rfl rfl rfl rfl ?_
      exact k2 (of_decide_eq_true q2) (of_decide_eq_true q3)
set_option maxHeartbeats 4000000 in
set_option maxRecDepth 10000 in
theorem r176_60 {t : sT} {Q : sRs → sT → Prop} {M : sM} {n : Nat} {o : Nat} {y0 : sV}
    (hM : rp t = M)
    (hc : Cn t)
    (hR : Ri M n)
    (ho : o < n)
    (k0 : ¬ (0 < (mA M 15 o)) → X 177 0 [.inr (.inr (12, (some 0))), sJk, sJk, sJk] [] t (sK 177 176 101 [.inr (.inr (12, (some 0))), .inl (io o), y0] [] Q))
    (k1 : 0 < (mA M 15 o) → (mB M 5 o) = false → X 154 0 [.inr (.inr (12, (some 0))), .inl (io o)] [] t (sK 154 176 97 [.inr (.inr (12, (some 0))), .inl (io o), y0] [] Q))
    (k2 : 0 < (mA M 15 o) → (mB M 5 o) = true → X 156 0 [.inr (.inr (12, (some 0))), .inl (io o)] [] t (sK 156 176 80 [.inr (.inr (12, (some 0))), .inl (io o), y0] [] Q)) :
    X 176 60 [.inr (.inr (12, (some 0))), .inl (io o), y0] [] t Q := by
  refine x_aload_n (pc' := 61) rfl rfl rfl rfl rfl ?_
  refine x_gR (pc' := 64) (r := (some 15)) rfl rfl rfl (kR_791_0 hc) ?_
  refine x_iload_n (pc' := 65) rfl rfl rfl ?_
  refine x_iald (pc' := 66) (N := 200) (x := (mA M 15 o)) rfl rfl rfl (kN_21_15 hc) (io_in (p := o) (N := 200) (Nat.lt_of_lt_of_le ho (gn200 hR)) (by decide)) (Eq.trans (congrArg (sA t 21 15) (nn_io (p := o) (Nat.lt_trans (Nat.lt_of_lt_of_le ho (gn200 hR)) (by decide)))) (gA hM rfl)) ?_
  refine x_if_n (a' := 86) (pc' := 69) (z := decide (0 < (mA M 15 o))) rfl rfl rfl (ik_le _ _) (fun q1 => ?_) (fun q1 => ?_)
  · refine x_aload_n (pc' := 87) rfl rfl rfl rfl rfl ?_
    refine x_gR (pc' := 90) (r := (some 15)) rfl rfl rfl (kR_791_0 hc) ?_
    refine x_iload_n (pc' := 91) rfl rfl rfl ?_
    refine x_iald (pc' := 92) (N := 200) (x := (mA M 15 o)) rfl rfl rfl (kN_21_15 hc) (io_in (p := o) (N := 200) (Nat.lt_of_lt_of_le ho (gn200 hR)) (by decide)) (Eq.trans (congrArg (sA t 21 15) (nn_io (p := o) (Nat.lt_trans (Nat.lt_of_lt_of_le ho (gn200 hR)) (by decide)))) (gA hM rfl)) ?_
    refine x_if_n (a' := 100) (pc' := 95) (z := decide (0 < (mA M 15 o))) rfl rfl rfl (ik_le _ _) (fun _ => ?_) (fun h => absurd (of_decide_eq_true h) (of_decide_eq_false q1))
    refine x_aload_n (pc' := 101) rfl rfl rfl rfl rfl ?_
    refine x_cv (ls0 := [_, sJk, sJk, sJk]) (rest := []) rfl rfl rfl rfl rfl ?_
    exact k0 (of_decide_eq_false q1)
  · refine x_aload_n (pc' := 70) rfl rfl rfl rfl rfl ?_
    refine x_gR (pc' := 73) (r := (some 5)) rfl rfl rfl (kR_797_0 hc) ?_
    refine x_iload_n (pc' := 74) rfl rfl rfl ?_
    refine x_bald (pc' := 75) (N := 200) (z := (mB M 5 o)) rfl rfl (kN_22_5 hc) (io_in (p := o) (N := 200) (Nat.lt_of_lt_of_le ho (gn200 hR)) (by decide)) (Eq.trans (congrArg (sB t 22 5) (nn_io (p := o) (Nat.lt_trans (Nat.lt_of_lt_of_le ho (gn200 hR)) (by decide)))) (gB hM)) ?_
    refine x_ifeq_z (a' := 86) (pc' := 78) (z := (mB M 5 o)) rfl rfl rfl (fun q3 => ?_) (fun q3 => ?_)
    · refine x_aload_n (pc' := 87) rfl rfl rfl rfl rfl ?_
      refine x_gR (pc' := 90) (r := (some 15)) rfl rfl rfl (kR_791_0 hc) ?_
      refine x_iload_n (pc' := 91) rfl rfl rfl ?_
      refine x_iald (pc' := 92) (N := 200) (x := (mA M 15 o)) rfl rfl rfl (kN_21_15 hc) (io_in (p := o) (N := 200) (Nat.lt_of_lt_of_le ho (gn200 hR)) (by decide)) (Eq.trans (congrArg (sA t 21 15) (nn_io (p := o) (Nat.lt_trans (Nat.lt_of_lt_of_le ho (gn200 hR)) (by decide)))) (gA hM rfl)) ?_
      refine x_if_n (a' := 100) (pc' := 95) (z := decide (0 < (mA M 15 o))) rfl rfl rfl (ik_le _ _) (fun h => absurd (of_decide_eq_true q1) (of_decide_eq_false h)) (fun _ => ?_)
      refine x_aload_n (pc' := 96) rfl rfl rfl rfl rfl ?_
      refine x_iload_n (pc' := 97) rfl rfl rfl ?_
      refine x_cv (ls0 := [_, _]) (rest := []) rfl rfl rfl rfl rfl ?_
      exact k1 (of_decide_eq_true q1) q3
    · refine x_aload_n (pc' := 79) rfl rfl rfl rfl rfl ?_
      refine x_iload_n (pc' := 80) rfl rfl rfl ?_
      refine x_cv (ls0 := [_, _]) (rest := []) rfl rfl rfl rfl rfl ?_
      exact k2 (of_decide_eq_true q1) q3
set_option maxHeartbeats 4000000 in
set_option maxRecDepth 10000 in
theorem r176_83 {t : sT} {Q : sRs → sT → Prop} {M : sM} {n : Nat} {o : Nat} {y0 : sV}
    (hM : rp t = M)
    (hc : Cn t)
    (hR : Ri M n)
    (ho : o < n)
    (k0 : X 177 0 [.inr (.inr (12, (some 0))), sJk, sJk, sJk] [] t (sK 177 176 101 [.inr (.inr (12, (some 0))), .inl (io o), y0] [] Q)) :
    X 176 83 [.inr (.inr (12, (some 0))), .inl (io o), y0] [] t Q := by
  refine x_goto (pc' := 100) rfl rfl ?_
  refine x_aload_n (pc' := 101) rfl rfl rfl rfl rfl ?_
  refine x_cv (ls0 := [_, sJk, sJk, sJk]) (rest := []) rfl rfl rfl rfl rfl ?_
  exact k0
set_option maxHeartbeats 4000000 in
set_option maxRecDepth 10000 in
theorem r176_100 {t : sT} {Q : sRs → sT → Prop} {M : sM} {n : Nat} {o : Nat} {y0 : sV}
    (hM : rp t = M)
    (hc : Cn t)
    (hR : Ri M n)
    (ho : o < n)
    (k0 : X 177 0 [.inr (.inr (12, (some 0))), sJk, sJk, sJk] [] t (sK 177 176 101 [.inr (.inr (12, (some 0))), .inl (io o), y0] [] Q)) :
    X 176 100 [.inr (.inr (12, (some 0))), .inl (io o), y0] [] t Q := by
  refine x_aload_n (pc' := 101) rfl rfl rfl rfl rfl ?_
  refine x_cv (ls0 := [_, sJk, sJk, sJk]) (rest := []) rfl rfl rfl rfl rfl ?_
  exact k0
set_option maxHeartbeats 4000000 in
set_option maxRecDepth 10000 in
theorem r176_104 {t : sT} {Q : sRs → sT → Prop} {M : sM} {n : Nat} {o : Nat} {y0 : sV}
    (hM : rp t = M)
    (hc : Cn t)
    (hR : Ri M n)
    (ho : o < n)
    (k0 : Q (.inl none) t) :
    X 176 104 [.inr (.inr (12, (some 0))), .inl (io o), y0] [] t Q := by
  refine x_ret rfl ?_
  exact k0
set_option maxHeartbeats 4000000 in
set_option maxRecDepth 10000 in
theorem r176_56 {t : sT} {Q : sRs → sT → Prop} {M : sM} {n : Nat} {o : Nat} {z : Bool} {y0 : sV}
    (hM : rp t = M)
    (hc : Cn t)
    (hR : Ri M n)
    (ho : o < n)
    (k0 : X 176 28 [.inr (.inr (12, (some 0))), .inl (io o), .inl (bz z)] [] t Q) :
    X 176 56 [.inr (.inr (12, (some 0))), .inl (io o), y0] [.inl (bz z)] t Q := by
  refine x_istore_n (pc' := 57) (ls' := [_, _, _]) rfl rfl rfl rfl ?_
  refine x_goto (pc' := 28) rfl rfl ?_
  exact k0
set_option maxHeartbeats 4000000 in
set_option maxRecDepth 10000 in
theorem r178_0 {t : sT} {Q : sRs → sT → Prop} {M : sM} {n : Nat}
    (hM : rp t = M)
    (hc : Cn t)
    (hR : Ri M n)
    (k0 : X 178 2 [.inr (.inr (12, (some 0))), .inl 1, sJk, sJk] [] t Q) :
    X 178 0 [.inr (.inr (12, (some 0))), sJk, sJk, sJk] [] t Q := by
  refine x_iconst (pc' := 1) rfl rfl ?_
  refine x_istore_n (pc' := 2) (ls' := [_, _, _, _]) rfl rfl rfl rfl ?_
  exact k0
set_option maxHeartbeats 4000000 in
set_option maxRecDepth 10000 in
theorem r178_2f {t : sT} {Q : sRs → sT → Prop} {M : sM} {n : Nat} {y0 : sV} {y1 : sV}
    (hM : rp t = M)
    (hc : Cn t)
    (hR : Ri M n)
    (k0 : Q (.inl none) t) :
    X 178 2 [.inr (.inr (12, (some 0))), .inl (bz false), y0, y1] [] t Q := by
  refine x_iload_n (pc' := 3) rfl rfl rfl ?_
  refine x_if (a' := 72) (pc' := 6) (z := true) rfl rfl rfl (by decide) (fun _ => ?_) (fun h => by cases h)
  refine x_ret rfl ?_
  exact k0
set_option maxHeartbeats 4000000 in
set_option maxRecDepth 10000 in
theorem r178_2t {t : sT} {Q : sRs → sT → Prop} {M : sM} {n : Nat} {y0 : sV} {y1 : sV}
    (hM : rp t = M)
    (hc : Cn t)
    (hR : Ri M n)
    (k0 : X 178 15 [.inr (.inr (12, (some 0))), .inl (bz true), .inl (-1), .inl ((io n) - 1)] [] t Q) :
    X 178 2 [.inr (.inr (12, (some 0))), .inl (bz true), y0, y1] [] t Q := by
  refine x_iload_n (pc' := 3) rfl rfl rfl ?_
  refine x_if (a' := 72) (pc' := 6) (z := false) rfl rfl rfl (by decide) (fun h => by cases h) (fun _ => ?_)
  refine x_iconst (pc' := 7) rfl rfl ?_
  refine x_istore_n (pc' := 8) (ls' := [_, _, _, _]) rfl rfl rfl rfl ?_
  refine x_aload_n (pc' := 9) rfl rfl rfl rfl rfl ?_
  refine x_gI (pc' := 12) (x := (io n)) rfl rfl rfl (gFn hM (Fr.refl _) hR) ?_
  refine x_iconst (pc' := 13) rfl rfl ?_
  refine x_isub (pc' := 14) (z := ((io n) - 1)) rfl rfl rfl ?_
  refine x_istore_n (pc' := 15) (ls' := [_, _, _, _]) rfl rfl rfl rfl ?_
  exact k0
set_option maxHeartbeats 4000000 in
set_option maxRecDepth 10000 in
theorem r178_15k {t : sT} {Q : sRs → sT → Prop} {M : sM} {n : Nat} {f : Option Nat} {k : Nat}
    (hM : rp t = M)
    (hc : Cn t)
    (hR : Ri M n)
    (hk : k < n)
    (hb_f : ∀ j, f = some j → j < n)
    (k0 : X 178 15 [.inr (.inr (12, (some 0))), .inl (bz true), .inl (ov (bif (decide ((mA M 19 k) = 0)) then (bif (mB M 6 k) then (some k) else f) else f)), .inl ((io k) + (-1))] [] t Q) :
    X 178 15 [.inr (.inr (12, (some 0))), .inl (bz true), .inl (ov f), .inl (io k)] [] t Q := by
  refine x_iload_n (pc' := 16) rfl rfl rfl ?_
  refine x_if (a' := 49) (pc' := 19) (z := decide (k < 0)) rfl rfl rfl (ic_lt (p := k) (q := 0) (Nat.lt_trans hk (gn31 hR)) (by decide)) (fun h => absurd (of_decide_eq_true h) (by first | decide | omega | simp)) (fun _ => ?_)
  refine x_aload_n (pc' := 20) rfl rfl rfl rfl rfl ?_
  refine x_gR (pc' := 23) (r := (some 19)) rfl rfl rfl (kR_795_0 hc) ?_
  refine x_iload_n (pc' := 24) rfl rfl rfl ?_
  refine x_iald (pc' := 25) (N := 200) (x := (mA M 19 k)) rfl rfl rfl (kN_21_19 hc) (io_in (p := k) (N := 200) (Nat.lt_of_lt_of_le hk (gn200 hR)) (by decide)) (Eq.trans (congrArg (sA t 21 19) (nn_io (p := k) (Nat.lt_trans (Nat.lt_of_lt_of_le hk (gn200 hR)) (by decide)))) (gA hM rfl)) ?_
  have J3 : X 178 42 [.inr (.inr (12, (some 0))), .inl (bz true), .inl (ov f), .inl (io k)] [.inl (ov (bif (decide ((mA M 19 k) = 0)) then (bif (mB M 6 k) then (some k) else f) else f))] t Q := by
    refine x_istore_n (pc' := 43) (ls' := [_, _, _, _]) rfl rfl rfl rfl ?_
    refine x_iinc (pc' := 46) (y := ((io k) + (-1))) (ls' := [_, _, _, _]) rfl rfl rfl rfl rfl ?_
    refine x_goto (pc' := 15) rfl rfl ?_
    exact k0
  refine x_if_n (a' := 41) (pc' := 28) (z := decide ((mA M 19 k) = 0)) rfl rfl rfl (ik_ne _ _) (fun q2 => ?_) (fun q2 => ?_)
  · refine x_iload_n (pc' := 42) rfl rfl rfl ?_
    ((try rw [q2] at J3); (try rw [q2]); (try simp only [cd_t, cd_f, nt_t, nt_f, an_t, an_f, or_t, or_f] at J3); (try simp only [cd_t, cd_f, nt_t, nt_f, an_t, an_f, or_t, or_f]); exact J3)
  · refine x_aload_n (pc' := 29) rfl rfl rfl rfl rfl ?_
    refine x_gR (pc' := 32) (r := (some 6)) rfl rfl rfl (kR_799_0 hc) ?_
    refine x_iload_n (pc' := 33) rfl rfl rfl ?_
    refine x_bald (pc' := 34) (N := 200) (z := (mB M 6 k)) rfl rfl (kN_22_6 hc) (io_in (p := k) (N := 200) (Nat.lt_of_lt_of_le hk (gn200 hR)) (by decide)) (Eq.trans (congrArg (sB t 22 6) (nn_io (p := k) (Nat.lt_trans (Nat.lt_of_lt_of_le hk (gn200 hR)) (by decide)))) (gB hM)) ?_
    refine x_ifeq_z (a' := 41) (pc' := 37) (z := (mB M 6 k)) rfl rfl rfl (fun q3 => ?_) (fun q3 => ?_)
    · refine x_iload_n (pc' := 42) rfl rfl rfl ?_
      ((try rw [q3] at J3); (try rw [q3]); (try rw [q2] at J3); (try rw [q2]); (try simp only [cd_t, cd_f, nt_t, nt_f, an_t, an_f, or_t, or_f] at J3); (try simp only [cd_t, cd_f, nt_t, nt_f, an_t, an_f, or_t, or_f]); exact J3)
    · refine x_iload_n (pc' := 38) rfl rfl rfl ?_
      refine x_goto (pc' := 42) rfl rfl ?_
      ((try rw [q3] at J3); (try rw [q3]); (try rw [q2] at J3); (try rw [q2]); (try simp only [cd_t, cd_f, nt_t, nt_f, an_t, an_f, or_t, or_f] at J3); (try simp only [cd_t, cd_f, nt_t, nt_f, an_t, an_f, or_t, or_f]); exact J3)
set_option maxHeartbeats 4000000 in
set_option maxRecDepth 10000 in
theorem r178_15e {t : sT} {Q : sRs → sT → Prop} {M : sM} {n : Nat} {f : Option Nat}
    (hM : rp t = M)
    (hc : Cn t)
    (hR : Ri M n)
    (hb_f : ∀ j, f = some j → j < n)
    (k0 : X 178 49 [.inr (.inr (12, (some 0))), .inl (bz true), .inl (ov f), .inl (-1)] [] t Q) :
    X 178 15 [.inr (.inr (12, (some 0))), .inl (bz true), .inl (ov f), .inl (-1)] [] t Q := by
  refine x_iload_n (pc' := 16) rfl rfl rfl ?_
  refine x_if (a' := 49) (pc' := 19) (z := true) rfl rfl rfl (by decide) (fun _ => ?_) (fun h => by cases h)
  exact k0
set_option maxHeartbeats 4000000 in
set_option maxRecDepth 10000 in
theorem r178_49n {t : sT} {Q : sRs → sT → Prop} {M : sM} {n : Nat} {y0 : sV} {y1 : sV}
    (hM : rp t = M)
    (hc : Cn t)
    (hR : Ri M n)
    (k0 : X 178 2 [.inr (.inr (12, (some 0))), .inl 0, .inl (-1), y1] [] t Q) :
    X 178 49 [.inr (.inr (12, (some 0))), y0, .inl (-1), y1] [] t Q := by
  refine x_iload_n (pc' := 50) rfl rfl rfl ?_
  refine x_iconst (pc' := 51) rfl rfl ?_
  refine x_icmp (a' := 58) (pc' := 54) (z := true) rfl rfl rfl (by decide) (fun _ => ?_) (fun h => by cases h)
  refine x_iconst (pc' := 59) rfl rfl ?_
  refine x_istore_n (pc' := 60) (ls' := [_, _, _, _]) rfl rfl rfl rfl ?_
  refine x_iload_n (pc' := 61) rfl rfl rfl ?_
  refine x_if (a' := 69) (pc' := 64) (z := true) rfl rfl rfl (by decide) (fun _ => ?_) (fun h => by cases h)
  refine x_goto (pc' := 2) rfl rfl ?_
  exact k0
set_option maxHeartbeats 4000000 in
set_option maxRecDepth 10000 in
theorem r178_49s {t : sT} {Q : sRs → sT → Prop} {M : sM} {n : Nat} {o : Nat} {y0 : sV} {y1 : sV}
    (hM : rp t = M)
    (hc : Cn t)
    (hR : Ri M n)
    (ho : o < n)
    (k0 : (!(decide ((io o) = (-1)))) = false → X 178 2 [.inr (.inr (12, (some 0))), .inl (bz (!(decide ((io o) = (-1))))), .inl (io o), y1] [] t Q)
    (k1 : (!(decide ((io o) = (-1)))) = true → X 176 0 [.inr (.inr (12, (some 0))), .inl (io o), sJk] [] t (sK 176 178 66 [.inr (.inr (12, (some 0))), .inl (bz (!(decide ((io o) = (-1))))), .inl (io o), y1] [] Q)) :
    X 178 49 [.inr (.inr (12, (some 0))), y0, .inl (io o), y1] [] t Q := by
  refine x_iload_n (pc' := 50) rfl rfl rfl ?_
  refine x_iconst (pc' := 51) rfl rfl ?_
  have J1 : X 178 59 [.inr (.inr (12, (some 0))), y0, .inl (io o), y1] [.inl (bz (!(decide ((io o) = (-1)))))] t Q := by
    refine x_istore_n (pc' := 60) (ls' := [_, _, _, _]) rfl rfl rfl rfl ?_
    refine x_iload_n (pc' := 61) rfl rfl rfl ?_
    refine x_ifeq_z (a' := 69) (pc' := 64) (z := (!(decide ((io o) = (-1))))) rfl rfl rfl (fun q3 => ?_) (fun q3 => ?_)
    · refine x_goto (pc' := 2) rfl rfl ?_
      exact k0 q3
    · refine x_aload_n (pc' := 65) rfl rfl rfl rfl rfl ?_
      refine x_iload_n (pc' := 66) rfl rfl rfl ?_
      refine x_cv (ls0 := [_, _, sJk]) (rest := []) rfl rfl rfl rfl rfl ?_
      exact k1 q3
  refine x_icmp (a' := 58) (pc' := 54) (z := decide ((io o) = (-1))) rfl rfl rfl rfl (fun q1 => ?_) (fun q1 => ?_)
  · refine x_iconst (pc' := 59) rfl rfl ?_
    ((try rw [q1] at J1); (try rw [q1]); (try simp only [cd_t, cd_f, nt_t, nt_f, an_t, an_f, or_t, or_f] at J1); (try simp only [cd_t, cd_f, nt_t, nt_f, an_t, an_f, or_t, or_f]); exact J1)
  · refine x_iconst (pc' := 55) rfl rfl ?_
    refine x_goto (pc' := 59) rfl rfl ?_
    ((try rw [q1] at J1); (try rw [q1]); (try simp only [cd_t, cd_f, nt_t, nt_f, an_t, an_f, or_t, or_f] at J1); (try simp only [cd_t, cd_f, nt_t, nt_f, an_t, an_f, or_t, or_f]); exact J1)
set_option maxHeartbeats 4000000 in
set_option maxRecDepth 10000 in
theorem r178_69 {t : sT} {Q : sRs → sT → Prop} {M : sM} {n : Nat} {o : Nat} {z : Bool} {y1 : sV}
    (hM : rp t = M)
    (hc : Cn t)
    (hR : Ri M n)
    (ho : o < n)
    (k0 : X 178 2 [.inr (.inr (12, (some 0))), .inl (bz z), .inl (io o), y1] [] t Q) :
    X 178 69 [.inr (.inr (12, (some 0))), .inl (bz z), .inl (io o), y1] [] t Q := by
  refine x_goto (pc' := 2) rfl rfl ?_
  exact k0
