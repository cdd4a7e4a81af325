/-! the reference's methods that only tell (printed by refgen.py) -/
def cdS (M : sM) (n : Nat) (m : Nat) (c : Nat) (s : Bool) (k : Nat) (a : Int32) : Int32 := (a + (bif ((decide ((oM M k) = m)) && ((decide ((mA M 19 k) = 0)) || (decide ((mA M 19 k) = 1)))) then (bif ((decide ((oB M k) = c)) || (!(decide ((oB M k) < 3)) && (decide (((io (oB M k)) - 3) = (io c))))) then (bif ((mB M 3 k) == s) then (mA M 15 k) else (bif (!(decide ((oB M k) < 3)) && (decide ((((io (oB M k)) - 3) + 1) = (io c)))) then (mA M 15 k) else 0)) else (bif (!(decide ((oB M k) < 3)) && (decide ((((io (oB M k)) - 3) + 1) = (io c)))) then (bif ((mB M 3 k) == s) then 0 else (mA M 15 k)) else 0)) else 0))
def cdL (M : sM) (n : Nat) (m : Nat) (c : Nat) (s : Bool) (a : Int32) : Nat → Int32
  | 0 => a
  | k + 1 => cdS M n m c s k (cdL M n m c s a k)
set_option maxHeartbeats 4000000 in
set_option maxRecDepth 10000 in
theorem r183_6_b {t : sT} {Q : sRs → sT → Prop} {M : sM} {n : Nat} {k : Nat} {m : Nat} {c : Nat} {s : Bool} {a : Int32} {d0 : sV} {d1 : sV} {d2 : sV}
    (hM : rp t = M)
    (hc : Cn t)
    (hR : Ri M n)
    (hk : k < n)
    (hm : m < 6)
    (hc3 : c < 3)
    (q : ∀ (e0 : sV) (e1 : sV) (e2 : sV), X 183 6 [.inr (.inr (12, (some 0))), .inl (io m), .inl (io c), .inl (bz s), .inl (cdS M n m c s k a), .inl (io (k + 1)), e0, e1, e2] [] t Q) :
    X 183 6 [.inr (.inr (12, (some 0))), .inl (io m), .inl (io c), .inl (bz s), .inl a, .inl (io k), d0, d1, d2] [] t Q := by
  refine x_iload (pc' := 8) rfl rfl rfl ?_
  refine x_aload_n (pc' := 9) rfl rfl rfl rfl rfl ?_
  refine x_gI (pc' := 12) (x := (io n)) rfl rfl rfl (gFn hM (Fr.refl _) hR) ?_
  refine x_icmp_n (a' := 190) (pc' := 15) (z := decide (k < n)) rfl rfl rfl (ic_gen (p := k) (q := n) (Nat.lt_trans hk (gn31 hR)) (gn31 hR)) (fun h => absurd hk (of_decide_eq_false h)) (fun _ => ?_)
  refine x_aload_n (pc' := 16) rfl rfl rfl rfl rfl ?_
  refine x_gR (pc' := 19) (r := (some 12)) rfl rfl rfl (kR_787_0 hc) ?_
  refine x_iload (pc' := 21) rfl rfl rfl ?_
  refine x_iald (pc' := 22) (N := 200) (x := (io (oM M k))) rfl rfl rfl (kN_21_12 hc) (io_in (p := k) (N := 200) (Nat.lt_of_lt_of_le hk (gn200 hR)) (by decide)) (Eq.trans (congrArg (sA t 21 12) (nn_io (p := k) (Nat.lt_trans (Nat.lt_of_lt_of_le hk (gn200 hR)) (by decide)))) (gF12 hM (Fr.refl _) hR hk)) ?_
  refine x_iload_n (pc' := 23) rfl rfl rfl ?_
  have J4 : X 183 52 [.inr (.inr (12, (some 0))), .inl (io m), .inl (io c), .inl (bz s), .inl a, .inl (io k), d0, d1, d2] [.inl (bz ((decide ((oM M k) = m)) && ((decide ((mA M 19 k) = 0)) || (decide ((mA M 19 k) = 1)))))] t Q := by
    refine x_istore (pc' := 54) (ls' := [_, _, _, _, _, _, _, _, _]) rfl rfl rfl rfl ?_
    refine x_aload_n (pc' := 55) rfl rfl rfl rfl rfl ?_
    refine x_gR (pc' := 58) (r := (some 13)) rfl rfl rfl (kR_788_0 hc) ?_
    refine x_iload (pc' := 60) rfl rfl rfl ?_
    refine x_iald (pc' := 61) (N := 200) (x := (io (oB M k))) rfl rfl rfl (kN_21_13 hc) (io_in (p := k) (N := 200) (Nat.lt_of_lt_of_le hk (gn200 hR)) (by decide)) (Eq.trans (congrArg (sA t 21 13) (nn_io (p := k) (Nat.lt_trans (Nat.lt_of_lt_of_le hk (gn200 hR)) (by decide)))) (gF13 hM (Fr.refl _) hR hk)) ?_
    refine x_iload_n (pc' := 62) rfl rfl rfl ?_
    have J8 : X 183 95 [.inr (.inr (12, (some 0))), .inl (io m), .inl (io c), .inl (bz s), .inl a, .inl (io k), .inl (bz ((decide ((oM M k) = m)) && ((decide ((mA M 19 k) = 0)) || (decide ((mA M 19 k) = 1))))), d1, d2] [.inl (bz ((decide ((oB M k) = c)) || (!(decide ((oB M k) < 3)) && (decide (((io (oB M k)) - 3) = (io c))))))] t Q := by
      refine x_istore (pc' := 97) (ls' := [_, _, _, _, _, _, _, _, _]) rfl rfl rfl rfl ?_
      refine x_aload_n (pc' := 98) rfl rfl rfl rfl rfl ?_
      refine x_gR (pc' := 101) (r := (some 13)) rfl rfl rfl (kR_788_0 hc) ?_
      refine x_iload (pc' := 103) rfl rfl rfl ?_
      refine x_iald (pc' := 104) (N := 200) (x := (io (oB M k))) rfl rfl rfl (kN_21_13 hc) (io_in (p := k) (N := 200) (Nat.lt_of_lt_of_le hk (gn200 hR)) (by decide)) (Eq.trans (congrArg (sA t 21 13) (nn_io (p := k) (Nat.lt_trans (Nat.lt_of_lt_of_le hk (gn200 hR)) (by decide)))) (gF13 hM (Fr.refl _) hR hk)) ?_
      refine x_iconst (pc' := 105) rfl rfl ?_
      have J11 : X 183 129 [.inr (.inr (12, (some 0))), .inl (io m), .inl (io c), .inl (bz s), .inl a, .inl (io k), .inl (bz ((decide ((oM M k) = m)) && ((decide ((mA M 19 k) = 0)) || (decide ((mA M 19 k) = 1))))), .inl (bz ((decide ((oB M k) = c)) || (!(decide ((oB M k) < 3)) && (decide (((io (oB M k)) - 3) = (io c)))))), d2] [.inl (bz (!(decide ((oB M k) < 3)) && (decide ((((io (oB M k)) - 3) + 1) = (io c)))))] t Q := by
        refine x_istore (pc' := 131) (ls' := [_, _, _, _, _, _, _, _, _]) rfl rfl rfl rfl ?_
        refine x_iload (pc' := 133) rfl rfl rfl ?_
        refine x_iload (pc' := 135) rfl rfl rfl ?_
        have J19 : X 183 181 [.inr (.inr (12, (some 0))), .inl (io m), .inl (io c), .inl (bz s), .inl a, .inl (io k), .inl (bz ((decide ((oM M k) = m)) && ((decide ((mA M 19 k) = 0)) || (decide ((mA M 19 k) = 1))))), .inl (bz ((decide ((oB M k) = c)) || (!(decide ((oB M k) < 3)) && (decide (((io (oB M k)) - 3) = (io c)))))), .inl (bz (!(decide ((oB M k) < 3)) && (decide ((((io (oB M k)) - 3) + 1) = (io c)))))] [.inl (bif ((decide ((oM M k) = m)) && ((decide ((mA M 19 k) = 0)) || (decide ((mA M 19 k) = 1)))) then (bif ((decide ((oB M k) = c)) || (!(decide ((oB M k) < 3)) && (decide (((io (oB M k)) - 3) = (io c))))) then (bif ((mB M 3 k) == s) then (mA M 15 k) else (bif (!(decide ((oB M k) < 3)) && (decide ((((io (oB M k)) - 3) + 1) = (io c)))) then (mA M 15 k) else 0)) else (bif (!(decide ((oB M k) < 3)) && (decide ((((io (oB M k)) - 3) + 1) = (io c)))) then (bif ((mB M 3 k) == s) then 0 else (mA M 15 k)) else 0)) else 0), .inl a] t Q := by
          refine x_iadd (pc' := 182) (z := (a + (bif ((decide ((oM M k) = m)) && ((decide ((mA M 19 k) = 0)) || (decide ((mA M 19 k) = 1)))) then (bif ((decide ((oB M k) = c)) || (!(decide ((oB M k) < 3)) && (decide (((io (oB M k)) - 3) = (io c))))) then (bif ((mB M 3 k) == s) then (mA M 15 k) else (bif (!(decide ((oB M k) < 3)) && (decide ((((io (oB M k)) - 3) + 1) = (io c)))) then (mA M 15 k) else 0)) else (bif (!(decide ((oB M k) < 3)) && (decide ((((io (oB M k)) - 3) + 1) = (io c)))) then (bif ((mB M 3 k) == s) then 0 else (mA M 15 k)) else 0)) else 0))) rfl rfl rfl ?_
          refine x_istore (pc' := 184) (ls' := [_, _, _, _, _, _, _, _, _]) rfl rfl rfl rfl ?_
          refine x_iinc (pc' := 187) (y := (io (k + 1))) (ls' := [_, _, _, _, _, _, _, _, _]) rfl rfl rfl (io_add k 1) rfl ?_
          refine x_goto (pc' := 6) rfl rfl ?_
          exact q (.inl (bz ((decide ((oM M k) = m)) && ((decide ((mA M 19 k) = 0)) || (decide ((mA M 19 k) = 1)))))) (.inl (bz ((decide ((oB M k) = c)) || (!(decide ((oB M k) < 3)) && (decide (((io (oB M k)) - 3) = (io c))))))) (.inl (bz (!(decide ((oB M k) < 3)) && (decide ((((io (oB M k)) - 3) + 1) = (io c))))))
        refine x_ifeq_z (a' := 180) (pc' := 138) (z := ((decide ((oM M k) = m)) && ((decide ((mA M 19 k) = 0)) || (decide ((mA M 19 k) = 1))))) rfl rfl rfl (fun q13 => ?_) (fun q13 => ?_)
        · refine x_iconst (pc' := 181) rfl rfl ?_
          ((try rw [q13] at J19); (try rw [q13]); (try simp only [cd_t, cd_f, nt_t, nt_f, an_t, an_f, or_t, or_f] at J19); (try simp only [cd_t, cd_f, nt_t, nt_f, an_t, an_f, or_t, or_f]); exact J19)
        · refine x_iload (pc' := 140) rfl rfl rfl ?_
          refine x_ifeq_z (a' := 154) (pc' := 143) (z := ((decide ((oB M k) = c)) || (!(decide ((oB M k) < 3)) && (decide (((io (oB M k)) - 3) = (io c)))))) rfl rfl rfl (fun q14 => ?_) (fun q14 => ?_)
          · refine x_iload (pc' := 156) rfl rfl rfl ?_
            refine x_ifeq_z (a' := 180) (pc' := 159) (z := (!(decide ((oB M k) < 3)) && (decide ((((io (oB M k)) - 3) + 1) = (io c))))) rfl rfl rfl (fun q15 => ?_) (fun q15 => ?_)
            · refine x_iconst (pc' := 181) rfl rfl ?_
              ((try rw [q15] at J19); (try rw [q15]); (try rw [q14] at J19); (try rw [q14]); (try rw [q13] at J19); (try rw [q13]); (try simp only [cd_t, cd_f, nt_t, nt_f, an_t, an_f, or_t, or_f] at J19); (try simp only [cd_t, cd_f, nt_t, nt_f, an_t, an_f, or_t, or_f]); exact J19)
            · refine x_aload_n (pc' := 160) rfl rfl rfl rfl rfl ?_
              refine x_gR (pc' := 163) (r := (some 3)) rfl rfl rfl (kR_789_0 hc) ?_
              refine x_iload (pc' := 165) rfl rfl rfl ?_
              refine x_bald (pc' := 166) (N := 200) (z := (mB M 3 k)) rfl rfl (kN_22_3 hc) (io_in (p := k) (N := 200) (Nat.lt_of_lt_of_le hk (gn200 hR)) (by decide)) (Eq.trans (congrArg (sB t 22 3) (nn_io (p := k) (Nat.lt_trans (Nat.lt_of_lt_of_le hk (gn200 hR)) (by decide)))) (gF3 hM (Fr.refl _))) ?_
              refine x_iload_n (pc' := 167) rfl rfl rfl ?_
              refine x_icmp (a' := 180) (pc' := 170) (z := ((mB M 3 k) == s)) rfl rfl rfl (bz_eqb _ _) (fun q16 => ?_) (fun q16 => ?_)
              · refine x_iconst (pc' := 181) rfl rfl ?_
                ((try rw [q16] at J19); (try rw [q16]); (try rw [q15] at J19); (try rw [q15]); (try rw [q14] at J19); (try rw [q14]); (try rw [q13] at J19); (try rw [q13]); (try simp only [cd_t, cd_f, nt_t, nt_f, an_t, an_f, or_t, or_f] at J19); (try simp only [cd_t, cd_f, nt_t, nt_f, an_t, an_f, or_t, or_f]); exact J19)
              · refine x_aload_n (pc' := 171) rfl rfl rfl rfl rfl ?_
                refine x_gR (pc' := 174) (r := (some 15)) rfl rfl rfl (kR_791_0 hc) ?_
                refine x_iload (pc' := 176) rfl rfl rfl ?_
                refine x_iald (pc' := 177) (N := 200) (x := (mA M 15 k)) rfl rfl rfl (kN_21_15 hc) (io_in (p := k) (N := 200) (Nat.lt_of_lt_of_le hk (gn200 hR)) (by decide)) (Eq.trans (congrArg (sA t 21 15) (nn_io (p := k) (Nat.lt_trans (Nat.lt_of_lt_of_le hk (gn200 hR)) (by decide)))) (gA hM rfl)) ?_
                refine x_goto (pc' := 181) rfl rfl ?_
                ((try rw [q16] at J19); (try rw [q16]); (try rw [q15] at J19); (try rw [q15]); (try rw [q14] at J19); (try rw [q14]); (try rw [q13] at J19); (try rw [q13]); (try simp only [cd_t, cd_f, nt_t, nt_f, an_t, an_f, or_t, or_f] at J19); (try simp only [cd_t, cd_f, nt_t, nt_f, an_t, an_f, or_t, or_f]); exact J19)
          · refine x_aload_n (pc' := 144) rfl rfl rfl rfl rfl ?_
            refine x_gR (pc' := 147) (r := (some 3)) rfl rfl rfl (kR_789_0 hc) ?_
            refine x_iload (pc' := 149) rfl rfl rfl ?_
            refine x_bald (pc' := 150) (N := 200) (z := (mB M 3 k)) rfl rfl (kN_22_3 hc) (io_in (p := k) (N := 200) (Nat.lt_of_lt_of_le hk (gn200 hR)) (by decide)) (Eq.trans (congrArg (sB t 22 3) (nn_io (p := k) (Nat.lt_trans (Nat.lt_of_lt_of_le hk (gn200 hR)) (by decide)))) (gF3 hM (Fr.refl _))) ?_
            refine x_iload_n (pc' := 151) rfl rfl rfl ?_
            refine x_icmp (a' := 170) (pc' := 154) (z := ((mB M 3 k) == s)) rfl rfl rfl (bz_eqb _ _) (fun q17 => ?_) (fun q17 => ?_)
            · refine x_aload_n (pc' := 171) rfl rfl rfl rfl rfl ?_
              refine x_gR (pc' := 174) (r := (some 15)) rfl rfl rfl (kR_791_0 hc) ?_
              refine x_iload (pc' := 176) rfl rfl rfl ?_
              refine x_iald (pc' := 177) (N := 200) (x := (mA M 15 k)) rfl rfl rfl (kN_21_15 hc) (io_in (p := k) (N := 200) (Nat.lt_of_lt_of_le hk (gn200 hR)) (by decide)) (Eq.trans (congrArg (sA t 21 15) (nn_io (p := k) (Nat.lt_trans (Nat.lt_of_lt_of_le hk (gn200 hR)) (by decide)))) (gA hM rfl)) ?_
              refine x_goto (pc' := 181) rfl rfl ?_
              ((try rw [q17] at J19); (try rw [q17]); (try rw [q14] at J19); (try rw [q14]); (try rw [q13] at J19); (try rw [q13]); (try simp only [cd_t, cd_f, nt_t, nt_f, an_t, an_f, or_t, or_f] at J19); (try simp only [cd_t, cd_f, nt_t, nt_f, an_t, an_f, or_t, or_f]); exact J19)
            · refine x_iload (pc' := 156) rfl rfl rfl ?_
              refine x_ifeq_z (a' := 180) (pc' := 159) (z := (!(decide ((oB M k) < 3)) && (decide ((((io (oB M k)) - 3) + 1) = (io c))))) rfl rfl rfl (fun q18 => ?_) (fun q18 => ?_)
              · refine x_iconst (pc' := 181) rfl rfl ?_
                ((try rw [q18] at J19); (try rw [q18]); (try rw [q17] at J19); (try rw [q17]); (try rw [q14] at J19); (try rw [q14]); (try rw [q13] at J19); (try rw [q13]); (try simp only [cd_t, cd_f, nt_t, nt_f, an_t, an_f, or_t, or_f] at J19); (try simp only [cd_t, cd_f, nt_t, nt_f, an_t, an_f, or_t, or_f]); exact J19)
              · refine x_aload_n (pc' := 160) rfl rfl rfl rfl rfl ?_
                refine x_gR (pc' := 163) (r := (some 3)) rfl rfl rfl (kR_789_0 hc) ?_
                refine x_iload (pc' := 165) rfl rfl rfl ?_
                refine x_bald (pc' := 166) (N := 200) (z := (mB M 3 k)) rfl rfl (kN_22_3 hc) (io_in (p := k) (N := 200) (Nat.lt_of_lt_of_le hk (gn200 hR)) (by decide)) (Eq.trans (congrArg (sB t 22 3) (nn_io (p := k) (Nat.lt_trans (Nat.lt_of_lt_of_le hk (gn200 hR)) (by decide)))) (gF3 hM (Fr.refl _))) ?_
                refine x_iload_n (pc' := 167) rfl rfl rfl ?_
                refine x_icmp (a' := 180) (pc' := 170) (z := ((mB M 3 k) == s)) rfl rfl rfl (bz_eqb _ _) (fun h => zz_no h q17) (fun _ => ?_)
                refine x_aload_n (pc' := 171) rfl rfl rfl rfl rfl ?_
                refine x_gR (pc' := 174) (r := (some 15)) rfl rfl rfl (kR_791_0 hc) ?_
                refine x_iload (pc' := 176) rfl rfl rfl ?_
                refine x_iald (pc' := 177) (N := 200) (x := (mA M 15 k)) rfl rfl rfl (kN_21_15 hc) (io_in (p := k) (N := 200) (Nat.lt_of_lt_of_le hk (gn200 hR)) (by decide)) (Eq.trans (congrArg (sA t 21 15) (nn_io (p := k) (Nat.lt_trans (Nat.lt_of_lt_of_le hk (gn200 hR)) (by decide)))) (gA hM rfl)) ?_
                refine x_goto (pc' := 181) rfl rfl ?_
                ((try rw [q18] at J19); (try rw [q18]); (try rw [q17] at J19); (try rw [q17]); (try rw [q14] at J19); (try rw [q14]); (try rw [q13] at J19); (try rw [q13]); (try simp only [cd_t, cd_f, nt_t, nt_f, an_t, an_f, or_t, or_f] at J19); (try simp only [cd_t, cd_f, nt_t, nt_f, an_t, an_f, or_t, or_f]); exact J19)
      refine x_icmp (a' := 128) (pc' := 108) (z := decide ((oB M k) < 3)) rfl rfl rfl (ic_lt (p := (oB M k)) (q := 3) (gb31 (gb5 hR hk)) (by decide)) (fun q10 => ?_) (fun q10 => ?_)
      · refine x_iconst (pc' := 129) rfl rfl ?_
        ((try rw [q10] at J11); (try rw [q10]); (try simp only [cd_t, cd_f, nt_t, nt_f, an_t, an_f, or_t, or_f] at J11); (try simp only [cd_t, cd_f, nt_t, nt_f, an_t, an_f, or_t, or_f]); exact J11)
      · refine x_aload_n (pc' := 109) rfl rfl rfl rfl rfl ?_
        refine x_gR (pc' := 112) (r := (some 13)) rfl rfl rfl (kR_788_0 hc) ?_
        refine x_iload (pc' := 114) rfl rfl rfl ?_
        refine x_iald (pc' := 115) (N := 200) (x := (io (oB M k))) rfl rfl rfl (kN_21_13 hc) (io_in (p := k) (N := 200) (Nat.lt_of_lt_of_le hk (gn200 hR)) (by decide)) (Eq.trans (congrArg (sA t 21 13) (nn_io (p := k) (Nat.lt_trans (Nat.lt_of_lt_of_le hk (gn200 hR)) (by decide)))) (gF13 hM (Fr.refl _) hR hk)) ?_
        refine x_cs (ls0 := [_]) (rest := []) rfl rfl rfl rfl ?_
        refine x_iload_n (pc' := 1) rfl rfl rfl ?_
        refine x_iconst (pc' := 2) rfl rfl ?_
        refine x_isub (pc' := 3) (z := ((io (oB M k)) - 3)) rfl rfl rfl ?_
        refine x_reti rfl rfl ?_
        refine sK_i (pc' := 118) rfl ?_
        refine x_iconst (pc' := 119) rfl rfl ?_
        refine x_iadd (pc' := 120) (z := (((io (oB M k)) - 3) + 1)) rfl rfl rfl ?_
        refine x_iload_n (pc' := 121) rfl rfl rfl ?_
        refine x_icmp_n (a' := 128) (pc' := 124) (z := decide ((((io (oB M k)) - 3) + 1) = (io c))) rfl rfl rfl (ik_ne _ _) (fun q11 => ?_) (fun q11 => ?_)
        · refine x_iconst (pc' := 129) rfl rfl ?_
          ((try rw [q11] at J11); (try rw [q11]); (try rw [q10] at J11); (try rw [q10]); (try simp only [cd_t, cd_f, nt_t, nt_f, an_t, an_f, or_t, or_f] at J11); (try simp only [cd_t, cd_f, nt_t, nt_f, an_t, an_f, or_t, or_f]); exact J11)
        · refine x_iconst (pc' := 125) rfl rfl ?_
          refine x_goto (pc' := 129) rfl rfl ?_
          ((try rw [q11] at J11); (try rw [q11]); (try rw [q10] at J11); (try rw [q10]); (try simp only [cd_t, cd_f, nt_t, nt_f, an_t, an_f, or_t, or_f] at J11); (try simp only [cd_t, cd_f, nt_t, nt_f, an_t, an_f, or_t, or_f]); exact J11)
    refine x_icmp (a' := 90) (pc' := 65) (z := decide ((oB M k) = c)) rfl rfl rfl (ic_eq (p := (oB M k)) (q := c) (gb31 (gb5 hR hk)) (gc31 hc3)) (fun q6 => ?_) (fun q6 => ?_)
    · refine x_iconst (pc' := 91) rfl rfl ?_
      refine x_goto (pc' := 95) rfl rfl ?_
      ((try rw [q6] at J8); (try rw [q6]); (try simp only [cd_t, cd_f, nt_t, nt_f, an_t, an_f, or_t, or_f] at J8); (try simp only [cd_t, cd_f, nt_t, nt_f, an_t, an_f, or_t, or_f]); exact J8)
    · refine x_aload_n (pc' := 66) rfl rfl rfl rfl rfl ?_
      refine x_gR (pc' := 69) (r := (some 13)) rfl rfl rfl (kR_788_0 hc) ?_
      refine x_iload (pc' := 71) rfl rfl rfl ?_
      refine x_iald (pc' := 72) (N := 200) (x := (io (oB M k))) rfl rfl rfl (kN_21_13 hc) (io_in (p := k) (N := 200) (Nat.lt_of_lt_of_le hk (gn200 hR)) (by decide)) (Eq.trans (congrArg (sA t 21 13) (nn_io (p := k) (Nat.lt_trans (Nat.lt_of_lt_of_le hk (gn200 hR)) (by decide)))) (gF13 hM (Fr.refl _) hR hk)) ?_
      refine x_iconst (pc' := 73) rfl rfl ?_
      refine x_icmp (a' := 94) (pc' := 76) (z := decide ((oB M k) < 3)) rfl rfl rfl (ic_lt (p := (oB M k)) (q := 3) (gb31 (gb5 hR hk)) (by decide)) (fun q7 => ?_) (fun q7 => ?_)
      · refine x_iconst (pc' := 95) rfl rfl ?_
        ((try rw [q7] at J8); (try rw [q7]); (try rw [q6] at J8); (try rw [q6]); (try simp only [cd_t, cd_f, nt_t, nt_f, an_t, an_f, or_t, or_f] at J8); (try simp only [cd_t, cd_f, nt_t, nt_f, an_t, an_f, or_t, or_f]); exact J8)
      · refine x_aload_n (pc' := 77) rfl rfl rfl rfl rfl ?_
        refine x_gR (pc' := 80) (r := (some 13)) rfl rfl rfl (kR_788_0 hc) ?_
        refine x_iload (pc' := 82) rfl rfl rfl ?_
        refine x_iald (pc' := 83) (N := 200) (x := (io (oB M k))) rfl rfl rfl (kN_21_13 hc) (io_in (p := k) (N := 200) (Nat.lt_of_lt_of_le hk (gn200 hR)) (by decide)) (Eq.trans (congrArg (sA t 21 13) (nn_io (p := k) (Nat.lt_trans (Nat.lt_of_lt_of_le hk (gn200 hR)) (by decide)))) (gF13 hM (Fr.refl _) hR hk)) ?_
        refine x_cs (ls0 := [_]) (rest := []) rfl rfl rfl rfl ?_
        refine x_iload_n (pc' := 1) rfl rfl rfl ?_
        refine x_iconst (pc' := 2) rfl rfl ?_
        refine x_isub (pc' := 3) (z := ((io (oB M k)) - 3)) rfl rfl rfl ?_
        refine x_reti rfl rfl ?_
        refine sK_i (pc' := 86) rfl ?_
        refine x_iload_n (pc' := 87) rfl rfl rfl ?_
        refine x_icmp_n (a' := 94) (pc' := 90) (z := decide (((io (oB M k)) - 3) = (io c))) rfl rfl rfl (ik_ne _ _) (fun q8 => ?_) (fun q8 => ?_)
        · refine x_iconst (pc' := 95) rfl rfl ?_
          ((try rw [q8] at J8); (try rw [q8]); (try rw [q7] at J8); (try rw [q7]); (try rw [q6] at J8); (try rw [q6]); (try simp only [cd_t, cd_f, nt_t, nt_f, an_t, an_f, or_t, or_f] at J8); (try simp only [cd_t, cd_f, nt_t, nt_f, an_t, an_f, or_t, or_f]); exact J8)
        · refine x_iconst (pc' := 91) rfl rfl ?_
          refine x_goto (pc' := 95) rfl rfl ?_
          ((try rw [q8] at J8); (try rw [q8]); (try rw [q7] at J8); (try rw [q7]); (try rw [q6] at J8); (try rw [q6]); (try simp only [cd_t, cd_f, nt_t, nt_f, an_t, an_f, or_t, or_f] at J8); (try simp only [cd_t, cd_f, nt_t, nt_f, an_t, an_f, or_t, or_f]); exact J8)
  refine x_icmp_n (a' := 51) (pc' := 26) (z := decide ((oM M k) = m)) rfl rfl rfl (ic_nen (p := (oM M k)) (q := m) (gm31 (gm6 hR hk)) (gm31 hm)) (fun q2 => ?_) (fun q2 => ?_)
  · refine x_iconst (pc' := 52) rfl rfl ?_
    ((try rw [q2] at J4); (try rw [q2]); (try simp only [cd_t, cd_f, nt_t, nt_f, an_t, an_f, or_t, or_f] at J4); (try simp only [cd_t, cd_f, nt_t, nt_f, an_t, an_f, or_t, or_f]); exact J4)
  · refine x_aload_n (pc' := 27) rfl rfl rfl rfl rfl ?_
    refine x_gR (pc' := 30) (r := (some 19)) rfl rfl rfl (kR_795_0 hc) ?_
    refine x_iload (pc' := 32) rfl rfl rfl ?_
    refine x_iald (pc' := 33) (N := 200) (x := (mA M 19 k)) rfl rfl rfl (kN_21_19 hc) (io_in (p := k) (N := 200) (Nat.lt_of_lt_of_le hk (gn200 hR)) (by decide)) (Eq.trans (congrArg (sA t 21 19) (nn_io (p := k) (Nat.lt_trans (Nat.lt_of_lt_of_le hk (gn200 hR)) (by decide)))) (gA hM rfl)) ?_
    refine x_if (a' := 47) (pc' := 36) (z := decide ((mA M 19 k) = 0)) rfl rfl rfl rfl (fun q3 => ?_) (fun q3 => ?_)
    · refine x_iconst (pc' := 48) rfl rfl ?_
      refine x_goto (pc' := 52) rfl rfl ?_
      ((try rw [q3] at J4); (try rw [q3]); (try rw [q2] at J4); (try rw [q2]); (try simp only [cd_t, cd_f, nt_t, nt_f, an_t, an_f, or_t, or_f] at J4); (try simp only [cd_t, cd_f, nt_t, nt_f, an_t, an_f, or_t, or_f]); exact J4)
    · refine x_aload_n (pc' := 37) rfl rfl rfl rfl rfl ?_
      refine x_gR (pc' := 40) (r := (some 19)) rfl rfl rfl (kR_795_0 hc) ?_
      refine x_iload (pc' := 42) rfl rfl rfl ?_
      refine x_iald (pc' := 43) (N := 200) (x := (mA M 19 k)) rfl rfl rfl (kN_21_19 hc) (io_in (p := k) (N := 200) (Nat.lt_of_lt_of_le hk (gn200 hR)) (by decide)) (Eq.trans (congrArg (sA t 21 19) (nn_io (p := k) (Nat.lt_trans (Nat.lt_of_lt_of_le hk (gn200 hR)) (by decide)))) (gA hM rfl)) ?_
      refine x_iconst (pc' := 44) rfl rfl ?_
      refine x_icmp_n (a' := 51) (pc' := 47) (z := decide ((mA M 19 k) = 1)) rfl rfl rfl (ik_ne _ _) (fun q4 => ?_) (fun q4 => ?_)
      · refine x_iconst (pc' := 52) rfl rfl ?_
        ((try rw [q4] at J4); (try rw [q4]); (try rw [q3] at J4); (try rw [q3]); (try rw [q2] at J4); (try rw [q2]); (try simp only [cd_t, cd_f, nt_t, nt_f, an_t, an_f, or_t, or_f] at J4); (try simp only [cd_t, cd_f, nt_t, nt_f, an_t, an_f, or_t, or_f]); exact J4)
      · refine x_iconst (pc' := 48) rfl rfl ?_
        refine x_goto (pc' := 52) rfl rfl ?_
        ((try rw [q4] at J4); (try rw [q4]); (try rw [q3] at J4); (try rw [q3]); (try rw [q2] at J4); (try rw [q2]); (try simp only [cd_t, cd_f, nt_t, nt_f, an_t, an_f, or_t, or_f] at J4); (try simp only [cd_t, cd_f, nt_t, nt_f, an_t, an_f, or_t, or_f]); exact J4)
set_option maxHeartbeats 4000000 in
set_option maxRecDepth 10000 in
theorem r183_6 {t : sT} {Q : sRs → sT → Prop} {M : sM} {n : Nat} {m : Nat} {c : Nat} {s : Bool} {a : Int32} {d0 : sV} {d1 : sV} {d2 : sV}
    (hM : rp t = M)
    (hc : Cn t)
    (hR : Ri M n)
    (hm : m < 6)
    (hc3 : c < 3)
    (q : ∀ (e0 : sV) (e1 : sV) (e2 : sV), X 183 6 [.inr (.inr (12, (some 0))), .inl (io m), .inl (io c), .inl (bz s), .inl (cdL M n m c s a n), .inl (io n), e0, e1, e2] [] t Q) :
    X 183 6 [.inr (.inr (12, (some 0))), .inl (io m), .inl (io c), .inl (bz s), .inl a, .inl (io 0), d0, d1, d2] [] t Q := by
  refine lp0 (n := n) (fun k ls u => (∃ e0 e1 e2, ls = [.inr (.inr (12, (some 0))), .inl (io m), .inl (io c), .inl (bz s), .inl (cdL M n m c s a k), .inl (io k), e0, e1, e2]) ∧ u = t) ⟨⟨_, _, _, rfl⟩, rfl⟩ ?_ ?_
  · rintro k ls u hk ⟨⟨e0, e1, e2, rfl⟩, rfl⟩ ih
    refine r183_6_b hM hc hR hk hm hc3 ?_
    intro x0' x1' x2'
    exact ih _ _ ⟨⟨_, _, _, rfl⟩, rfl⟩
  · rintro ls u ⟨⟨e0, e1, e2, rfl⟩, rfl⟩
    exact q e0 e1 e2
def cdF (M : sM) (n : Nat) (m : Nat) (c : Nat) (s : Bool) : Int32 := (cdL M n m c s 0 n)
set_option maxHeartbeats 4000000 in
set_option maxRecDepth 10000 in
theorem r183 {t : sT} {Q : sRs → sT → Prop} {M : sM} {n : Nat} {m : Nat} {c : Nat} {s : Bool}
    (hM : rp t = M)
    (hc : Cn t)
    (hR : Ri M n)
    (hm : m < 6)
    (hc3 : c < 3)
    (q : Q (.inl (some (.inl (cdF M n m c s)))) t) :
    X 183 0 [.inr (.inr (12, (some 0))), .inl (io m), .inl (io c), .inl (bz s), sJk, sJk, sJk, sJk, sJk] [] t Q := by
  refine x_iconst (pc' := 1) rfl rfl ?_
  refine x_istore (pc' := 3) (ls' := [_, _, _, _, _, _, _, _, _]) rfl rfl rfl rfl ?_
  refine x_iconst (pc' := 4) rfl rfl ?_
  refine x_istore (pc' := 6) (ls' := [_, _, _, _, _, _, _, _, _]) rfl rfl rfl rfl ?_
  refine r183_6 (m := m) (c := c) (s := s) (a := 0) hM hc (Fr.ri (Fr.refl _) hR) hm hc3 (fun y1_0 y1_1 y1_2 => ?_)
  refine x_iload (pc' := 8) rfl rfl rfl ?_
  refine x_aload_n (pc' := 9) rfl rfl rfl rfl rfl ?_
  refine x_gI (pc' := 12) (x := (io n)) rfl rfl rfl (gFn hM (Fr.refl _) hR) ?_
  refine x_icmp_n (a' := 190) (pc' := 15) (z := decide (n < n)) rfl rfl rfl (ic_gen (p := n) (q := n) (gn31 hR) (gn31 hR)) (fun _ => ?_) (fun h => absurd (of_decide_eq_true h) (by first | decide | omega | simp))
  refine x_iload (pc' := 192) rfl rfl rfl ?_
  refine x_reti rfl rfl ?_
  exact q 
def waS (M : sM) (n : Nat) (b : Nat) (s : Bool) (p : Int32) (k : Nat) (a : Int32) : Int32 := (a + (bif ((decide ((mA M 19 k) = 1)) && ((decide ((oB M k) = b)) && (!(xor (mB M 3 k) s) && (bif s then (!(decide ((mA M 14 k) < p))) else (!(decide (p < (mA M 14 k)))))))) then (mA M 15 k) else 0))
def waL (M : sM) (n : Nat) (b : Nat) (s : Bool) (p : Int32) (a : Int32) : Nat → Int32
  | 0 => a
  | k + 1 => waS M n b s p k (waL M n b s p a k)
set_option maxHeartbeats 4000000 in
set_option maxRecDepth 10000 in
theorem r188_6_b {t : sT} {Q : sRs → sT → Prop} {M : sM} {n : Nat} {k : Nat} {b : Nat} {s : Bool} {p : Int32} {a : Int32} {d0 : sV}
    (hM : rp t = M)
    (hc : Cn t)
    (hR : Ri M n)
    (hk : k < n)
    (hb : b < 5)
    (q : ∀ (e0 : sV), X 188 6 [.inr (.inr (12, (some 0))), .inl (io b), .inl (bz s), .inl p, .inl (waS M n b s p k a), .inl (io (k + 1)), e0] [] t Q) :
    X 188 6 [.inr (.inr (12, (some 0))), .inl (io b), .inl (bz s), .inl p, .inl a, .inl (io k), d0] [] t Q := by
  refine x_iload (pc' := 8) rfl rfl rfl ?_
  refine x_aload_n (pc' := 9) rfl rfl rfl rfl rfl ?_
  refine x_gI (pc' := 12) (x := (io n)) rfl rfl rfl (gFn hM (Fr.refl _) hR) ?_
  refine x_icmp_n (a' := 111) (pc' := 15) (z := decide (k < n)) rfl rfl rfl (ic_gen (p := k) (q := n) (Nat.lt_trans hk (gn31 hR)) (gn31 hR)) (fun h => absurd hk (of_decide_eq_false h)) (fun _ => ?_)
  refine x_aload_n (pc' := 16) rfl rfl rfl rfl rfl ?_
  refine x_gR (pc' := 19) (r := (some 19)) rfl rfl rfl (kR_795_0 hc) ?_
  refine x_iload (pc' := 21) rfl rfl rfl ?_
  refine x_iald (pc' := 22) (N := 200) (x := (mA M 19 k)) rfl rfl rfl (kN_21_19 hc) (io_in (p := k) (N := 200) (Nat.lt_of_lt_of_le hk (gn200 hR)) (by decide)) (Eq.trans (congrArg (sA t 21 19) (nn_io (p := k) (Nat.lt_trans (Nat.lt_of_lt_of_le hk (gn200 hR)) (by decide)))) (gA hM rfl)) ?_
  refine x_iconst (pc' := 23) rfl rfl ?_
  have J7 : X 188 82 [.inr (.inr (12, (some 0))), .inl (io b), .inl (bz s), .inl p, .inl a, .inl (io k), d0] [.inl (bz ((decide ((mA M 19 k) = 1)) && ((decide ((oB M k) = b)) && (!(xor (mB M 3 k) s) && (bif s then (!(decide ((mA M 14 k) < p))) else (!(decide (p < (mA M 14 k)))))))))] t Q := by
    refine x_istore (pc' := 84) (ls' := [_, _, _, _, _, _, _]) rfl rfl rfl rfl ?_
    refine x_iload (pc' := 86) rfl rfl rfl ?_
    refine x_iload (pc' := 88) rfl rfl rfl ?_
    have J9 : X 188 102 [.inr (.inr (12, (some 0))), .inl (io b), .inl (bz s), .inl p, .inl a, .inl (io k), .inl (bz ((decide ((mA M 19 k) = 1)) && ((decide ((oB M k) = b)) && (!(xor (mB M 3 k) s) && (bif s then (!(decide ((mA M 14 k) < p))) else (!(decide (p < (mA M 14 k)))))))))] [.inl (bif ((decide ((mA M 19 k) = 1)) && ((decide ((oB M k) = b)) && (!(xor (mB M 3 k) s) && (bif s then (!(decide ((mA M 14 k) < p))) else (!(decide (p < (mA M 14 k)))))))) then (mA M 15 k) else 0), .inl a] t Q := by
      refine x_iadd (pc' := 103) (z := (a + (bif ((decide ((mA M 19 k) = 1)) && ((decide ((oB M k) = b)) && (!(xor (mB M 3 k) s) && (bif s then (!(decide ((mA M 14 k) < p))) else (!(decide (p < (mA M 14 k)))))))) then (mA M 15 k) else 0))) rfl rfl rfl ?_
      refine x_istore (pc' := 105) (ls' := [_, _, _, _, _, _, _]) rfl rfl rfl rfl ?_
      refine x_iinc (pc' := 108) (y := (io (k + 1))) (ls' := [_, _, _, _, _, _, _]) rfl rfl rfl (io_add k 1) rfl ?_
      refine x_goto (pc' := 6) rfl rfl ?_
      exact q (.inl (bz ((decide ((mA M 19 k) = 1)) && ((decide ((oB M k) = b)) && (!(xor (mB M 3 k) s) && (bif s then (!(decide ((mA M 14 k) < p))) else (!(decide (p < (mA M 14 k))))))))))
    refine x_ifeq_z (a' := 101) (pc' := 91) (z := ((decide ((mA M 19 k) = 1)) && ((decide ((oB M k) = b)) && (!(xor (mB M 3 k) s) && (bif s then (!(decide ((mA M 14 k) < p))) else (!(decide (p < (mA M 14 k))))))))) rfl rfl rfl (fun q9 => ?_) (fun q9 => ?_)
    · refine x_iconst (pc' := 102) rfl rfl ?_
      ((try rw [q9] at J9); (try rw [q9]); (try simp only [cd_t, cd_f, nt_t, nt_f, an_t, an_f, or_t, or_f] at J9); (try simp only [cd_t, cd_f, nt_t, nt_f, an_t, an_f, or_t, or_f]); exact J9)
    · refine x_aload_n (pc' := 92) rfl rfl rfl rfl rfl ?_
      refine x_gR (pc' := 95) (r := (some 15)) rfl rfl rfl (kR_791_0 hc) ?_
      refine x_iload (pc' := 97) rfl rfl rfl ?_
      refine x_iald (pc' := 98) (N := 200) (x := (mA M 15 k)) rfl rfl rfl (kN_21_15 hc) (io_in (p := k) (N := 200) (Nat.lt_of_lt_of_le hk (gn200 hR)) (by decide)) (Eq.trans (congrArg (sA t 21 15) (nn_io (p := k) (Nat.lt_trans (Nat.lt_of_lt_of_le hk (gn200 hR)) (by decide)))) (gA hM rfl)) ?_
      refine x_goto (pc' := 102) rfl rfl ?_
      ((try rw [q9] at J9); (try rw [q9]); (try simp only [cd_t, cd_f, nt_t, nt_f, an_t, an_f, or_t, or_f] at J9); (try simp only [cd_t, cd_f, nt_t, nt_f, an_t, an_f, or_t, or_f]); exact J9)
  refine x_icmp_n (a' := 81) (pc' := 26) (z := decide ((mA M 19 k) = 1)) rfl rfl rfl (ik_ne _ _) (fun q2 => ?_) (fun q2 => ?_)
  · refine x_iconst (pc' := 82) rfl rfl ?_
    ((try rw [q2] at J7); (try rw [q2]); (try simp only [cd_t, cd_f, nt_t, nt_f, an_t, an_f, or_t, or_f] at J7); (try simp only [cd_t, cd_f, nt_t, nt_f, an_t, an_f, or_t, or_f]); exact J7)
  · refine x_aload_n (pc' := 27) rfl rfl rfl rfl rfl ?_
    refine x_gR (pc' := 30) (r := (some 13)) rfl rfl rfl (kR_788_0 hc) ?_
    refine x_iload (pc' := 32) rfl rfl rfl ?_
    refine x_iald (pc' := 33) (N := 200) (x := (io (oB M k))) rfl rfl rfl (kN_21_13 hc) (io_in (p := k) (N := 200) (Nat.lt_of_lt_of_le hk (gn200 hR)) (by decide)) (Eq.trans (congrArg (sA t 21 13) (nn_io (p := k) (Nat.lt_trans (Nat.lt_of_lt_of_le hk (gn200 hR)) (by decide)))) (gF13 hM (Fr.refl _) hR hk)) ?_
    refine x_iload_n (pc' := 34) rfl rfl rfl ?_
    refine x_icmp_n (a' := 81) (pc' := 37) (z := decide ((oB M k) = b)) rfl rfl rfl (ic_nen (p := (oB M k)) (q := b) (gb31 (gb5 hR hk)) (gb31 hb)) (fun q3 => ?_) (fun q3 => ?_)
    · refine x_iconst (pc' := 82) rfl rfl ?_
      ((try rw [q3] at J7); (try rw [q3]); (try rw [q2] at J7); (try rw [q2]); (try simp only [cd_t, cd_f, nt_t, nt_f, an_t, an_f, or_t, or_f] at J7); (try simp only [cd_t, cd_f, nt_t, nt_f, an_t, an_f, or_t, or_f]); exact J7)
    · refine x_aload_n (pc' := 38) rfl rfl rfl rfl rfl ?_
      refine x_gR (pc' := 41) (r := (some 3)) rfl rfl rfl (kR_789_0 hc) ?_
      refine x_iload (pc' := 43) rfl rfl rfl ?_
      refine x_bald (pc' := 44) (N := 200) (z := (mB M 3 k)) rfl rfl (kN_22_3 hc) (io_in (p := k) (N := 200) (Nat.lt_of_lt_of_le hk (gn200 hR)) (by decide)) (Eq.trans (congrArg (sB t 22 3) (nn_io (p := k) (Nat.lt_trans (Nat.lt_of_lt_of_le hk (gn200 hR)) (by decide)))) (gF3 hM (Fr.refl _))) ?_
      refine x_iload_n (pc' := 45) rfl rfl rfl ?_
      refine x_icmp (a' := 81) (pc' := 48) (z := (xor (mB M 3 k) s)) rfl rfl rfl (bz_neb _ _) (fun q4 => ?_) (fun q4 => ?_)
      · refine x_iconst (pc' := 82) rfl rfl ?_
        ((try rw [q4] at J7); (try rw [q4]); (try rw [q3] at J7); (try rw [q3]); (try rw [q2] at J7); (try rw [q2]); (try simp only [cd_t, cd_f, nt_t, nt_f, an_t, an_f, or_t, or_f] at J7); (try simp only [cd_t, cd_f, nt_t, nt_f, an_t, an_f, or_t, or_f]); exact J7)
      · refine x_iload_n (pc' := 49) rfl rfl rfl ?_
        refine x_ifeq_z (a' := 66) (pc' := 52) (z := s) rfl rfl rfl (fun q5 => ?_) (fun q5 => ?_)
        · refine x_aload_n (pc' := 67) rfl rfl rfl rfl rfl ?_
          refine x_gR (pc' := 70) (r := (some 14)) rfl rfl rfl (kR_790_0 hc) ?_
          refine x_iload (pc' := 72) rfl rfl rfl ?_
          refine x_iald (pc' := 73) (N := 200) (x := (mA M 14 k)) rfl rfl rfl (kN_21_14 hc) (io_in (p := k) (N := 200) (Nat.lt_of_lt_of_le hk (gn200 hR)) (by decide)) (Eq.trans (congrArg (sA t 21 14) (nn_io (p := k) (Nat.lt_trans (Nat.lt_of_lt_of_le hk (gn200 hR)) (by decide)))) (gF14 hM (Fr.refl _))) ?_
          refine x_iload_n (pc' := 74) rfl rfl rfl ?_
          refine x_icmp (a' := 81) (pc' := 77) (z := decide (p < (mA M 14 k))) rfl rfl rfl rfl (fun q6 => ?_) (fun q6 => ?_)
          · refine x_iconst (pc' := 82) rfl rfl ?_
            ((try rw [q6] at J7); (try rw [q6]); (try rw [q4] at J7); (try rw [q4]); (try rw [q3] at J7); (try rw [q3]); (try rw [q2] at J7); (try rw [q2]); (try rw [q5] at J7); (try rw [q5]); (try simp only [cd_t, cd_f, nt_t, nt_f, an_t, an_f, or_t, or_f] at J7); (try simp only [cd_t, cd_f, nt_t, nt_f, an_t, an_f, or_t, or_f]); exact J7)
          · refine x_iconst (pc' := 78) rfl rfl ?_
            refine x_goto (pc' := 82) rfl rfl ?_
            ((try rw [q6] at J7); (try rw [q6]); (try rw [q4] at J7); (try rw [q4]); (try rw [q3] at J7); (try rw [q3]); (try rw [q2] at J7); (try rw [q2]); (try rw [q5] at J7); (try rw [q5]); (try simp only [cd_t, cd_f, nt_t, nt_f, an_t, an_f, or_t, or_f] at J7); (try simp only [cd_t, cd_f, nt_t, nt_f, an_t, an_f, or_t, or_f]); exact J7)
        · refine x_aload_n (pc' := 53) rfl rfl rfl rfl rfl ?_
          refine x_gR (pc' := 56) (r := (some 14)) rfl rfl rfl (kR_790_0 hc) ?_
          refine x_iload (pc' := 58) rfl rfl rfl ?_
          refine x_iald (pc' := 59) (N := 200) (x := (mA M 14 k)) rfl rfl rfl (kN_21_14 hc) (io_in (p := k) (N := 200) (Nat.lt_of_lt_of_le hk (gn200 hR)) (by decide)) (Eq.trans (congrArg (sA t 21 14) (nn_io (p := k) (Nat.lt_trans (Nat.lt_of_lt_of_le hk (gn200 hR)) (by decide)))) (gF14 hM (Fr.refl _))) ?_
          refine x_iload_n (pc' := 60) rfl rfl rfl ?_
          refine x_icmp (a' := 81) (pc' := 63) (z := decide ((mA M 14 k) < p)) rfl rfl rfl rfl (fun q7 => ?_) (fun q7 => ?_)
          · refine x_iconst (pc' := 82) rfl rfl ?_
            ((try rw [q7] at J7); (try rw [q7]); (try rw [q4] at J7); (try rw [q4]); (try rw [q3] at J7); (try rw [q3]); (try rw [q2] at J7); (try rw [q2]); (try rw [q5] at J7); (try rw [q5]); (try simp only [cd_t, cd_f, nt_t, nt_f, an_t, an_f, or_t, or_f] at J7); (try simp only [cd_t, cd_f, nt_t, nt_f, an_t, an_f, or_t, or_f]); exact J7)
          · refine x_goto (pc' := 77) rfl rfl ?_
            refine x_iconst (pc' := 78) rfl rfl ?_
            refine x_goto (pc' := 82) rfl rfl ?_
            ((try rw [q7] at J7); (try rw [q7]); (try rw [q4] at J7); (try rw [q4]); (try rw [q3] at J7); (try rw [q3]); (try rw [q2] at J7); (try rw [q2]); (try rw [q5] at J7); (try rw [q5]); (try simp only [cd_t, cd_f, nt_t, nt_f, an_t, an_f, or_t, or_f] at J7); (try simp only [cd_t, cd_f, nt_t, nt_f, an_t, an_f, or_t, or_f]); exact J7)
set_option maxHeartbeats 4000000 in
set_option maxRecDepth 10000 in
theorem r188_6 {t : sT} {Q : sRs → sT → Prop} {M : sM} {n : Nat} {b : Nat} {s : Bool} {p : Int32} {a : Int32} {d0 : sV}
    (hM : rp t = M)
    (hc : Cn t)
    (hR : Ri M n)
    (hb : b < 5)
    (q : ∀ (e0 : sV), X 188 6 [.inr (.inr (12, (some 0))), .inl (io b), .inl (bz s), .inl p, .inl (waL M n b s p a n), .inl (io n), e0] [] t Q) :
    X 188 6 [.inr (.inr (12, (some 0))), .inl (io b), .inl (bz s), .inl p, .inl a, .inl (io 0), d0] [] t Q := by
  refine lp0 (n := n) (fun k ls u => (∃ e0, ls = [.inr (.inr (12, (some 0))), .inl (io b), .inl (bz s), .inl p, .inl (waL M n b s p a k), .inl (io k), e0]) ∧ u = t) ⟨⟨_, rfl⟩, rfl⟩ ?_ ?_
  · rintro k ls u hk ⟨⟨e0, rfl⟩, rfl⟩ ih
    refine r188_6_b hM hc hR hk hb ?_
    intro x0'
    exact ih _ _ ⟨⟨_, rfl⟩, rfl⟩
  · rintro ls u ⟨⟨e0, rfl⟩, rfl⟩
    exact q e0
def waF (M : sM) (n : Nat) (b : Nat) (s : Bool) (p : Int32) : Int32 := (waL M n b s p 0 n)
set_option maxHeartbeats 4000000 in
set_option maxRecDepth 10000 in
theorem r188 {t : sT} {Q : sRs → sT → Prop} {M : sM} {n : Nat} {b : Nat} {s : Bool} {p : Int32}
    (hM : rp t = M)
    (hc : Cn t)
    (hR : Ri M n)
    (hb : b < 5)
    (q : Q (.inl (some (.inl (waF M n b s p)))) t) :
    X 188 0 [.inr (.inr (12, (some 0))), .inl (io b), .inl (bz s), .inl p, sJk, sJk, sJk] [] t Q := by
  refine x_iconst (pc' := 1) rfl rfl ?_
  refine x_istore (pc' := 3) (ls' := [_, _, _, _, _, _, _]) rfl rfl rfl rfl ?_
  refine x_iconst (pc' := 4) rfl rfl ?_
  refine x_istore (pc' := 6) (ls' := [_, _, _, _, _, _, _]) rfl rfl rfl rfl ?_
  refine r188_6 (b := b) (s := s) (p := p) (a := 0) hM hc (Fr.ri (Fr.refl _) hR) hb (fun y1_0 => ?_)
  refine x_iload (pc' := 8) rfl rfl rfl ?_
  refine x_aload_n (pc' := 9) rfl rfl rfl rfl rfl ?_
  refine x_gI (pc' := 12) (x := (io n)) rfl rfl rfl (gFn hM (Fr.refl _) hR) ?_
  refine x_icmp_n (a' := 111) (pc' := 15) (z := decide (n < n)) rfl rfl rfl (ic_gen (p := n) (q := n) (gn31 hR) (gn31 hR)) (fun _ => ?_) (fun h => absurd (of_decide_eq_true h) (by first | decide | omega | simp))
  refine x_iload (pc' := 113) rfl rfl rfl ?_
  refine x_reti rfl rfl ?_
  exact q 
def bsS (M : sM) (n : Nat) (b : Nat) (s : Bool) (k : Nat) (f : Option Nat) : Option Nat := (bif ((decide ((mA M 19 k) = 1)) && ((decide ((oB M k) = b)) && (!(xor (mB M 3 k) s)))) then (bif f.isNone then (some k) else (bif (bif (decide ((mA M 14 k) = (mA M 14 (ovD f)))) then (decide ((mA M 18 k) < (mA M 18 (ovD f)))) else (bif (mB M 3 k) then (decide ((mA M 14 (ovD f)) < (mA M 14 k))) else (decide ((mA M 14 k) < (mA M 14 (ovD f)))))) then (some k) else f)) else f)
def bsL (M : sM) (n : Nat) (b : Nat) (s : Bool) (f : Option Nat) : Nat → Option Nat
  | 0 => f
  | k + 1 => bsS M n b s k (bsL M n b s f k)
set_option maxHeartbeats 4000000 in
set_option maxRecDepth 10000 in
theorem r153_5_b {t : sT} {Q : sRs → sT → Prop} {M : sM} {n : Nat} {k : Nat} {b : Nat} {s : Bool} {f : Option Nat} {d0 : sV}
    (hM : rp t = M)
    (hc : Cn t)
    (hR : Ri M n)
    (hk : k < n)
    (hb : b < 5)
    (hb_f : ∀ j, f = some j → j < n)
    (q : ∀ (e0 : sV), (∀ j, (bsS M n b s k f) = some j → j < n) → X 153 5 [.inr (.inr (12, (some 0))), .inl (io b), .inl (bz s), .inl (ov (bsS M n b s k f)), .inl (io (k + 1)), e0] [] t Q) :
    X 153 5 [.inr (.inr (12, (some 0))), .inl (io b), .inl (bz s), .inl (ov f), .inl (io k), d0] [] t Q := by
  refine x_iload (pc' := 7) rfl rfl rfl ?_
  refine x_aload_n (pc' := 8) rfl rfl rfl rfl rfl ?_
  refine x_gI (pc' := 11) (x := (io n)) rfl rfl rfl (gFn hM (Fr.refl _) hR) ?_
  refine x_icmp_n (a' := 87) (pc' := 14) (z := decide (k < n)) rfl rfl rfl (ic_gen (p := k) (q := n) (Nat.lt_trans hk (gn31 hR)) (gn31 hR)) (fun h => absurd hk (of_decide_eq_false h)) (fun _ => ?_)
  refine x_aload_n (pc' := 15) rfl rfl rfl rfl rfl ?_
  refine x_gR (pc' := 18) (r := (some 19)) rfl rfl rfl (kR_795_0 hc) ?_
  refine x_iload (pc' := 20) rfl rfl rfl ?_
  refine x_iald (pc' := 21) (N := 200) (x := (mA M 19 k)) rfl rfl rfl (kN_21_19 hc) (io_in (p := k) (N := 200) (Nat.lt_of_lt_of_le hk (gn200 hR)) (by decide)) (Eq.trans (congrArg (sA t 21 19) (nn_io (p := k) (Nat.lt_trans (Nat.lt_of_lt_of_le hk (gn200 hR)) (by decide)))) (gA hM rfl)) ?_
  refine x_iconst (pc' := 22) rfl rfl ?_
  have J4 : X 153 52 [.inr (.inr (12, (some 0))), .inl (io b), .inl (bz s), .inl (ov f), .inl (io k), d0] [.inl (bz ((decide ((mA M 19 k) = 1)) && ((decide ((oB M k) = b)) && (!(xor (mB M 3 k) s)))))] t Q := by
    refine x_istore (pc' := 54) (ls' := [_, _, _, _, _, _]) rfl rfl rfl rfl ?_
    refine x_iload (pc' := 56) rfl rfl rfl ?_
    have J16 : X 153 80 [.inr (.inr (12, (some 0))), .inl (io b), .inl (bz s), .inl (ov f), .inl (io k), .inl (bz ((decide ((mA M 19 k) = 1)) && ((decide ((oB M k) = b)) && (!(xor (mB M 3 k) s)))))] [.inl (ov (bif ((decide ((mA M 19 k) = 1)) && ((decide ((oB M k) = b)) && (!(xor (mB M 3 k) s)))) then (bif f.isNone then (some k) else (bif (bif (decide ((mA M 14 k) = (mA M 14 (ovD f)))) then (decide ((mA M 18 k) < (mA M 18 (ovD f)))) else (bif (mB M 3 k) then (decide ((mA M 14 (ovD f)) < (mA M 14 k))) else (decide ((mA M 14 k) < (mA M 14 (ovD f)))))) then (some k) else f)) else f))] t Q := by
      refine x_istore_n (pc' := 81) (ls' := [_, _, _, _, _, _]) rfl rfl rfl rfl ?_
      refine x_iinc (pc' := 84) (y := (io (k + 1))) (ls' := [_, _, _, _, _, _]) rfl rfl rfl (io_add k 1) rfl ?_
      refine x_goto (pc' := 5) rfl rfl ?_
      exact q (.inl (bz ((decide ((mA M 19 k) = 1)) && ((decide ((oB M k) = b)) && (!(xor (mB M 3 k) s)))))) (obd_c (obd_c (obd_s hk) (obd_c (obd_s hk) hb_f)) hb_f)
    refine x_ifeq_z (a' := 79) (pc' := 59) (z := ((decide ((mA M 19 k) = 1)) && ((decide ((oB M k) = b)) && (!(xor (mB M 3 k) s))))) rfl rfl rfl (fun q6 => ?_) (fun q6 => ?_)
    · refine x_iload_n (pc' := 80) rfl rfl rfl ?_
      ((try rw [q6] at J16); (try rw [q6]); (try simp only [cd_t, cd_f, nt_t, nt_f, an_t, an_f, or_t, or_f] at J16); (try simp only [cd_t, cd_f, nt_t, nt_f, an_t, an_f, or_t, or_f]); exact J16)
    · refine x_iload_n (pc' := 60) rfl rfl rfl ?_
      refine x_iconst (pc' := 61) rfl rfl ?_
      refine x_icmp (a' := 74) (pc' := 64) (z := f.isNone) rfl rfl rfl (ov_eq (ov_31 (N := n) hb_f (Nat.le_of_lt (gn31 hR)))) (fun q7 => ?_) (fun q7 => ?_)
      · refine x_iload (pc' := 76) rfl rfl rfl ?_
        refine x_goto (pc' := 80) rfl rfl ?_
        ((try rw [q7] at J16); (try rw [q7]); (try rw [q6] at J16); (try rw [q6]); (try simp only [cd_t, cd_f, nt_t, nt_f, an_t, an_f, or_t, or_f] at J16); (try simp only [cd_t, cd_f, nt_t, nt_f, an_t, an_f, or_t, or_f]); exact J16)
      · refine x_aload_n (pc' := 65) rfl rfl rfl rfl rfl ?_
        refine x_iload (pc' := 67) rfl rfl rfl ?_
        refine x_iload_n (pc' := 68) rfl rfl rfl ?_
        refine x_cv (ls0 := [_, _, _]) (rest := []) rfl rfl rfl rfl rfl ?_
        refine x_aload_n (pc' := 1) rfl rfl rfl rfl rfl ?_
        refine x_gR (pc' := 4) (r := (some 14)) rfl rfl rfl (kR_790_0 hc) ?_
        refine x_iload_n (pc' := 5) rfl rfl rfl ?_
        refine x_iald (pc' := 6) (N := 200) (x := (mA M 14 k)) rfl rfl rfl (kN_21_14 hc) (io_in (p := k) (N := 200) (Nat.lt_of_lt_of_le hk (gn200 hR)) (by decide)) (Eq.trans (congrArg (sA t 21 14) (nn_io (p := k) (Nat.lt_trans (Nat.lt_of_lt_of_le hk (gn200 hR)) (by decide)))) (gF14 hM (Fr.refl _))) ?_
        refine x_aload_n (pc' := 7) rfl rfl rfl rfl rfl ?_
        refine x_gR (pc' := 10) (r := (some 14)) rfl rfl rfl (kR_790_0 hc) ?_
        refine x_iload_n (pc' := 11) rfl rfl rfl ?_
        refine x_iald (pc' := 12) (N := 200) (x := (mA M 14 (ovD f))) rfl rfl rfl (kN_21_14 hc) (ov_in q7 (Nat.lt_of_lt_of_le (ov_lt (N := n) q7 hb_f) (gn200 hR)) (by decide)) (Eq.trans (congrArg (sA t 21 14) (ov_nn q7 (Nat.lt_trans (Nat.lt_of_lt_of_le (ov_lt (N := n) q7 hb_f) (gn200 hR)) (by decide)))) (gF14 hM (Fr.refl _))) ?_
        have J14 : ((sK 152 153 68 [.inr (.inr (12, (some 0))), .inl (io b), .inl (bz s), .inl (ov f), .inl (io k), .inl (bz ((decide ((mA M 19 k) = 1)) && ((decide ((oB M k) = b)) && (!(xor (mB M 3 k) s)))))] [] Q) : sRs → sT → Prop) (.inl (some (.inl (bz (bif (decide ((mA M 14 k) = (mA M 14 (ovD f)))) then (decide ((mA M 18 k) < (mA M 18 (ovD f)))) else (bif (mB M 3 k) then (decide ((mA M 14 (ovD f)) < (mA M 14 k))) else (decide ((mA M 14 k) < (mA M 14 (ovD f)))))))))) t := by
          refine sK_i (pc' := 71) rfl ?_
          refine x_ifeq_z (a' := 79) (pc' := 74) (z := (bif (decide ((mA M 14 k) = (mA M 14 (ovD f)))) then (decide ((mA M 18 k) < (mA M 18 (ovD f)))) else (bif (mB M 3 k) then (decide ((mA M 14 (ovD f)) < (mA M 14 k))) else (decide ((mA M 14 k) < (mA M 14 (ovD f))))))) rfl rfl rfl (fun q16 => ?_) (fun q16 => ?_)
          · refine x_iload_n (pc' := 80) rfl rfl rfl ?_
            ((try rw [q16] at J16); (try rw [q16]); (try rw [q7] at J16); (try rw [q7]); (try rw [q6] at J16); (try rw [q6]); (try simp only [cd_t, cd_f, nt_t, nt_f, an_t, an_f, or_t, or_f] at J16); (try simp only [cd_t, cd_f, nt_t, nt_f, an_t, an_f, or_t, or_f]); exact J16)
          · refine x_iload (pc' := 76) rfl rfl rfl ?_
            refine x_goto (pc' := 80) rfl rfl ?_
            ((try rw [q16] at J16); (try rw [q16]); (try rw [q7] at J16); (try rw [q7]); (try rw [q6] at J16); (try rw [q6]); (try simp only [cd_t, cd_f, nt_t, nt_f, an_t, an_f, or_t, or_f] at J16); (try simp only [cd_t, cd_f, nt_t, nt_f, an_t, an_f, or_t, or_f]); exact J16)
        refine x_icmp (a' := 68) (pc' := 15) (z := decide ((mA M 14 k) = (mA M 14 (ovD f)))) rfl rfl rfl rfl (fun q8 => ?_) (fun q8 => ?_)
        · refine x_aload_n (pc' := 69) rfl rfl rfl rfl rfl ?_
          refine x_gR (pc' := 72) (r := (some 18)) rfl rfl rfl (kR_794_0 hc) ?_
          refine x_iload_n (pc' := 73) rfl rfl rfl ?_
          refine x_iald (pc' := 74) (N := 200) (x := (mA M 18 k)) rfl rfl rfl (kN_21_18 hc) (io_in (p := k) (N := 200) (Nat.lt_of_lt_of_le hk (gn200 hR)) (by decide)) (Eq.trans (congrArg (sA t 21 18) (nn_io (p := k) (Nat.lt_trans (Nat.lt_of_lt_of_le hk (gn200 hR)) (by decide)))) (gA hM rfl)) ?_
          refine x_aload_n (pc' := 75) rfl rfl rfl rfl rfl ?_
          refine x_gR (pc' := 78) (r := (some 18)) rfl rfl rfl (kR_794_0 hc) ?_
          refine x_iload_n (pc' := 79) rfl rfl rfl ?_
          refine x_iald (pc' := 80) (N := 200) (x := (mA M 18 (ovD f))) rfl rfl rfl (kN_21_18 hc) (ov_in q7 (Nat.lt_of_lt_of_le (ov_lt (N := n) q7 hb_f) (gn200 hR)) (by decide)) (Eq.trans (congrArg (sA t 21 18) (ov_nn q7 (Nat.lt_trans (Nat.lt_of_lt_of_le (ov_lt (N := n) q7 hb_f) (gn200 hR)) (by decide)))) (gA hM rfl)) ?_
          have J9 : X 152 88 [.inr (.inr (12, (some 0))), .inl (io k), .inl (ov f)] [.inl (bz (decide ((mA M 18 k) < (mA M 18 (ovD f)))))] t (sK 152 153 68 [.inr (.inr (12, (some 0))), .inl (io b), .inl (bz s), .inl (ov f), .inl (io k), .inl (bz ((decide ((mA M 19 k) = 1)) && ((decide ((oB M k) = b)) && (!(xor (mB M 3 k) s)))))] [] Q) := by
            refine x_retz (z := (decide ((mA M 18 k) < (mA M 18 (ovD f))))) rfl rfl ?_
            ((try rw [q8] at J14); (try rw [q8]); (try simp only [cd_t, cd_f, nt_t, nt_f, an_t, an_f, or_t, or_f] at J14); (try simp only [cd_t, cd_f, nt_t, nt_f, an_t, an_f, or_t, or_f]); exact J14)
          refine x_icmp_n (a' := 87) (pc' := 83) (z := decide ((mA M 18 k) < (mA M 18 (ovD f)))) rfl rfl rfl (ik_ge _ _) (fun q9 => ?_) (fun q9 => ?_)
          · refine x_iconst (pc' := 88) rfl rfl ?_
            ((try rw [q9] at J9); (try rw [q9]); (try simp only [cd_t, cd_f, nt_t, nt_f, an_t, an_f, or_t, or_f] at J9); (try simp only [cd_t, cd_f, nt_t, nt_f, an_t, an_f, or_t, or_f]); exact J9)
          · refine x_iconst (pc' := 84) rfl rfl ?_
            refine x_goto (pc' := 88) rfl rfl ?_
            ((try rw [q9] at J9); (try rw [q9]); (try simp only [cd_t, cd_f, nt_t, nt_f, an_t, an_f, or_t, or_f] at J9); (try simp only [cd_t, cd_f, nt_t, nt_f, an_t, an_f, or_t, or_f]); exact J9)
        · refine x_aload_n (pc' := 16) rfl rfl rfl rfl rfl ?_
          refine x_gR (pc' := 19) (r := (some 3)) rfl rfl rfl (kR_789_0 hc) ?_
          refine x_iload_n (pc' := 20) rfl rfl rfl ?_
          refine x_bald (pc' := 21) (N := 200) (z := (mB M 3 k)) rfl rfl (kN_22_3 hc) (io_in (p := k) (N := 200) (Nat.lt_of_lt_of_le hk (gn200 hR)) (by decide)) (Eq.trans (congrArg (sB t 22 3) (nn_io (p := k) (Nat.lt_trans (Nat.lt_of_lt_of_le hk (gn200 hR)) (by decide)))) (gF3 hM (Fr.refl _))) ?_
          have J13 : X 152 67 [.inr (.inr (12, (some 0))), .inl (io k), .inl (ov f)] [.inl (bz (bif (mB M 3 k) then (decide ((mA M 14 (ovD f)) < (mA M 14 k))) else (decide ((mA M 14 k) < (mA M 14 (ovD f))))))] t (sK 152 153 68 [.inr (.inr (12, (some 0))), .inl (io b), .inl (bz s), .inl (ov f), .inl (io k), .inl (bz ((decide ((mA M 19 k) = 1)) && ((decide ((oB M k) = b)) && (!(xor (mB M 3 k) s)))))] [] Q) := by
            refine x_retz (z := (bif (mB M 3 k) then (decide ((mA M 14 (ovD f)) < (mA M 14 k))) else (decide ((mA M 14 k) < (mA M 14 (ovD f)))))) rfl rfl ?_
            ((try rw [q8] at J14); (try rw [q8]); (try simp only [cd_t, cd_f, nt_t, nt_f, an_t, an_f, or_t, or_f] at J14); (try simp only [cd_t, cd_f, nt_t, nt_f, an_t, an_f, or_t, or_f]); exact J14)
          refine x_ifeq_z (a' := 47) (pc' := 24) (z := (mB M 3 k)) rfl rfl rfl (fun q11 => ?_) (fun q11 => ?_)
          · refine x_aload_n (pc' := 48) rfl rfl rfl rfl rfl ?_
            refine x_gR (pc' := 51) (r := (some 14)) rfl rfl rfl (kR_790_0 hc) ?_
            refine x_iload_n (pc' := 52) rfl rfl rfl ?_
            refine x_iald (pc' := 53) (N := 200) (x := (mA M 14 k)) rfl rfl rfl (kN_21_14 hc) (io_in (p := k) (N := 200) (Nat.lt_of_lt_of_le hk (gn200 hR)) (by decide)) (Eq.trans (congrArg (sA t 21 14) (nn_io (p := k) (Nat.lt_trans (Nat.lt_of_lt_of_le hk (gn200 hR)) (by decide)))) (gF14 hM (Fr.refl _))) ?_
            refine x_aload_n (pc' := 54) rfl rfl rfl rfl rfl ?_
            refine x_gR (pc' := 57) (r := (some 14)) rfl rfl rfl (kR_790_0 hc) ?_
            refine x_iload_n (pc' := 58) rfl rfl rfl ?_
            refine x_iald (pc' := 59) (N := 200) (x := (mA M 14 (ovD f))) rfl rfl rfl (kN_21_14 hc) (ov_in q7 (Nat.lt_of_lt_of_le (ov_lt (N := n) q7 hb_f) (gn200 hR)) (by decide)) (Eq.trans (congrArg (sA t 21 14) (ov_nn q7 (Nat.lt_trans (Nat.lt_of_lt_of_le (ov_lt (N := n) q7 hb_f) (gn200 hR)) (by decide)))) (gF14 hM (Fr.refl _))) ?_
            refine x_icmp_n (a' := 66) (pc' := 62) (z := decide ((mA M 14 k) < (mA M 14 (ovD f)))) rfl rfl rfl (ik_ge _ _) (fun q12 => ?_) (fun q12 => ?_)
            · refine x_iconst (pc' := 67) rfl rfl ?_
              ((try rw [q12] at J13); (try rw [q12]); (try rw [q11] at J13); (try rw [q11]); (try simp only [cd_t, cd_f, nt_t, nt_f, an_t, an_f, or_t, or_f] at J13); (try simp only [cd_t, cd_f, nt_t, nt_f, an_t, an_f, or_t, or_f]); exact J13)
            · refine x_iconst (pc' := 63) rfl rfl ?_
              refine x_goto (pc' := 67) rfl rfl ?_
              ((try rw [q12] at J13); (try rw [q12]); (try rw [q11] at J13); (try rw [q11]); (try simp only [cd_t, cd_f, nt_t, nt_f, an_t, an_f, or_t, or_f] at J13); (try simp only [cd_t, cd_f, nt_t, nt_f, an_t, an_f, or_t, or_f]); exact J13)
          · refine x_aload_n (pc' := 25) rfl rfl rfl rfl rfl ?_
            refine x_gR (pc' := 28) (r := (some 14)) rfl rfl rfl (kR_790_0 hc) ?_
            refine x_iload_n (pc' := 29) rfl rfl rfl ?_
            refine x_iald (pc' := 30) (N := 200) (x := (mA M 14 k)) rfl rfl rfl (kN_21_14 hc) (io_in (p := k) (N := 200) (Nat.lt_of_lt_of_le hk (gn200 hR)) (by decide)) (Eq.trans (congrArg (sA t 21 14) (nn_io (p := k) (Nat.lt_trans (Nat.lt_of_lt_of_le hk (gn200 hR)) (by decide)))) (gF14 hM (Fr.refl _))) ?_
            refine x_aload_n (pc' := 31) rfl rfl rfl rfl rfl ?_
            refine x_gR (pc' := 34) (r := (some 14)) rfl rfl rfl (kR_790_0 hc) ?_
            refine x_iload_n (pc' := 35) rfl rfl rfl ?_
            refine x_iald (pc' := 36) (N := 200) (x := (mA M 14 (ovD f))) rfl rfl rfl (kN_21_14 hc) (ov_in q7 (Nat.lt_of_lt_of_le (ov_lt (N := n) q7 hb_f) (gn200 hR)) (by decide)) (Eq.trans (congrArg (sA t 21 14) (ov_nn q7 (Nat.lt_trans (Nat.lt_of_lt_of_le (ov_lt (N := n) q7 hb_f) (gn200 hR)) (by decide)))) (gF14 hM (Fr.refl _))) ?_
            refine x_icmp_n (a' := 43) (pc' := 39) (z := decide ((mA M 14 (ovD f)) < (mA M 14 k))) rfl rfl rfl (ik_le _ _) (fun q13 => ?_) (fun q13 => ?_)
            · refine x_iconst (pc' := 44) rfl rfl ?_
              refine x_goto (pc' := 67) rfl rfl ?_
              ((try rw [q13] at J13); (try rw [q13]); (try rw [q11] at J13); (try rw [q11]); (try simp only [cd_t, cd_f, nt_t, nt_f, an_t, an_f, or_t, or_f] at J13); (try simp only [cd_t, cd_f, nt_t, nt_f, an_t, an_f, or_t, or_f]); exact J13)
            · refine x_iconst (pc' := 40) rfl rfl ?_
              refine x_goto (pc' := 67) rfl rfl ?_
              ((try rw [q13] at J13); (try rw [q13]); (try rw [q11] at J13); (try rw [q11]); (try simp only [cd_t, cd_f, nt_t, nt_f, an_t, an_f, or_t, or_f] at J13); (try simp only [cd_t, cd_f, nt_t, nt_f, an_t, an_f, or_t, or_f]); exact J13)
  refine x_icmp_n (a' := 51) (pc' := 25) (z := decide ((mA M 19 k) = 1)) rfl rfl rfl (ik_ne _ _) (fun q2 => ?_) (fun q2 => ?_)
  · refine x_iconst (pc' := 52) rfl rfl ?_
    ((try rw [q2] at J4); (try rw [q2]); (try simp only [cd_t, cd_f, nt_t, nt_f, an_t, an_f, or_t, or_f] at J4); (try simp only [cd_t, cd_f, nt_t, nt_f, an_t, an_f, or_t, or_f]); exact J4)
  · refine x_aload_n (pc' := 26) rfl rfl rfl rfl rfl ?_
    refine x_gR (pc' := 29) (r := (some 13)) rfl rfl rfl (kR_788_0 hc) ?_
    refine x_iload (pc' := 31) rfl rfl rfl ?_
    refine x_iald (pc' := 32) (N := 200) (x := (io (oB M k))) rfl rfl rfl (kN_21_13 hc) (io_in (p := k) (N := 200) (Nat.lt_of_lt_of_le hk (gn200 hR)) (by decide)) (Eq.trans (congrArg (sA t 21 13) (nn_io (p := k) (Nat.lt_trans (Nat.lt_of_lt_of_le hk (gn200 hR)) (by decide)))) (gF13 hM (Fr.refl _) hR hk)) ?_
    refine x_iload_n (pc' := 33) rfl rfl rfl ?_
    refine x_icmp_n (a' := 51) (pc' := 36) (z := decide ((oB M k) = b)) rfl rfl rfl (ic_nen (p := (oB M k)) (q := b) (gb31 (gb5 hR hk)) (gb31 hb)) (fun q3 => ?_) (fun q3 => ?_)
    · refine x_iconst (pc' := 52) rfl rfl ?_
      ((try rw [q3] at J4); (try rw [q3]); (try rw [q2] at J4); (try rw [q2]); (try simp only [cd_t, cd_f, nt_t, nt_f, an_t, an_f, or_t, or_f] at J4); (try simp only [cd_t, cd_f, nt_t, nt_f, an_t, an_f, or_t, or_f]); exact J4)
    · refine x_aload_n (pc' := 37) rfl rfl rfl rfl rfl ?_
      refine x_gR (pc' := 40) (r := (some 3)) rfl rfl rfl (kR_789_0 hc) ?_
      refine x_iload (pc' := 42) rfl rfl rfl ?_
      refine x_bald (pc' := 43) (N := 200) (z := (mB M 3 k)) rfl rfl (kN_22_3 hc) (io_in (p := k) (N := 200) (Nat.lt_of_lt_of_le hk (gn200 hR)) (by decide)) (Eq.trans (congrArg (sB t 22 3) (nn_io (p := k) (Nat.lt_trans (Nat.lt_of_lt_of_le hk (gn200 hR)) (by decide)))) (gF3 hM (Fr.refl _))) ?_
      refine x_iload_n (pc' := 44) rfl rfl rfl ?_
      refine x_icmp (a' := 51) (pc' := 47) (z := (xor (mB M 3 k) s)) rfl rfl rfl (bz_neb _ _) (fun q4 => ?_) (fun q4 => ?_)
      · refine x_iconst (pc' := 52) rfl rfl ?_
        ((try rw [q4] at J4); (try rw [q4]); (try rw [q3] at J4); (try rw [q3]); (try rw [q2] at J4); (try rw [q2]); (try simp only [cd_t, cd_f, nt_t, nt_f, an_t, an_f, or_t, or_f] at J4); (try simp only [cd_t, cd_f, nt_t, nt_f, an_t, an_f, or_t, or_f]); exact J4)
      · refine x_iconst (pc' := 48) rfl rfl ?_
        refine x_goto (pc' := 52) rfl rfl ?_
        ((try rw [q4] at J4); (try rw [q4]); (try rw [q3] at J4); (try rw [q3]); (try rw [q2] at J4); (try rw [q2]); (try simp only [cd_t, cd_f, nt_t, nt_f, an_t, an_f, or_t, or_f] at J4); (try simp only [cd_t, cd_f, nt_t, nt_f, an_t, an_f, or_t, or_f]); exact J4)
set_option maxHeartbeats 4000000 in
set_option maxRecDepth 10000 in
theorem r153_5 {t : sT} {Q : sRs → sT → Prop} {M : sM} {n : Nat} {b : Nat} {s : Bool} {f : Option Nat} {d0 : sV}
    (hM : rp t = M)
    (hc : Cn t)
    (hR : Ri M n)
    (hb : b < 5)
    (hb_f : ∀ j, f = some j → j < n)
    (q : ∀ (e0 : sV), (∀ j, (bsL M n b s f n) = some j → j < n) → X 153 5 [.inr (.inr (12, (some 0))), .inl (io b), .inl (bz s), .inl (ov (bsL M n b s f n)), .inl (io n), e0] [] t Q) :
    X 153 5 [.inr (.inr (12, (some 0))), .inl (io b), .inl (bz s), .inl (ov f), .inl (io 0), d0] [] t Q := by
  refine lp0 (n := n) (fun k ls u => (∃ e0, ls = [.inr (.inr (12, (some 0))), .inl (io b), .inl (bz s), .inl (ov (bsL M n b s f k)), .inl (io k), e0]) ∧ u = t ∧ (∀ j, (bsL M n b s f k) = some j → j < n)) ⟨⟨_, rfl⟩, rfl, hb_f⟩ ?_ ?_
  · rintro k ls u hk ⟨⟨e0, rfl⟩, rfl, b0⟩ ih
    refine r153_5_b hM hc hR hk hb b0 ?_
    intro x0' z0
    exact ih _ _ ⟨⟨_, rfl⟩, rfl, z0⟩
  · rintro ls u ⟨⟨e0, rfl⟩, rfl, b0⟩
    exact q e0 b0
def bsF (M : sM) (n : Nat) (b : Nat) (s : Bool) : Option Nat := (bsL M n b s none n)
set_option maxHeartbeats 4000000 in
set_option maxRecDepth 10000 in
theorem r153 {t : sT} {Q : sRs → sT → Prop} {M : sM} {n : Nat} {b : Nat} {s : Bool}
    (hM : rp t = M)
    (hc : Cn t)
    (hR : Ri M n)
    (hb : b < 5)
    (q : (∀ j, bsF M n b s = some j → j < n) → Q (.inl (some (.inl (ov (bsF M n b s))))) t) :
    X 153 0 [.inr (.inr (12, (some 0))), .inl (io b), .inl (bz s), sJk, sJk, sJk] [] t Q := by
  refine x_iconst (pc' := 1) rfl rfl ?_
  refine x_istore_n (pc' := 2) (ls' := [_, _, _, _, _, _]) rfl rfl rfl rfl ?_
  refine x_iconst (pc' := 3) rfl rfl ?_
  refine x_istore (pc' := 5) (ls' := [_, _, _, _, _, _]) rfl rfl rfl rfl ?_
  refine r153_5 (b := b) (s := s) (f := none) hM hc (Fr.ri (Fr.refl _) hR) hb obd_n (fun y1_0 b1_0 => ?_)
  refine x_iload (pc' := 7) rfl rfl rfl ?_
  refine x_aload_n (pc' := 8) rfl rfl rfl rfl rfl ?_
  refine x_gI (pc' := 11) (x := (io n)) rfl rfl rfl (gFn hM (Fr.refl _) hR) ?_
  refine x_icmp_n (a' := 87) (pc' := 14) (z := decide (n < n)) rfl rfl rfl (ic_gen (p := n) (q := n) (gn31 hR) (gn31 hR)) (fun _ => ?_) (fun h => absurd (of_decide_eq_true h) (by first | decide | omega | simp))
  refine x_iload_n (pc' := 88) rfl rfl rfl ?_
  refine x_reti rfl rfl ?_
  exact q b1_0
def mgF (M : sM) (n : Nat) (p : Int32) (u : Int32) (v : Int32) : Int32 := (mxc (mxc (mxc (mxc (mxc (mxc 0 (-(((p * (mA M 11 0)) + (u * (mA M 11 1))) + (v * (mA M 11 2))))) (-(((p * (mA M 11 3)) + (u * (mA M 11 4))) + (v * (mA M 11 5))))) (-(((p * (mA M 11 6)) + (u * (mA M 11 7))) + (v * (mA M 11 8))))) (-(((p * (mA M 11 9)) + (u * (mA M 11 10))) + (v * (mA M 11 11))))) (-(((p * (mA M 11 12)) + (u * (mA M 11 13))) + (v * (mA M 11 14))))) (-(((p * (mA M 11 15)) + (u * (mA M 11 16))) + (v * (mA M 11 17)))))
set_option maxHeartbeats 4000000 in
set_option maxRecDepth 10000 in
theorem r180 {t : sT} {Q : sRs → sT → Prop} {M : sM} {n : Nat} {p : Int32} {u : Int32} {v : Int32}
    (hM : rp t = M)
    (hc : Cn t)
    (hR : Ri M n)
    (q : Q (.inl (some (.inl (mgF M n p u v)))) t) :
    X 180 0 [.inr (.inr (12, (some 0))), .inl p, .inl u, .inl v, sJk, sJk, sJk] [] t Q := by
  refine x_iconst (pc' := 1) rfl rfl ?_
  refine x_istore (pc' := 3) (ls' := [_, _, _, _, _, _, _]) rfl rfl rfl rfl ?_
  refine x_iconst (pc' := 4) rfl rfl ?_
  refine x_istore (pc' := 6) (ls' := [_, _, _, _, _, _, _]) rfl rfl rfl rfl ?_
  refine x_iload (pc' := 8) rfl rfl rfl ?_
  refine x_bipush (pc' := 10) rfl rfl ?_
  refine x_icmp (a' := 77) (pc' := 13) (z := false) rfl rfl rfl (by decide) (fun h => by cases h) (fun _ => ?_)
  refine x_iload_n (pc' := 14) rfl rfl rfl ?_
  refine x_aload_n (pc' := 15) rfl rfl rfl rfl rfl ?_
  refine x_gR (pc' := 18) (r := (some 11)) rfl rfl rfl (kR_783_0 hc) ?_
  refine x_iconst (pc' := 19) rfl rfl ?_
  refine x_iload (pc' := 21) rfl rfl rfl ?_
  refine x_imul (pc' := 22) (z := 0) rfl rfl (by decide) ?_
  refine x_iald (pc' := 23) (N := 18) (x := (mA M 11 0)) rfl rfl rfl (kN_21_11 hc) (io_in (p := 0) (N := 18) (by decide) (by decide)) (Eq.trans (congrArg (sA t 21 11) (nn_io (p := 0) (by decide))) (gA hM rfl)) ?_
  refine x_imul (pc' := 24) (z := (p * (mA M 11 0))) rfl rfl rfl ?_
  refine x_iload_n (pc' := 25) rfl rfl rfl ?_
  refine x_aload_n (pc' := 26) rfl rfl rfl rfl rfl ?_
  refine x_gR (pc' := 29) (r := (some 11)) rfl rfl rfl (kR_783_0 hc) ?_
  refine x_iconst (pc' := 30) rfl rfl ?_
  refine x_iload (pc' := 32) rfl rfl rfl ?_
  refine x_imul (pc' := 33) (z := 0) rfl rfl (by decide) ?_
  refine x_iconst (pc' := 34) rfl rfl ?_
  refine x_iadd (pc' := 35) (z := 1) rfl rfl (by decide) ?_
  refine x_iald (pc' := 36) (N := 18) (x := (mA M 11 1)) rfl rfl rfl (kN_21_11 hc) (io_in (p := 1) (N := 18) (by decide) (by decide)) (Eq.trans (congrArg (sA t 21 11) (nn_io (p := 1) (by decide))) (gA hM rfl)) ?_
  refine x_imul (pc' := 37) (z := (u * (mA M 11 1))) rfl rfl rfl ?_
  refine x_iadd (pc' := 38) (z := ((p * (mA M 11 0)) + (u * (mA M 11 1)))) rfl rfl rfl ?_
  refine x_iload_n (pc' := 39) rfl rfl rfl ?_
  refine x_aload_n (pc' := 40) rfl rfl rfl rfl rfl ?_
  refine x_gR (pc' := 43) (r := (some 11)) rfl rfl rfl (kR_783_0 hc) ?_
  refine x_iconst (pc' := 44) rfl rfl ?_
  refine x_iload (pc' := 46) rfl rfl rfl ?_
  refine x_imul (pc' := 47) (z := 0) rfl rfl (by decide) ?_
  refine x_iconst (pc' := 48) rfl rfl ?_
  refine x_iadd (pc' := 49) (z := 2) rfl rfl (by decide) ?_
  refine x_iald (pc' := 50) (N := 18) (x := (mA M 11 2)) rfl rfl rfl (kN_21_11 hc) (io_in (p := 2) (N := 18) (by decide) (by decide)) (Eq.trans (congrArg (sA t 21 11) (nn_io (p := 2) (by decide))) (gA hM rfl)) ?_
  refine x_imul (pc' := 51) (z := (v * (mA M 11 2))) rfl rfl rfl ?_
  refine x_iadd (pc' := 52) (z := (((p * (mA M 11 0)) + (u * (mA M 11 1))) + (v * (mA M 11 2)))) rfl rfl rfl ?_
  refine x_ineg (pc' := 53) rfl rfl rfl ?_
  refine x_istore (pc' := 55) (ls' := [_, _, _, _, _, _, _]) rfl rfl rfl rfl ?_
  refine x_iload (pc' := 57) rfl rfl rfl ?_
  refine x_iload (pc' := 59) rfl rfl rfl ?_
  have J2 : X 180 69 [.inr (.inr (12, (some 0))), .inl p, .inl u, .inl v, .inl 0, .inl 0, .inl (-(((p * (mA M 11 0)) + (u * (mA M 11 1))) + (v * (mA M 11 2))))] [.inl (mxc 0 (-(((p * (mA M 11 0)) + (u * (mA M 11 1))) + (v * (mA M 11 2)))))] t Q := by
    refine x_istore (pc' := 71) (ls' := [_, _, _, _, _, _, _]) rfl rfl rfl rfl ?_
    refine x_iinc (pc' := 74) (y := 1) (ls' := [_, _, _, _, _, _, _]) rfl rfl rfl rfl rfl ?_
    refine x_goto (pc' := 6) rfl rfl ?_
    refine x_iload (pc' := 8) rfl rfl rfl ?_
    refine x_bipush (pc' := 10) rfl rfl ?_
    refine x_icmp (a' := 77) (pc' := 13) (z := false) rfl rfl rfl (by decide) (fun h => by cases h) (fun _ => ?_)
    refine x_iload_n (pc' := 14) rfl rfl rfl ?_
    refine x_aload_n (pc' := 15) rfl rfl rfl rfl rfl ?_
    refine x_gR (pc' := 18) (r := (some 11)) rfl rfl rfl (kR_783_0 hc) ?_
    refine x_iconst (pc' := 19) rfl rfl ?_
    refine x_iload (pc' := 21) rfl rfl rfl ?_
    refine x_imul (pc' := 22) (z := 3) rfl rfl (by decide) ?_
    refine x_iald (pc' := 23) (N := 18) (x := (mA M 11 3)) rfl rfl rfl (kN_21_11 hc) (io_in (p := 3) (N := 18) (by decide) (by decide)) (Eq.trans (congrArg (sA t 21 11) (nn_io (p := 3) (by decide))) (gA hM rfl)) ?_
    refine x_imul (pc' := 24) (z := (p * (mA M 11 3))) rfl rfl rfl ?_
    refine x_iload_n (pc' := 25) rfl rfl rfl ?_
    refine x_aload_n (pc' := 26) rfl rfl rfl rfl rfl ?_
    refine x_gR (pc' := 29) (r := (some 11)) rfl rfl rfl (kR_783_0 hc) ?_
    refine x_iconst (pc' := 30) rfl rfl ?_
    refine x_iload (pc' := 32) rfl rfl rfl ?_
    refine x_imul (pc' := 33) (z := 3) rfl rfl (by decide) ?_
    refine x_iconst (pc' := 34) rfl rfl ?_
    refine x_iadd (pc' := 35) (z := 4) rfl rfl (by decide) ?_
    refine x_iald (pc' := 36) (N := 18) (x := (mA M 11 4)) rfl rfl rfl (kN_21_11 hc) (io_in (p := 4) (N := 18) (by decide) (by decide)) (Eq.trans (congrArg (sA t 21 11) (nn_io (p := 4) (by decide))) (gA hM rfl)) ?_
    refine x_imul (pc' := 37) (z := (u * (mA M 11 4))) rfl rfl rfl ?_
    refine x_iadd (pc' := 38) (z := ((p * (mA M 11 3)) + (u * (mA M 11 4)))) rfl rfl rfl ?_
    refine x_iload_n (pc' := 39) rfl rfl rfl ?_
    refine x_aload_n (pc' := 40) rfl rfl rfl rfl rfl ?_
    refine x_gR (pc' := 43) (r := (some 11)) rfl rfl rfl (kR_783_0 hc) ?_
    refine x_iconst (pc' := 44) rfl rfl ?_
    refine x_iload (pc' := 46) rfl rfl rfl ?_
    refine x_imul (pc' := 47) (z := 3) rfl rfl (by decide) ?_
    refine x_iconst (pc' := 48) rfl rfl ?_
    refine x_iadd (pc' := 49) (z := 5) rfl rfl (by decide) ?_
    refine x_iald (pc' := 50) (N := 18) (x := (mA M 11 5)) rfl rfl rfl (kN_21_11 hc) (io_in (p := 5) (N := 18) (by decide) (by decide)) (Eq.trans (congrArg (sA t 21 11) (nn_io (p := 5) (by decide))) (gA hM rfl)) ?_
    refine x_imul (pc' := 51) (z := (v * (mA M 11 5))) rfl rfl rfl ?_
    refine x_iadd (pc' := 52) (z := (((p * (mA M 11 3)) + (u * (mA M 11 4))) + (v * (mA M 11 5)))) rfl rfl rfl ?_
    refine x_ineg (pc' := 53) rfl rfl rfl ?_
    refine x_istore (pc' := 55) (ls' := [_, _, _, _, _, _, _]) rfl rfl rfl rfl ?_
    refine x_iload (pc' := 57) rfl rfl rfl ?_
    refine x_iload (pc' := 59) rfl rfl rfl ?_
    have J5 : X 180 69 [.inr (.inr (12, (some 0))), .inl p, .inl u, .inl v, .inl (mxc 0 (-(((p * (mA M 11 0)) + (u * (mA M 11 1))) + (v * (mA M 11 2))))), .inl 1, .inl (-(((p * (mA M 11 3)) + (u * (mA M 11 4))) + (v * (mA M 11 5))))] [.inl (mxc (mxc 0 (-(((p * (mA M 11 0)) + (u * (mA M 11 1))) + (v * (mA M 11 2))))) (-(((p * (mA M 11 3)) + (u * (mA M 11 4))) + (v * (mA M 11 5)))))] t Q := by
      refine x_istore (pc' := 71) (ls' := [_, _, _, _, _, _, _]) rfl rfl rfl rfl ?_
      refine x_iinc (pc' := 74) (y := 2) (ls' := [_, _, _, _, _, _, _]) rfl rfl rfl rfl rfl ?_
      refine x_goto (pc' := 6) rfl rfl ?_
      refine x_iload (pc' := 8) rfl rfl rfl ?_
      refine x_bipush (pc' := 10) rfl rfl ?_
      refine x_icmp (a' := 77) (pc' := 13) (z := false) rfl rfl rfl (by decide) (fun h => by cases h) (fun _ => ?_)
      refine x_iload_n (pc' := 14) rfl rfl rfl ?_
      refine x_aload_n (pc' := 15) rfl rfl rfl rfl rfl ?_
      refine x_gR (pc' := 18) (r := (some 11)) rfl rfl rfl (kR_783_0 hc) ?_
      refine x_iconst (pc' := 19) rfl rfl ?_
      refine x_iload (pc' := 21) rfl rfl rfl ?_
      refine x_imul (pc' := 22) (z := 6) rfl rfl (by decide) ?_
      refine x_iald (pc' := 23) (N := 18) (x := (mA M 11 6)) rfl rfl rfl (kN_21_11 hc) (io_in (p := 6) (N := 18) (by decide) (by decide)) (Eq.trans (congrArg (sA t 21 11) (nn_io (p := 6) (by decide))) (gA hM rfl)) ?_
      refine x_imul (pc' := 24) (z := (p * (mA M 11 6))) rfl rfl rfl ?_
      refine x_iload_n (pc' := 25) rfl rfl rfl ?_
      refine x_aload_n (pc' := 26) rfl rfl rfl rfl rfl ?_
      refine x_gR (pc' := 29) (r := (some 11)) rfl rfl rfl (kR_783_0 hc) ?_
      refine x_iconst (pc' := 30) rfl rfl ?_
      refine x_iload (pc' := 32) rfl rfl rfl ?_
      refine x_imul (pc' := 33) (z := 6) rfl rfl (by decide) ?_
      refine x_iconst (pc' := 34) rfl rfl ?_
      refine x_iadd (pc' := 35) (z := 7) rfl rfl (by decide) ?_
      refine x_iald (pc' := 36) (N := 18) (x := (mA M 11 7)) rfl rfl rfl (kN_21_11 hc) (io_in (p := 7) (N := 18) (by decide) (by decide)) (Eq.trans (congrArg (sA t 21 11) (nn_io (p := 7) (by decide))) (gA hM rfl)) ?_
      refine x_imul (pc' := 37) (z := (u * (mA M 11 7))) rfl rfl rfl ?_
      refine x_iadd (pc' := 38) (z := ((p * (mA M 11 6)) + (u * (mA M 11 7)))) rfl rfl rfl ?_
      refine x_iload_n (pc' := 39) rfl rfl rfl ?_
      refine x_aload_n (pc' := 40) rfl rfl rfl rfl rfl ?_
      refine x_gR (pc' := 43) (r := (some 11)) rfl rfl rfl (kR_783_0 hc) ?_
      refine x_iconst (pc' := 44) rfl rfl ?_
      refine x_iload (pc' := 46) rfl rfl rfl ?_
      refine x_imul (pc' := 47) (z := 6) rfl rfl (by decide) ?_
      refine x_iconst (pc' := 48) rfl rfl ?_
      refine x_iadd (pc' := 49) (z := 8) rfl rfl (by decide) ?_
      refine x_iald (pc' := 50) (N := 18) (x := (mA M 11 8)) rfl rfl rfl (kN_21_11 hc) (io_in (p := 8) (N := 18) (by decide) (by decide)) (Eq.trans (congrArg (sA t 21 11) (nn_io (p := 8) (by decide))) (gA hM rfl)) ?_
      refine x_imul (pc' := 51) (z := (v * (mA M 11 8))) rfl rfl rfl ?_
      refine x_iadd (pc' := 52) (z := (((p * (mA M 11 6)) + (u * (mA M 11 7))) + (v * (mA M 11 8)))) rfl rfl rfl ?_
      refine x_ineg (pc' := 53) rfl rfl rfl ?_
      refine x_istore (pc' := 55) (ls' := [_, _, _, _, _, _, _]) rfl rfl rfl rfl ?_
      refine x_iload (pc' := 57) rfl rfl rfl ?_
      refine x_iload (pc' := 59) rfl rfl rfl ?_
      have J8 : X 180 69 [.inr (.inr (12, (some 0))), .inl p, .inl u, .inl v, .inl (mxc (mxc 0 (-(((p * (mA M 11 0)) + (u * (mA M 11 1))) + (v * (mA M 11 2))))) (-(((p * (mA M 11 3)) + (u * (mA M 11 4))) + (v * (mA M 11 5))))), .inl 2, .inl (-(((p * (mA M 11 6)) + (u * (mA M 11 7))) + (v * (mA M 11 8))))] [.inl (mxc (mxc (mxc 0 (-(((p * (mA M 11 0)) + (u * (mA M 11 1))) + (v * (mA M 11 2))))) (-(((p * (mA M 11 3)) + (u * (mA M 11 4))) + (v * (mA M 11 5))))) (-(((p * (mA M 11 6)) + (u * (mA M 11 7))) + (v * (mA M 11 8)))))] t Q := by
        refine x_istore (pc' := 71) (ls' := [_, _, _, _, _, _, _]) rfl rfl rfl rfl ?_
        refine x_iinc (pc' := 74) (y := 3) (ls' := [_, _, _, _, _, _, _]) rfl rfl rfl rfl rfl ?_
        refine x_goto (pc' := 6) rfl rfl ?_
        refine x_iload (pc' := 8) rfl rfl rfl ?_
        refine x_bipush (pc' := 10) rfl rfl ?_
        refine x_icmp (a' := 77) (pc' := 13) (z := false) rfl rfl rfl (by decide) (fun h => by cases h) (fun _ => ?_)
        refine x_iload_n (pc' := 14) rfl rfl rfl ?_
        refine x_aload_n (pc' := 15) rfl rfl rfl rfl rfl ?_
        refine x_gR (pc' := 18) (r := (some 11)) rfl rfl rfl (kR_783_0 hc) ?_
        refine x_iconst (pc' := 19) rfl rfl ?_
        refine x_iload (pc' := 21) rfl rfl rfl ?_
        refine x_imul (pc' := 22) (z := 9) rfl rfl (by decide) ?_
        refine x_iald (pc' := 23) (N := 18) (x := (mA M 11 9)) rfl rfl rfl (kN_21_11 hc) (io_in (p := 9) (N := 18) (by decide) (by decide)) (Eq.trans (congrArg (sA t 21 11) (nn_io (p := 9) (by decide))) (gA hM rfl)) ?_
        refine x_imul (pc' := 24) (z := (p * (mA M 11 9))) rfl rfl rfl ?_
        refine x_iload_n (pc' := 25) rfl rfl rfl ?_
        refine x_aload_n (pc' := 26) rfl rfl rfl rfl rfl ?_
        refine x_gR (pc' := 29) (r := (some 11)) rfl rfl rfl (kR_783_0 hc) ?_
        refine x_iconst (pc' := 30) rfl rfl ?_
        refine x_iload (pc' := 32) rfl rfl rfl ?_
        refine x_imul (pc' := 33) (z := 9) rfl rfl (by decide) ?_
        refine x_iconst (pc' := 34) rfl rfl ?_
        refine x_iadd (pc' := 35) (z := 10) rfl rfl (by decide) ?_
        refine x_iald (pc' := 36) (N := 18) (x := (mA M 11 10)) rfl rfl rfl (kN_21_11 hc) (io_in (p := 10) (N := 18) (by decide) (by decide)) (Eq.trans (congrArg (sA t 21 11) (nn_io (p := 10) (by decide))) (gA hM rfl)) ?_
        refine x_imul (pc' := 37) (z := (u * (mA M 11 10))) rfl rfl rfl ?_
        refine x_iadd (pc' := 38) (z := ((p * (mA M 11 9)) + (u * (mA M 11 10)))) rfl rfl rfl ?_
        refine x_iload_n (pc' := 39) rfl rfl rfl ?_
        refine x_aload_n (pc' := 40) rfl rfl rfl rfl rfl ?_
        refine x_gR (pc' := 43) (r := (some 11)) rfl rfl rfl (kR_783_0 hc) ?_
        refine x_iconst (pc' := 44) rfl rfl ?_
        refine x_iload (pc' := 46) rfl rfl rfl ?_
        refine x_imul (pc' := 47) (z := 9) rfl rfl (by decide) ?_
        refine x_iconst (pc' := 48) rfl rfl ?_
        refine x_iadd (pc' := 49) (z := 11) rfl rfl (by decide) ?_
        refine x_iald (pc' := 50) (N := 18) (x := (mA M 11 11)) rfl rfl rfl (kN_21_11 hc) (io_in (p := 11) (N := 18) (by decide) (by decide)) (Eq.trans (congrArg (sA t 21 11) (nn_io (p := 11) (by decide))) (gA hM rfl)) ?_
        refine x_imul (pc' := 51) (z := (v * (mA M 11 11))) rfl rfl rfl ?_
        refine x_iadd (pc' := 52) (z := (((p * (mA M 11 9)) + (u * (mA M 11 10))) + (v * (mA M 11 11)))) rfl rfl rfl ?_
        refine x_ineg (pc' := 53) rfl rfl rfl ?_
        refine x_istore (pc' := 55) (ls' := [_, _, _, _, _, _, _]) rfl rfl rfl rfl ?_
        refine x_iload (pc' := 57) rfl rfl rfl ?_
        refine x_iload (pc' := 59) rfl rfl rfl ?_
        have J11 : X 180 69 [.inr (.inr (12, (some 0))), .inl p, .inl u, .inl v, .inl (mxc (mxc (mxc 0 (-(((p * (mA M 11 0)) + (u * (mA M 11 1))) + (v * (mA M 11 2))))) (-(((p * (mA M 11 3)) + (u * (mA M 11 4))) + (v * (mA M 11 5))))) (-(((p * (mA M 11 6)) + (u * (mA M 11 7))) + (v * (mA M 11 8))))), .inl 3, .inl (-(((p * (mA M 11 9)) + (u * (mA M 11 10))) + (v * (mA M 11 11))))] [.inl (mxc (mxc (mxc (mxc 0 (-(((p * (mA M 11 0)) + (u * (mA M 11 1))) + (v * (mA M 11 2))))) (-(((p * (mA M 11 3)) + (u * (mA M 11 4))) + (v * (mA M 11 5))))) (-(((p * (mA M 11 6)) + (u * (mA M 11 7))) + (v * (mA M 11 8))))) (-(((p * (mA M 11 9)) + (u * (mA M 11 10))) + (v * (mA M 11 11)))))] t Q := by
          refine x_istore (pc' := 71) (ls' := [_, _, _, _, _, _, _]) rfl rfl rfl rfl ?_
          refine x_iinc (pc' := 74) (y := 4) (ls' := [_, _, _, _, _, _, _]) rfl rfl rfl rfl rfl ?_
          refine x_goto (pc' := 6) rfl rfl ?_
          refine x_iload (pc' := 8) rfl rfl rfl ?_
          refine x_bipush (pc' := 10) rfl rfl ?_
          refine x_icmp (a' := 77) (pc' := 13) (z := false) rfl rfl rfl (by decide) (fun h => by cases h) (fun _ => ?_)
          refine x_iload_n (pc' := 14) rfl rfl rfl ?_
          refine x_aload_n (pc' := 15) rfl rfl rfl rfl rfl ?_
          refine x_gR (pc' := 18) (r := (some 11)) rfl rfl rfl (kR_783_0 hc) ?_
          refine x_iconst (pc' := 19) rfl rfl ?_
          refine x_iload (pc' := 21) rfl rfl rfl ?_
          refine x_imul (pc' := 22) (z := 12) rfl rfl (by decide) ?_
          refine x_iald (pc' := 23) (N := 18) (x := (mA M 11 12)) rfl rfl rfl (kN_21_11 hc) (io_in (p := 12) (N := 18) (by decide) (by decide)) (Eq.trans (congrArg (sA t 21 11) (nn_io (p := 12) (by decide))) (gA hM rfl)) ?_
          refine x_imul (pc' := 24) (z := (p * (mA M 11 12))) rfl rfl rfl ?_
          refine x_iload_n (pc' := 25) rfl rfl rfl ?_
          refine x_aload_n (pc' := 26) rfl rfl rfl rfl rfl ?_
          refine x_gR (pc' := 29) (r := (some 11)) rfl rfl rfl (kR_783_0 hc) ?_
          refine x_iconst (pc' := 30) rfl rfl ?_
          refine x_iload (pc' := 32) rfl rfl rfl ?_
          refine x_imul (pc' := 33) (z := 12) rfl rfl (by decide) ?_
          refine x_iconst (pc' := 34) rfl rfl ?_
          refine x_iadd (pc' := 35) (z := 13) rfl rfl (by decide) ?_
          refine x_iald (pc' := 36) (N := 18) (x := (mA M 11 13)) rfl rfl rfl (kN_21_11 hc) (io_in (p := 13) (N := 18) (by decide) (by decide)) (Eq.trans (congrArg (sA t 21 11) (nn_io (p := 13) (by decide))) (gA hM rfl)) ?_
          refine x_imul (pc' := 37) (z := (u * (mA M 11 13))) rfl rfl rfl ?_
          refine x_iadd (pc' := 38) (z := ((p * (mA M 11 12)) + (u * (mA M 11 13)))) rfl rfl rfl ?_
          refine x_iload_n (pc' := 39) rfl rfl rfl ?_
          refine x_aload_n (pc' := 40) rfl rfl rfl rfl rfl ?_
          refine x_gR (pc' := 43) (r := (some 11)) rfl rfl rfl (kR_783_0 hc) ?_
          refine x_iconst (pc' := 44) rfl rfl ?_
          refine x_iload (pc' := 46) rfl rfl rfl ?_
          refine x_imul (pc' := 47) (z := 12) rfl rfl (by decide) ?_
          refine x_iconst (pc' := 48) rfl rfl ?_
          refine x_iadd (pc' := 49) (z := 14) rfl rfl (by decide) ?_
          refine x_iald (pc' := 50) (N := 18) (x := (mA M 11 14)) rfl rfl rfl (kN_21_11 hc) (io_in (p := 14) (N := 18) (by decide) (by decide)) (Eq.trans (congrArg (sA t 21 11) (nn_io (p := 14) (by decide))) (gA hM rfl)) ?_
          refine x_imul (pc' := 51) (z := (v * (mA M 11 14))) rfl rfl rfl ?_
          refine x_iadd (pc' := 52) (z := (((p * (mA M 11 12)) + (u * (mA M 11 13))) + (v * (mA M 11 14)))) rfl rfl rfl ?_
          refine x_ineg (pc' := 53) rfl rfl rfl ?_
          refine x_istore (pc' := 55) (ls' := [_, _, _, _, _, _, _]) rfl rfl rfl rfl ?_
          refine x_iload (pc' := 57) rfl rfl rfl ?_
          refine x_iload (pc' := 59) rfl rfl rfl ?_
          have J14 : X 180 69 [.inr (.inr (12, (some 0))), .inl p, .inl u, .inl v, .inl (mxc (mxc (mxc (mxc 0 (-(((p * (mA M 11 0)) + (u * (mA M 11 1))) + (v * (mA M 11 2))))) (-(((p * (mA M 11 3)) + (u * (mA M 11 4))) + (v * (mA M 11 5))))) (-(((p * (mA M 11 6)) + (u * (mA M 11 7))) + (v * (mA M 11 8))))) (-(((p * (mA M 11 9)) + (u * (mA M 11 10))) + (v * (mA M 11 11))))), .inl 4, .inl (-(((p * (mA M 11 12)) + (u * (mA M 11 13))) + (v * (mA M 11 14))))] [.inl (mxc (mxc (mxc (mxc (mxc 0 (-(((p * (mA M 11 0)) + (u * (mA M 11 1))) + (v * (mA M 11 2))))) (-(((p * (mA M 11 3)) + (u * (mA M 11 4))) + (v * (mA M 11 5))))) (-(((p * (mA M 11 6)) + (u * (mA M 11 7))) + (v * (mA M 11 8))))) (-(((p * (mA M 11 9)) + (u * (mA M 11 10))) + (v * (mA M 11 11))))) (-(((p * (mA M 11 12)) + (u * (mA M 11 13))) + (v * (mA M 11 14)))))] t Q := by
            refine x_istore (pc' := 71) (ls' := [_, _, _, _, _, _, _]) rfl rfl rfl rfl ?_
            refine x_iinc (pc' := 74) (y := 5) (ls' := [_, _, _, _, _, _, _]) rfl rfl rfl rfl rfl ?_
            refine x_goto (pc' := 6) rfl rfl ?_
            refine x_iload (pc' := 8) rfl rfl rfl ?_
            refine x_bipush (pc' := 10) rfl rfl ?_
            refine x_icmp (a' := 77) (pc' := 13) (z := false) rfl rfl rfl (by decide) (fun h => by cases h) (fun _ => ?_)
            refine x_iload_n (pc' := 14) rfl rfl rfl ?_
            refine x_aload_n (pc' := 15) rfl rfl rfl rfl rfl ?_
            refine x_gR (pc' := 18) (r := (some 11)) rfl rfl rfl (kR_783_0 hc) ?_
            refine x_iconst (pc' := 19) rfl rfl ?_
            refine x_iload (pc' := 21) rfl rfl rfl ?_
            refine x_imul (pc' := 22) (z := 15) rfl rfl (by decide) ?_
            refine x_iald (pc' := 23) (N := 18) (x := (mA M 11 15)) rfl rfl rfl (kN_21_11 hc) (io_in (p := 15) (N := 18) (by decide) (by decide)) (Eq.trans (congrArg (sA t 21 11) (nn_io (p := 15) (by decide))) (gA hM rfl)) ?_
            refine x_imul (pc' := 24) (z := (p * (mA M 11 15))) rfl rfl rfl ?_
            refine x_iload_n (pc' := 25) rfl rfl rfl ?_
            refine x_aload_n (pc' := 26) rfl rfl rfl rfl rfl ?_
            refine x_gR (pc' := 29) (r := (some 11)) rfl rfl rfl (kR_783_0 hc) ?_
            refine x_iconst (pc' := 30) rfl rfl ?_
            refine x_iload (pc' := 32) rfl rfl rfl ?_
            refine x_imul (pc' := 33) (z := 15) rfl rfl (by decide) ?_
            refine x_iconst (pc' := 34) rfl rfl ?_
            refine x_iadd (pc' := 35) (z := 16) rfl rfl (by decide) ?_
            refine x_iald (pc' := 36) (N := 18) (x := (mA M 11 16)) rfl rfl rfl (kN_21_11 hc) (io_in (p := 16) (N := 18) (by decide) (by decide)) (Eq.trans (congrArg (sA t 21 11) (nn_io (p := 16) (by decide))) (gA hM rfl)) ?_
            refine x_imul (pc' := 37) (z := (u * (mA M 11 16))) rfl rfl rfl ?_
            refine x_iadd (pc' := 38) (z := ((p * (mA M 11 15)) + (u * (mA M 11 16)))) rfl rfl rfl ?_
            refine x_iload_n (pc' := 39) rfl rfl rfl ?_
            refine x_aload_n (pc' := 40) rfl rfl rfl rfl rfl ?_
            refine x_gR (pc' := 43) (r := (some 11)) rfl rfl rfl (kR_783_0 hc) ?_
            refine x_iconst (pc' := 44) rfl rfl ?_
            refine x_iload (pc' := 46) rfl rfl rfl ?_
            refine x_imul (pc' := 47) (z := 15) rfl rfl (by decide) ?_
            refine x_iconst (pc' := 48) rfl rfl ?_
            refine x_iadd (pc' := 49) (z := 17) rfl rfl (by decide) ?_
            refine x_iald (pc' := 50) (N := 18) (x := (mA M 11 17)) rfl rfl rfl (kN_21_11 hc) (io_in (p := 17) (N := 18) (by decide) (by decide)) (Eq.trans (congrArg (sA t 21 11) (nn_io (p := 17) (by decide))) (gA hM rfl)) ?_
            refine x_imul (pc' := 51) (z := (v * (mA M 11 17))) rfl rfl rfl ?_
            refine x_iadd (pc' := 52) (z := (((p * (mA M 11 15)) + (u * (mA M 11 16))) + (v * (mA M 11 17)))) rfl rfl rfl ?_
            refine x_ineg (pc' := 53) rfl rfl rfl ?_
            refine x_istore (pc' := 55) (ls' := [_, _, _, _, _, _, _]) rfl rfl rfl rfl ?_
            refine x_iload (pc' := 57) rfl rfl rfl ?_
            refine x_iload (pc' := 59) rfl rfl rfl ?_
            have J17 : X 180 69 [.inr (.inr (12, (some 0))), .inl p, .inl u, .inl v, .inl (mxc (mxc (mxc (mxc (mxc 0 (-(((p * (mA M 11 0)) + (u * (mA M 11 1))) + (v * (mA M 11 2))))) (-(((p * (mA M 11 3)) + (u * (mA M 11 4))) + (v * (mA M 11 5))))) (-(((p * (mA M 11 6)) + (u * (mA M 11 7))) + (v * (mA M 11 8))))) (-(((p * (mA M 11 9)) + (u * (mA M 11 10))) + (v * (mA M 11 11))))) (-(((p * (mA M 11 12)) + (u * (mA M 11 13))) + (v * (mA M 11 14))))), .inl 5, .inl (-(((p * (mA M 11 15)) + (u * (mA M 11 16))) + (v * (mA M 11 17))))] [.inl (mxc (mxc (mxc (mxc (mxc (mxc 0 (-(((p * (mA M 11 0)) + (u * (mA M 11 1))) + (v * (mA M 11 2))))) (-(((p * (mA M 11 3)) + (u * (mA M 11 4))) + (v * (mA M 11 5))))) (-(((p * (mA M 11 6)) + (u * (mA M 11 7))) + (v * (mA M 11 8))))) (-(((p * (mA M 11 9)) + (u * (mA M 11 10))) + (v * (mA M 11 11))))) (-(((p * (mA M 11 12)) + (u * (mA M 11 13))) + (v * (mA M 11 14))))) (-(((p * (mA M 11 15)) + (u * (mA M 11 16))) + (v * (mA M 11 17)))))] t Q := by
              refine x_istore (pc' := 71) (ls' := [_, _, _, _, _, _, _]) rfl rfl rfl rfl ?_
              refine x_iinc (pc' := 74) (y := 6) (ls' := [_, _, _, _, _, _, _]) rfl rfl rfl rfl rfl ?_
              refine x_goto (pc' := 6) rfl rfl ?_
              refine x_iload (pc' := 8) rfl rfl rfl ?_
              refine x_bipush (pc' := 10) rfl rfl ?_
              refine x_icmp (a' := 77) (pc' := 13) (z := true) rfl rfl rfl (by decide) (fun _ => ?_) (fun h => by cases h)
              refine x_iload (pc' := 79) rfl rfl rfl ?_
              refine x_reti rfl rfl ?_
              exact q 
            refine x_icmp_n (a' := 67) (pc' := 62) (z := decide ((mxc (mxc (mxc (mxc (mxc 0 (-(((p * (mA M 11 0)) + (u * (mA M 11 1))) + (v * (mA M 11 2))))) (-(((p * (mA M 11 3)) + (u * (mA M 11 4))) + (v * (mA M 11 5))))) (-(((p * (mA M 11 6)) + (u * (mA M 11 7))) + (v * (mA M 11 8))))) (-(((p * (mA M 11 9)) + (u * (mA M 11 10))) + (v * (mA M 11 11))))) (-(((p * (mA M 11 12)) + (u * (mA M 11 13))) + (v * (mA M 11 14))))) < (-(((p * (mA M 11 15)) + (u * (mA M 11 16))) + (v * (mA M 11 17)))))) rfl rfl rfl (ik_le _ _) (fun q17 => ?_) (fun q17 => ?_)
            · refine x_iload (pc' := 69) rfl rfl rfl ?_
              ((try rw [mxc_f q17] at J17); (try simp only [cd_t, cd_f, nt_t, nt_f, an_t, an_f, or_t, or_f] at J17); (try simp only [cd_t, cd_f, nt_t, nt_f, an_t, an_f, or_t, or_f]); exact J17)
            · refine x_iload (pc' := 64) rfl rfl rfl ?_
              refine x_goto (pc' := 69) rfl rfl ?_
              ((try rw [mxc_t q17] at J17); (try simp only [cd_t, cd_f, nt_t, nt_f, an_t, an_f, or_t, or_f] at J17); (try simp only [cd_t, cd_f, nt_t, nt_f, an_t, an_f, or_t, or_f]); exact J17)
          refine x_icmp_n (a' := 67) (pc' := 62) (z := decide ((mxc (mxc (mxc (mxc 0 (-(((p * (mA M 11 0)) + (u * (mA M 11 1))) + (v * (mA M 11 2))))) (-(((p * (mA M 11 3)) + (u * (mA M 11 4))) + (v * (mA M 11 5))))) (-(((p * (mA M 11 6)) + (u * (mA M 11 7))) + (v * (mA M 11 8))))) (-(((p * (mA M 11 9)) + (u * (mA M 11 10))) + (v * (mA M 11 11))))) < (-(((p * (mA M 11 12)) + (u * (mA M 11 13))) + (v * (mA M 11 14)))))) rfl rfl rfl (ik_le _ _) (fun q14 => ?_) (fun q14 => ?_)
          · refine x_iload (pc' := 69) rfl rfl rfl ?_
            ((try rw [mxc_f q14] at J14); (try simp only [cd_t, cd_f, nt_t, nt_f, an_t, an_f, or_t, or_f] at J14); (try simp only [cd_t, cd_f, nt_t, nt_f, an_t, an_f, or_t, or_f]); exact J14)
          · refine x_iload (pc' := 64) rfl rfl rfl ?_
            refine x_goto (pc' := 69) rfl rfl ?_
            ((try rw [mxc_t q14] at J14); (try simp only [cd_t, cd_f, nt_t, nt_f, an_t, an_f, or_t, or_f] at J14); (try simp only [cd_t, cd_f, nt_t, nt_f, an_t, an_f, or_t, or_f]); exact J14)
        refine x_icmp_n (a' := 67) (pc' := 62) (z := decide ((mxc (mxc (mxc 0 (-(((p * (mA M 11 0)) + (u * (mA M 11 1))) + (v * (mA M 11 2))))) (-(((p * (mA M 11 3)) + (u * (mA M 11 4))) + (v * (mA M 11 5))))) (-(((p * (mA M 11 6)) + (u * (mA M 11 7))) + (v * (mA M 11 8))))) < (-(((p * (mA M 11 9)) + (u * (mA M 11 10))) + (v * (mA M 11 11)))))) rfl rfl rfl (ik_le _ _) (fun q11 => ?_) (fun q11 => ?_)
        · refine x_iload (pc' := 69) rfl rfl rfl ?_
          ((try rw [mxc_f q11] at J11); (try simp only [cd_t, cd_f, nt_t, nt_f, an_t, an_f, or_t, or_f] at J11); (try simp only [cd_t, cd_f, nt_t, nt_f, an_t, an_f, or_t, or_f]); exact J11)
        · refine x_iload (pc' := 64) rfl rfl rfl ?_
          refine x_goto (pc' := 69) rfl rfl ?_
          ((try rw [mxc_t q11] at J11); (try simp only [cd_t, cd_f, nt_t, nt_f, an_t, an_f, or_t, or_f] at J11); (try simp only [cd_t, cd_f, nt_t, nt_f, an_t, an_f, or_t, or_f]); exact J11)
      refine x_icmp_n (a' := 67) (pc' := 62) (z := decide ((mxc (mxc 0 (-(((p * (mA M 11 0)) + (u * (mA M 11 1))) + (v * (mA M 11 2))))) (-(((p * (mA M 11 3)) + (u * (mA M 11 4))) + (v * (mA M 11 5))))) < (-(((p * (mA M 11 6)) + (u * (mA M 11 7))) + (v * (mA M 11 8)))))) rfl rfl rfl (ik_le _ _) (fun q8 => ?_) (fun q8 => ?_)
      · refine x_iload (pc' := 69) rfl rfl rfl ?_
        ((try rw [mxc_f q8] at J8); (try simp only [cd_t, cd_f, nt_t, nt_f, an_t, an_f, or_t, or_f] at J8); (try simp only [cd_t, cd_f, nt_t, nt_f, an_t, an_f, or_t, or_f]); exact J8)
      · refine x_iload (pc' := 64) rfl rfl rfl ?_
        refine x_goto (pc' := 69) rfl rfl ?_
        ((try rw [mxc_t q8] at J8); (try simp only [cd_t, cd_f, nt_t, nt_f, an_t, an_f, or_t, or_f] at J8); (try simp only [cd_t, cd_f, nt_t, nt_f, an_t, an_f, or_t, or_f]); exact J8)
    refine x_icmp_n (a' := 67) (pc' := 62) (z := decide ((mxc 0 (-(((p * (mA M 11 0)) + (u * (mA M 11 1))) + (v * (mA M 11 2))))) < (-(((p * (mA M 11 3)) + (u * (mA M 11 4))) + (v * (mA M 11 5)))))) rfl rfl rfl (ik_le _ _) (fun q5 => ?_) (fun q5 => ?_)
    · refine x_iload (pc' := 69) rfl rfl rfl ?_
      ((try rw [mxc_f q5] at J5); (try simp only [cd_t, cd_f, nt_t, nt_f, an_t, an_f, or_t, or_f] at J5); (try simp only [cd_t, cd_f, nt_t, nt_f, an_t, an_f, or_t, or_f]); exact J5)
    · refine x_iload (pc' := 64) rfl rfl rfl ?_
      refine x_goto (pc' := 69) rfl rfl ?_
      ((try rw [mxc_t q5] at J5); (try simp only [cd_t, cd_f, nt_t, nt_f, an_t, an_f, or_t, or_f] at J5); (try simp only [cd_t, cd_f, nt_t, nt_f, an_t, an_f, or_t, or_f]); exact J5)
  refine x_icmp_n (a' := 67) (pc' := 62) (z := decide (0 < (-(((p * (mA M 11 0)) + (u * (mA M 11 1))) + (v * (mA M 11 2)))))) rfl rfl rfl (ik_le _ _) (fun q2 => ?_) (fun q2 => ?_)
  · refine x_iload (pc' := 69) rfl rfl rfl ?_
    ((try rw [mxc_f q2] at J2); (try simp only [cd_t, cd_f, nt_t, nt_f, an_t, an_f, or_t, or_f] at J2); (try simp only [cd_t, cd_f, nt_t, nt_f, an_t, an_f, or_t, or_f]); exact J2)
  · refine x_iload (pc' := 64) rfl rfl rfl ?_
    refine x_goto (pc' := 69) rfl rfl ?_
    ((try rw [mxc_t q2] at J2); (try simp only [cd_t, cd_f, nt_t, nt_f, an_t, an_f, or_t, or_f] at J2); (try simp only [cd_t, cd_f, nt_t, nt_f, an_t, an_f, or_t, or_f]); exact J2)
def fdF (M : sM) (n : Nat) (m : Nat) : Int32 := (((((mA M 4 m) + (mA M 5 m)) + ((mA M 6 ((3 * m) + 0)) * (mA M 1 0))) + ((mA M 6 ((3 * m) + 1)) * (mA M 1 1))) + ((mA M 6 ((3 * m) + 2)) * (mA M 1 2)))
set_option maxHeartbeats 4000000 in
set_option maxRecDepth 10000 in
theorem r182 {t : sT} {Q : sRs → sT → Prop} {M : sM} {n : Nat} {m : Nat}
    (hM : rp t = M)
    (hc : Cn t)
    (hR : Ri M n)
    (hm : m < 6)
    (q : Q (.inl (some (.inl (fdF M n m)))) t) :
    X 182 0 [.inr (.inr (12, (some 0))), .inl (io m), sJk, sJk] [] t Q := by
  refine x_aload_n (pc' := 1) rfl rfl rfl rfl rfl ?_
  refine x_gR (pc' := 4) (r := (some 4)) rfl rfl rfl (kR_774_0 hc) ?_
  refine x_iload_n (pc' := 5) rfl rfl rfl ?_
  refine x_iald (pc' := 6) (N := 6) (x := (mA M 4 m)) rfl rfl rfl (kN_21_4 hc) (io_in (p := m) (N := 6) hm (by decide)) (Eq.trans (congrArg (sA t 21 4) (nn_io (p := m) (Nat.lt_trans hm (by decide)))) (gA hM rfl)) ?_
  refine x_aload_n (pc' := 7) rfl rfl rfl rfl rfl ?_
  refine x_gR (pc' := 10) (r := (some 5)) rfl rfl rfl (kR_775_0 hc) ?_
  refine x_iload_n (pc' := 11) rfl rfl rfl ?_
  refine x_iald (pc' := 12) (N := 6) (x := (mA M 5 m)) rfl rfl rfl (kN_21_5 hc) (io_in (p := m) (N := 6) hm (by decide)) (Eq.trans (congrArg (sA t 21 5) (nn_io (p := m) (Nat.lt_trans hm (by decide)))) (gA hM rfl)) ?_
  refine x_iadd (pc' := 13) (z := ((mA M 4 m) + (mA M 5 m))) rfl rfl rfl ?_
  refine x_istore_n (pc' := 14) (ls' := [_, _, _, _]) rfl rfl rfl rfl ?_
  refine x_iconst (pc' := 15) rfl rfl ?_
  refine x_istore_n (pc' := 16) (ls' := [_, _, _, _]) rfl rfl rfl rfl ?_
  refine x_iload_n (pc' := 17) rfl rfl rfl ?_
  refine x_iconst (pc' := 18) rfl rfl ?_
  refine x_icmp (a' := 47) (pc' := 21) (z := false) rfl rfl rfl (by decide) (fun h => by cases h) (fun _ => ?_)
  refine x_iload_n (pc' := 22) rfl rfl rfl ?_
  refine x_aload_n (pc' := 23) rfl rfl rfl rfl rfl ?_
  refine x_gR (pc' := 26) (r := (some 6)) rfl rfl rfl (kR_776_0 hc) ?_
  refine x_iconst (pc' := 27) rfl rfl ?_
  refine x_iload_n (pc' := 28) rfl rfl rfl ?_
  refine x_imul (pc' := 29) (z := (io (3 * m))) rfl rfl (io_mul 3 m) ?_
  refine x_iload_n (pc' := 30) rfl rfl rfl ?_
  refine x_iadd (pc' := 31) (z := (io ((3 * m) + 0))) rfl rfl (io_add (3 * m) 0) ?_
  refine x_iald (pc' := 32) (N := 18) (x := (mA M 6 ((3 * m) + 0))) rfl rfl rfl (kN_21_6 hc) (io_in (p := ((3 * m) + 0)) (N := 18) (show ((3 * m) + 0) < 18 by omega) (by decide)) (Eq.trans (congrArg (sA t 21 6) (nn_io (p := ((3 * m) + 0)) (Nat.lt_trans (show ((3 * m) + 0) < 18 by omega) (by decide)))) (gA hM rfl)) ?_
  refine x_aload_n (pc' := 33) rfl rfl rfl rfl rfl ?_
  refine x_gR (pc' := 36) (r := (some 1)) rfl rfl rfl (kR_771_0 hc) ?_
  refine x_iload_n (pc' := 37) rfl rfl rfl ?_
  refine x_iald (pc' := 38) (N := 3) (x := (mA M 1 0)) rfl rfl rfl (kN_21_1 hc) (io_in (p := 0) (N := 3) (by decide) (by decide)) (Eq.trans (congrArg (sA t 21 1) (nn_io (p := 0) (by decide))) (gA hM rfl)) ?_
  refine x_imul (pc' := 39) (z := ((mA M 6 ((3 * m) + 0)) * (mA M 1 0))) rfl rfl rfl ?_
  refine x_iadd (pc' := 40) (z := (((mA M 4 m) + (mA M 5 m)) + ((mA M 6 ((3 * m) + 0)) * (mA M 1 0)))) rfl rfl rfl ?_
  refine x_istore_n (pc' := 41) (ls' := [_, _, _, _]) rfl rfl rfl rfl ?_
  refine x_iinc (pc' := 44) (y := 1) (ls' := [_, _, _, _]) rfl rfl rfl rfl rfl ?_
  refine x_goto (pc' := 16) rfl rfl ?_
  refine x_iload_n (pc' := 17) rfl rfl rfl ?_
  refine x_iconst (pc' := 18) rfl rfl ?_
  refine x_icmp (a' := 47) (pc' := 21) (z := false) rfl rfl rfl (by decide) (fun h => by cases h) (fun _ => ?_)
  refine x_iload_n (pc' := 22) rfl rfl rfl ?_
  refine x_aload_n (pc' := 23) rfl rfl rfl rfl rfl ?_
  refine x_gR (pc' := 26) (r := (some 6)) rfl rfl rfl (kR_776_0 hc) ?_
  refine x_iconst (pc' := 27) rfl rfl ?_
  refine x_iload_n (pc' := 28) rfl rfl rfl ?_
  refine x_imul (pc' := 29) (z := (io (3 * m))) rfl rfl (io_mul 3 m) ?_
  refine x_iload_n (pc' := 30) rfl rfl rfl ?_
  refine x_iadd (pc' := 31) (z := (io ((3 * m) + 1))) rfl rfl (io_add (3 * m) 1) ?_
  refine x_iald (pc' := 32) (N := 18) (x := (mA M 6 ((3 * m) + 1))) rfl rfl rfl (kN_21_6 hc) (io_in (p := ((3 * m) + 1)) (N := 18) (show ((3 * m) + 1) < 18 by omega) (by decide)) (Eq.trans (congrArg (sA t 21 6) (nn_io (p := ((3 * m) + 1)) (Nat.lt_trans (show ((3 * m) + 1) < 18 by omega) (by decide)))) (gA hM rfl)) ?_
  refine x_aload_n (pc' := 33) rfl rfl rfl rfl rfl ?_
  refine x_gR (pc' := 36) (r := (some 1)) rfl rfl rfl (kR_771_0 hc) ?_
  refine x_iload_n (pc' := 37) rfl rfl rfl ?_
  refine x_iald (pc' := 38) (N := 3) (x := (mA M 1 1)) rfl rfl rfl (kN_21_1 hc) (io_in (p := 1) (N := 3) (by decide) (by decide)) (Eq.trans (congrArg (sA t 21 1) (nn_io (p := 1) (by decide))) (gA hM rfl)) ?_
  refine x_imul (pc' := 39) (z := ((mA M 6 ((3 * m) + 1)) * (mA M 1 1))) rfl rfl rfl ?_
  refine x_iadd (pc' := 40) (z := ((((mA M 4 m) + (mA M 5 m)) + ((mA M 6 ((3 * m) + 0)) * (mA M 1 0))) + ((mA M 6 ((3 * m) + 1)) * (mA M 1 1)))) rfl rfl rfl ?_
  refine x_istore_n (pc' := 41) (ls' := [_, _, _, _]) rfl rfl rfl rfl ?_
  refine x_iinc (pc' := 44) (y := 2) (ls' := [_, _, _, _]) rfl rfl rfl rfl rfl ?_
  refine x_goto (pc' := 16) rfl rfl ?_
  refine x_iload_n (pc' := 17) rfl rfl rfl ?_
  refine x_iconst (pc' := 18) rfl rfl ?_
  refine x_icmp (a' := 47) (pc' := 21) (z := false) rfl rfl rfl (by decide) (fun h => by cases h) (fun _ => ?_)
  refine x_iload_n (pc' := 22) rfl rfl rfl ?_
  refine x_aload_n (pc' := 23) rfl rfl rfl rfl rfl ?_
  refine x_gR (pc' := 26) (r := (some 6)) rfl rfl rfl (kR_776_0 hc) ?_
  refine x_iconst (pc' := 27) rfl rfl ?_
  refine x_iload_n (pc' := 28) rfl rfl rfl ?_
  refine x_imul (pc' := 29) (z := (io (3 * m))) rfl rfl (io_mul 3 m) ?_
  refine x_iload_n (pc' := 30) rfl rfl rfl ?_
  refine x_iadd (pc' := 31) (z := (io ((3 * m) + 2))) rfl rfl (io_add (3 * m) 2) ?_
  refine x_iald (pc' := 32) (N := 18) (x := (mA M 6 ((3 * m) + 2))) rfl rfl rfl (kN_21_6 hc) (io_in (p := ((3 * m) + 2)) (N := 18) (show ((3 * m) + 2) < 18 by omega) (by decide)) (Eq.trans (congrArg (sA t 21 6) (nn_io (p := ((3 * m) + 2)) (Nat.lt_trans (show ((3 * m) + 2) < 18 by omega) (by decide)))) (gA hM rfl)) ?_
  refine x_aload_n (pc' := 33) rfl rfl rfl rfl rfl ?_
  refine x_gR (pc' := 36) (r := (some 1)) rfl rfl rfl (kR_771_0 hc) ?_
  refine x_iload_n (pc' := 37) rfl rfl rfl ?_
  refine x_iald (pc' := 38) (N := 3) (x := (mA M 1 2)) rfl rfl rfl (kN_21_1 hc) (io_in (p := 2) (N := 3) (by decide) (by decide)) (Eq.trans (congrArg (sA t 21 1) (nn_io (p := 2) (by decide))) (gA hM rfl)) ?_
  refine x_imul (pc' := 39) (z := ((mA M 6 ((3 * m) + 2)) * (mA M 1 2))) rfl rfl rfl ?_
  refine x_iadd (pc' := 40) (z := (((((mA M 4 m) + (mA M 5 m)) + ((mA M 6 ((3 * m) + 0)) * (mA M 1 0))) + ((mA M 6 ((3 * m) + 1)) * (mA M 1 1))) + ((mA M 6 ((3 * m) + 2)) * (mA M 1 2)))) rfl rfl rfl ?_
  refine x_istore_n (pc' := 41) (ls' := [_, _, _, _]) rfl rfl rfl rfl ?_
  refine x_iinc (pc' := 44) (y := 3) (ls' := [_, _, _, _]) rfl rfl rfl rfl rfl ?_
  refine x_goto (pc' := 16) rfl rfl ?_
  refine x_iload_n (pc' := 17) rfl rfl rfl ?_
  refine x_iconst (pc' := 18) rfl rfl ?_
  refine x_icmp (a' := 47) (pc' := 21) (z := true) rfl rfl rfl (by decide) (fun _ => ?_) (fun h => by cases h)
  refine x_iload_n (pc' := 48) rfl rfl rfl ?_
  refine x_reti rfl rfl ?_
  exact q 
def ndF (M : sM) (n : Nat) (m : Nat) : Int32 := (mxc (mxc (mxc (mxc (mxc (mxc (mxc (mxc 0 (mgF M n ((mA M 6 ((3 * m) + 0)) + (-(cdF M n m 0 false))) ((mA M 6 ((3 * m) + 1)) + (-(cdF M n m 1 false))) ((mA M 6 ((3 * m) + 2)) + (-(cdF M n m 2 false))))) (mgF M n ((mA M 6 ((3 * m) + 0)) + (cdF M n m 0 true)) ((mA M 6 ((3 * m) + 1)) + (-(cdF M n m 1 false))) ((mA M 6 ((3 * m) + 2)) + (-(cdF M n m 2 false))))) (mgF M n ((mA M 6 ((3 * m) + 0)) + (-(cdF M n m 0 false))) ((mA M 6 ((3 * m) + 1)) + (cdF M n m 1 true)) ((mA M 6 ((3 * m) + 2)) + (-(cdF M n m 2 false))))) (mgF M n ((mA M 6 ((3 * m) + 0)) + (cdF M n m 0 true)) ((mA M 6 ((3 * m) + 1)) + (cdF M n m 1 true)) ((mA M 6 ((3 * m) + 2)) + (-(cdF M n m 2 false))))) (mgF M n ((mA M 6 ((3 * m) + 0)) + (-(cdF M n m 0 false))) ((mA M 6 ((3 * m) + 1)) + (-(cdF M n m 1 false))) ((mA M 6 ((3 * m) + 2)) + (cdF M n m 2 true)))) (mgF M n ((mA M 6 ((3 * m) + 0)) + (cdF M n m 0 true)) ((mA M 6 ((3 * m) + 1)) + (-(cdF M n m 1 false))) ((mA M 6 ((3 * m) + 2)) + (cdF M n m 2 true)))) (mgF M n ((mA M 6 ((3 * m) + 0)) + (-(cdF M n m 0 false))) ((mA M 6 ((3 * m) + 1)) + (cdF M n m 1 true)) ((mA M 6 ((3 * m) + 2)) + (cdF M n m 2 true)))) (mgF M n ((mA M 6 ((3 * m) + 0)) + (cdF M n m 0 true)) ((mA M 6 ((3 * m) + 1)) + (cdF M n m 1 true)) ((mA M 6 ((3 * m) + 2)) + (cdF M n m 2 true))))
set_option maxHeartbeats 4000000 in
set_option maxRecDepth 10000 in
theorem r184 {t : sT} {Q : sRs → sT → Prop} {M : sM} {n : Nat} {m : Nat}
    (hM : rp t = M)
    (hc : Cn t)
    (hR : Ri M n)
    (hm : m < 6)
    (q : Q (.inl (some (.inl (ndF M n m)))) t) :
    X 184 0 [.inr (.inr (12, (some 0))), .inl (io m), sJk, sJk, sJk] [] t Q := by
  refine x_iconst (pc' := 1) rfl rfl ?_
  refine x_istore_n (pc' := 2) (ls' := [_, _, _, _, _]) rfl rfl rfl rfl ?_
  refine x_iconst (pc' := 3) rfl rfl ?_
  refine x_istore_n (pc' := 4) (ls' := [_, _, _, _, _]) rfl rfl rfl rfl ?_
  refine x_iload_n (pc' := 5) rfl rfl rfl ?_
  refine x_bipush (pc' := 7) rfl rfl ?_
  refine x_icmp (a' := 56) (pc' := 10) (z := false) rfl rfl rfl (by decide) (fun h => by cases h) (fun _ => ?_)
  refine x_aload_n (pc' := 11) rfl rfl rfl rfl rfl ?_
  refine x_aload_n (pc' := 12) rfl rfl rfl rfl rfl ?_
  refine x_iload_n (pc' := 13) rfl rfl rfl ?_
  refine x_iconst (pc' := 14) rfl rfl ?_
  refine x_iload_n (pc' := 15) rfl rfl rfl ?_
  refine x_cv (ls0 := [_, _, _, _, sJk, sJk]) (rest := [_]) rfl rfl rfl rfl rfl ?_
  refine x_iload_n (pc' := 1) rfl rfl rfl ?_
  refine x_iload_n (pc' := 2) rfl rfl rfl ?_
  refine x_ishr (pc' := 3) (z := 0) rfl rfl (by decide) ?_
  refine x_iconst (pc' := 4) rfl rfl ?_
  refine x_iand (pc' := 5) (z := 0) rfl rfl (by decide) ?_
  refine x_iconst (pc' := 6) rfl rfl ?_
  refine x_icmp (a' := 13) (pc' := 9) (z := true) rfl rfl rfl (by decide) (fun _ => ?_) (fun h => by cases h)
  refine x_iconst (pc' := 14) rfl rfl ?_
  refine x_istore (pc' := 16) (ls' := [_, _, _, _, _, _]) rfl rfl rfl rfl ?_
  refine x_aload_n (pc' := 17) rfl rfl rfl rfl rfl ?_
  refine x_iload_n (pc' := 18) rfl rfl rfl ?_
  refine x_iload_n (pc' := 19) rfl rfl rfl ?_
  refine x_iload (pc' := 21) rfl rfl rfl ?_
  refine x_cv (ls0 := [_, _, _, _, sJk, sJk, sJk, sJk, sJk]) (rest := []) rfl rfl rfl rfl rfl ?_
  refine r183 (m := m) (c := 0) (s := false) hM hc (Fr.ri (Fr.refl _) hR) hm (show 0 < 3 by decide) ?_
  refine sK_i (pc' := 24) rfl ?_
  refine x_istore (pc' := 26) (ls' := [_, _, _, _, _, _]) rfl rfl rfl rfl ?_
  refine x_aload_n (pc' := 27) rfl rfl rfl rfl rfl ?_
  refine x_gR (pc' := 30) (r := (some 6)) rfl rfl rfl (kR_776_0 hc) ?_
  refine x_iconst (pc' := 31) rfl rfl ?_
  refine x_iload_n (pc' := 32) rfl rfl rfl ?_
  refine x_imul (pc' := 33) (z := (io (3 * m))) rfl rfl (io_mul 3 m) ?_
  refine x_iload_n (pc' := 34) rfl rfl rfl ?_
  refine x_iadd (pc' := 35) (z := (io ((3 * m) + 0))) rfl rfl (io_add (3 * m) 0) ?_
  refine x_iald (pc' := 36) (N := 18) (x := (mA M 6 ((3 * m) + 0))) rfl rfl rfl (kN_21_6 hc) (io_in (p := ((3 * m) + 0)) (N := 18) (show ((3 * m) + 0) < 18 by omega) (by decide)) (Eq.trans (congrArg (sA t 21 6) (nn_io (p := ((3 * m) + 0)) (Nat.lt_trans (show ((3 * m) + 0) < 18 by omega) (by decide)))) (gA hM rfl)) ?_
  refine x_iload (pc' := 38) rfl rfl rfl ?_
  refine x_if (a' := 46) (pc' := 41) (z := true) rfl rfl rfl (by decide) (fun _ => ?_) (fun h => by cases h)
  refine x_iload (pc' := 48) rfl rfl rfl ?_
  refine x_ineg (pc' := 49) rfl rfl rfl ?_
  refine x_iadd (pc' := 50) (z := ((mA M 6 ((3 * m) + 0)) + (-(cdF M n m 0 false)))) rfl rfl rfl ?_
  refine x_reti rfl rfl ?_
  refine sK_i (pc' := 18) rfl ?_
  refine x_aload_n (pc' := 19) rfl rfl rfl rfl rfl ?_
  refine x_iload_n (pc' := 20) rfl rfl rfl ?_
  refine x_iconst (pc' := 21) rfl rfl ?_
  refine x_iload_n (pc' := 22) rfl rfl rfl ?_
  refine x_cv (ls0 := [_, _, _, _, sJk, sJk]) (rest := [_, _]) rfl rfl rfl rfl rfl ?_
  refine x_iload_n (pc' := 1) rfl rfl rfl ?_
  refine x_iload_n (pc' := 2) rfl rfl rfl ?_
  refine x_ishr (pc' := 3) (z := 0) rfl rfl (by decide) ?_
  refine x_iconst (pc' := 4) rfl rfl ?_
  refine x_iand (pc' := 5) (z := 0) rfl rfl (by decide) ?_
  refine x_iconst (pc' := 6) rfl rfl ?_
  refine x_icmp (a' := 13) (pc' := 9) (z := true) rfl rfl rfl (by decide) (fun _ => ?_) (fun h => by cases h)
  refine x_iconst (pc' := 14) rfl rfl ?_
  refine x_istore (pc' := 16) (ls' := [_, _, _, _, _, _]) rfl rfl rfl rfl ?_
  refine x_aload_n (pc' := 17) rfl rfl rfl rfl rfl ?_
  refine x_iload_n (pc' := 18) rfl rfl rfl ?_
  refine x_iload_n (pc' := 19) rfl rfl rfl ?_
  refine x_iload (pc' := 21) rfl rfl rfl ?_
  refine x_cv (ls0 := [_, _, _, _, sJk, sJk, sJk, sJk, sJk]) (rest := []) rfl rfl rfl rfl rfl ?_
  refine r183 (m := m) (c := 1) (s := false) hM hc (Fr.ri (Fr.refl _) hR) hm (show 1 < 3 by decide) ?_
  refine sK_i (pc' := 24) rfl ?_
  refine x_istore (pc' := 26) (ls' := [_, _, _, _, _, _]) rfl rfl rfl rfl ?_
  refine x_aload_n (pc' := 27) rfl rfl rfl rfl rfl ?_
  refine x_gR (pc' := 30) (r := (some 6)) rfl rfl rfl (kR_776_0 hc) ?_
  refine x_iconst (pc' := 31) rfl rfl ?_
  refine x_iload_n (pc' := 32) rfl rfl rfl ?_
  refine x_imul (pc' := 33) (z := (io (3 * m))) rfl rfl (io_mul 3 m) ?_
  refine x_iload_n (pc' := 34) rfl rfl rfl ?_
  refine x_iadd (pc' := 35) (z := (io ((3 * m) + 1))) rfl rfl (io_add (3 * m) 1) ?_
  refine x_iald (pc' := 36) (N := 18) (x := (mA M 6 ((3 * m) + 1))) rfl rfl rfl (kN_21_6 hc) (io_in (p := ((3 * m) + 1)) (N := 18) (show ((3 * m) + 1) < 18 by omega) (by decide)) (Eq.trans (congrArg (sA t 21 6) (nn_io (p := ((3 * m) + 1)) (Nat.lt_trans (show ((3 * m) + 1) < 18 by omega) (by decide)))) (gA hM rfl)) ?_
  refine x_iload (pc' := 38) rfl rfl rfl ?_
  refine x_if (a' := 46) (pc' := 41) (z := true) rfl rfl rfl (by decide) (fun _ => ?_) (fun h => by cases h)
  refine x_iload (pc' := 48) rfl rfl rfl ?_
  refine x_ineg (pc' := 49) rfl rfl rfl ?_
  refine x_iadd (pc' := 50) (z := ((mA M 6 ((3 * m) + 1)) + (-(cdF M n m 1 false)))) rfl rfl rfl ?_
  refine x_reti rfl rfl ?_
  refine sK_i (pc' := 25) rfl ?_
  refine x_aload_n (pc' := 26) rfl rfl rfl rfl rfl ?_
  refine x_iload_n (pc' := 27) rfl rfl rfl ?_
  refine x_iconst (pc' := 28) rfl rfl ?_
  refine x_iload_n (pc' := 29) rfl rfl rfl ?_
  refine x_cv (ls0 := [_, _, _, _, sJk, sJk]) (rest := [_, _, _]) rfl rfl rfl rfl rfl ?_
  refine x_iload_n (pc' := 1) rfl rfl rfl ?_
  refine x_iload_n (pc' := 2) rfl rfl rfl ?_
  refine x_ishr (pc' := 3) (z := 0) rfl rfl (by decide) ?_
  refine x_iconst (pc' := 4) rfl rfl ?_
  refine x_iand (pc' := 5) (z := 0) rfl rfl (by decide) ?_
  refine x_iconst (pc' := 6) rfl rfl ?_
  refine x_icmp (a' := 13) (pc' := 9) (z := true) rfl rfl rfl (by decide) (fun _ => ?_) (fun h => by cases h)
  refine x_iconst (pc' := 14) rfl rfl ?_
  refine x_istore (pc' := 16) (ls' := [_, _, _, _, _, _]) rfl rfl rfl rfl ?_
  refine x_aload_n (pc' := 17) rfl rfl rfl rfl rfl ?_
  refine x_iload_n (pc' := 18) rfl rfl rfl ?_
  refine x_iload_n (pc' := 19) rfl rfl rfl ?_
  refine x_iload (pc' := 21) rfl rfl rfl ?_
  refine x_cv (ls0 := [_, _, _, _, sJk, sJk, sJk, sJk, sJk]) (rest := []) rfl rfl rfl rfl rfl ?_
  refine r183 (m := m) (c := 2) (s := false) hM hc (Fr.ri (Fr.refl _) hR) hm (show 2 < 3 by decide) ?_
  refine sK_i (pc' := 24) rfl ?_
  refine x_istore (pc' := 26) (ls' := [_, _, _, _, _, _]) rfl rfl rfl rfl ?_
  refine x_aload_n (pc' := 27) rfl rfl rfl rfl rfl ?_
  refine x_gR (pc' := 30) (r := (some 6)) rfl rfl rfl (kR_776_0 hc) ?_
  refine x_iconst (pc' := 31) rfl rfl ?_
  refine x_iload_n (pc' := 32) rfl rfl rfl ?_
  refine x_imul (pc' := 33) (z := (io (3 * m))) rfl rfl (io_mul 3 m) ?_
  refine x_iload_n (pc' := 34) rfl rfl rfl ?_
  refine x_iadd (pc' := 35) (z := (io ((3 * m) + 2))) rfl rfl (io_add (3 * m) 2) ?_
  refine x_iald (pc' := 36) (N := 18) (x := (mA M 6 ((3 * m) + 2))) rfl rfl rfl (kN_21_6 hc) (io_in (p := ((3 * m) + 2)) (N := 18) (show ((3 * m) + 2) < 18 by omega) (by decide)) (Eq.trans (congrArg (sA t 21 6) (nn_io (p := ((3 * m) + 2)) (Nat.lt_trans (show ((3 * m) + 2) < 18 by omega) (by decide)))) (gA hM rfl)) ?_
  refine x_iload (pc' := 38) rfl rfl rfl ?_
  refine x_if (a' := 46) (pc' := 41) (z := true) rfl rfl rfl (by decide) (fun _ => ?_) (fun h => by cases h)
  refine x_iload (pc' := 48) rfl rfl rfl ?_
  refine x_ineg (pc' := 49) rfl rfl rfl ?_
  refine x_iadd (pc' := 50) (z := ((mA M 6 ((3 * m) + 2)) + (-(cdF M n m 2 false)))) rfl rfl rfl ?_
  refine x_reti rfl rfl ?_
  refine sK_i (pc' := 32) rfl ?_
  refine x_cv (ls0 := [_, _, _, _, sJk, sJk, sJk]) (rest := []) rfl rfl rfl rfl rfl ?_
  refine r180 (p := ((mA M 6 ((3 * m) + 0)) + (-(cdF M n m 0 false)))) (u := ((mA M 6 ((3 * m) + 1)) + (-(cdF M n m 1 false)))) (v := ((mA M 6 ((3 * m) + 2)) + (-(cdF M n m 2 false)))) hM hc (Fr.ri (Fr.refl _) hR) ?_
  refine sK_i (pc' := 35) rfl ?_
  refine x_istore (pc' := 37) (ls' := [_, _, _, _, _]) rfl rfl rfl rfl ?_
  refine x_iload (pc' := 39) rfl rfl rfl ?_
  refine x_iload_n (pc' := 40) rfl rfl rfl ?_
  have J8 : X 184 49 [.inr (.inr (12, (some 0))), .inl (io m), .inl 0, .inl 0, .inl (mgF M n ((mA M 6 ((3 * m) + 0)) + (-(cdF M n m 0 false))) ((mA M 6 ((3 * m) + 1)) + (-(cdF M n m 1 false))) ((mA M 6 ((3 * m) + 2)) + (-(cdF M n m 2 false))))] [.inl (mxc 0 (mgF M n ((mA M 6 ((3 * m) + 0)) + (-(cdF M n m 0 false))) ((mA M 6 ((3 * m) + 1)) + (-(cdF M n m 1 false))) ((mA M 6 ((3 * m) + 2)) + (-(cdF M n m 2 false)))))] t Q := by
    refine x_istore_n (pc' := 50) (ls' := [_, _, _, _, _]) rfl rfl rfl rfl ?_
    refine x_iinc (pc' := 53) (y := 1) (ls' := [_, _, _, _, _]) rfl rfl rfl rfl rfl ?_
    refine x_goto (pc' := 4) rfl rfl ?_
    refine x_iload_n (pc' := 5) rfl rfl rfl ?_
    refine x_bipush (pc' := 7) rfl rfl ?_
    refine x_icmp (a' := 56) (pc' := 10) (z := false) rfl rfl rfl (by decide) (fun h => by cases h) (fun _ => ?_)
    refine x_aload_n (pc' := 11) rfl rfl rfl rfl rfl ?_
    refine x_aload_n (pc' := 12) rfl rfl rfl rfl rfl ?_
    refine x_iload_n (pc' := 13) rfl rfl rfl ?_
    refine x_iconst (pc' := 14) rfl rfl ?_
    refine x_iload_n (pc' := 15) rfl rfl rfl ?_
    refine x_cv (ls0 := [_, _, _, _, sJk, sJk]) (rest := [_]) rfl rfl rfl rfl rfl ?_
    refine x_iload_n (pc' := 1) rfl rfl rfl ?_
    refine x_iload_n (pc' := 2) rfl rfl rfl ?_
    refine x_ishr (pc' := 3) (z := 1) rfl rfl (by decide) ?_
    refine x_iconst (pc' := 4) rfl rfl ?_
    refine x_iand (pc' := 5) (z := 1) rfl rfl (by decide) ?_
    refine x_iconst (pc' := 6) rfl rfl ?_
    refine x_icmp (a' := 13) (pc' := 9) (z := false) rfl rfl rfl (by decide) (fun h => by cases h) (fun _ => ?_)
    refine x_iconst (pc' := 10) rfl rfl ?_
    refine x_goto (pc' := 14) rfl rfl ?_
    refine x_istore (pc' := 16) (ls' := [_, _, _, _, _, _]) rfl rfl rfl rfl ?_
    refine x_aload_n (pc' := 17) rfl rfl rfl rfl rfl ?_
    refine x_iload_n (pc' := 18) rfl rfl rfl ?_
    refine x_iload_n (pc' := 19) rfl rfl rfl ?_
    refine x_iload (pc' := 21) rfl rfl rfl ?_
    refine x_cv (ls0 := [_, _, _, _, sJk, sJk, sJk, sJk, sJk]) (rest := []) rfl rfl rfl rfl rfl ?_
    refine r183 (m := m) (c := 0) (s := true) hM hc (Fr.ri (Fr.refl _) hR) hm (show 0 < 3 by decide) ?_
    refine sK_i (pc' := 24) rfl ?_
    refine x_istore (pc' := 26) (ls' := [_, _, _, _, _, _]) rfl rfl rfl rfl ?_
    refine x_aload_n (pc' := 27) rfl rfl rfl rfl rfl ?_
    refine x_gR (pc' := 30) (r := (some 6)) rfl rfl rfl (kR_776_0 hc) ?_
    refine x_iconst (pc' := 31) rfl rfl ?_
    refine x_iload_n (pc' := 32) rfl rfl rfl ?_
    refine x_imul (pc' := 33) (z := (io (3 * m))) rfl rfl (io_mul 3 m) ?_
    refine x_iload_n (pc' := 34) rfl rfl rfl ?_
    refine x_iadd (pc' := 35) (z := (io ((3 * m) + 0))) rfl rfl (io_add (3 * m) 0) ?_
    refine x_iald (pc' := 36) (N := 18) (x := (mA M 6 ((3 * m) + 0))) rfl rfl rfl (kN_21_6 hc) (io_in (p := ((3 * m) + 0)) (N := 18) (show ((3 * m) + 0) < 18 by omega) (by decide)) (Eq.trans (congrArg (sA t 21 6) (nn_io (p := ((3 * m) + 0)) (Nat.lt_trans (show ((3 * m) + 0) < 18 by omega) (by decide)))) (gA hM rfl)) ?_
    refine x_iload (pc' := 38) rfl rfl rfl ?_
    refine x_if (a' := 46) (pc' := 41) (z := false) rfl rfl rfl (by decide) (fun h => by cases h) (fun _ => ?_)
    refine x_iload (pc' := 43) rfl rfl rfl ?_
    refine x_goto (pc' := 49) rfl rfl ?_
    refine x_iadd (pc' := 50) (z := ((mA M 6 ((3 * m) + 0)) + (cdF M n m 0 true))) rfl rfl rfl ?_
    refine x_reti rfl rfl ?_
    refine sK_i (pc' := 18) rfl ?_
    refine x_aload_n (pc' := 19) rfl rfl rfl rfl rfl ?_
    refine x_iload_n (pc' := 20) rfl rfl rfl ?_
    refine x_iconst (pc' := 21) rfl rfl ?_
    refine x_iload_n (pc' := 22) rfl rfl rfl ?_
    refine x_cv (ls0 := [_, _, _, _, sJk, sJk]) (rest := [_, _]) rfl rfl rfl rfl rfl ?_
    refine x_iload_n (pc' := 1) rfl rfl rfl ?_
    refine x_iload_n (pc' := 2) rfl rfl rfl ?_
    refine x_ishr (pc' := 3) (z := 0) rfl rfl (by decide) ?_
    refine x_iconst (pc' := 4) rfl rfl ?_
    refine x_iand (pc' := 5) (z := 0) rfl rfl (by decide) ?_
    refine x_iconst (pc' := 6) rfl rfl ?_
    refine x_icmp (a' := 13) (pc' := 9) (z := true) rfl rfl rfl (by decide) (fun _ => ?_) (fun h => by cases h)
    refine x_iconst (pc' := 14) rfl rfl ?_
    refine x_istore (pc' := 16) (ls' := [_, _, _, _, _, _]) rfl rfl rfl rfl ?_
    refine x_aload_n (pc' := 17) rfl rfl rfl rfl rfl ?_
    refine x_iload_n (pc' := 18) rfl rfl rfl ?_
    refine x_iload_n (pc' := 19) rfl rfl rfl ?_
    refine x_iload (pc' := 21) rfl rfl rfl ?_
    refine x_cv (ls0 := [_, _, _, _, sJk, sJk, sJk, sJk, sJk]) (rest := []) rfl rfl rfl rfl rfl ?_
    refine r183 (m := m) (c := 1) (s := false) hM hc (Fr.ri (Fr.refl _) hR) hm (show 1 < 3 by decide) ?_
    refine sK_i (pc' := 24) rfl ?_
    refine x_istore (pc' := 26) (ls' := [_, _, _, _, _, _]) rfl rfl rfl rfl ?_
    refine x_aload_n (pc' := 27) rfl rfl rfl rfl rfl ?_
    refine x_gR (pc' := 30) (r := (some 6)) rfl rfl rfl (kR_776_0 hc) ?_
    refine x_iconst (pc' := 31) rfl rfl ?_
    refine x_iload_n (pc' := 32) rfl rfl rfl ?_
    refine x_imul (pc' := 33) (z := (io (3 * m))) rfl rfl (io_mul 3 m) ?_
    refine x_iload_n (pc' := 34) rfl rfl rfl ?_
    refine x_iadd (pc' := 35) (z := (io ((3 * m) + 1))) rfl rfl (io_add (3 * m) 1) ?_
    refine x_iald (pc' := 36) (N := 18) (x := (mA M 6 ((3 * m) + 1))) rfl rfl rfl (kN_21_6 hc) (io_in (p := ((3 * m) + 1)) (N := 18) (show ((3 * m) + 1) < 18 by omega) (by decide)) (Eq.trans (congrArg (sA t 21 6) (nn_io (p := ((3 * m) + 1)) (Nat.lt_trans (show ((3 * m) + 1) < 18 by omega) (by decide)))) (gA hM rfl)) ?_
    refine x_iload (pc' := 38) rfl rfl rfl ?_
    refine x_if (a' := 46) (pc' := 41) (z := true) rfl rfl rfl (by decide) (fun _ => ?_) (fun h => by cases h)
    refine x_iload (pc' := 48) rfl rfl rfl ?_
    refine x_ineg (pc' := 49) rfl rfl rfl ?_
    refine x_iadd (pc' := 50) (z := ((mA M 6 ((3 * m) + 1)) + (-(cdF M n m 1 false)))) rfl rfl rfl ?_
    refine x_reti rfl rfl ?_
    refine sK_i (pc' := 25) rfl ?_
    refine x_aload_n (pc' := 26) rfl rfl rfl rfl rfl ?_
    refine x_iload_n (pc' := 27) rfl rfl rfl ?_
    refine x_iconst (pc' := 28) rfl rfl ?_
    refine x_iload_n (pc' := 29) rfl rfl rfl ?_
    refine x_cv (ls0 := [_, _, _, _, sJk, sJk]) (rest := [_, _, _]) rfl rfl rfl rfl rfl ?_
    refine x_iload_n (pc' := 1) rfl rfl rfl ?_
    refine x_iload_n (pc' := 2) rfl rfl rfl ?_
    refine x_ishr (pc' := 3) (z := 0) rfl rfl (by decide) ?_
    refine x_iconst (pc' := 4) rfl rfl ?_
    refine x_iand (pc' := 5) (z := 0) rfl rfl (by decide) ?_
    refine x_iconst (pc' := 6) rfl rfl ?_
    refine x_icmp (a' := 13) (pc' := 9) (z := true) rfl rfl rfl (by decide) (fun _ => ?_) (fun h => by cases h)
    refine x_iconst (pc' := 14) rfl rfl ?_
    refine x_istore (pc' := 16) (ls' := [_, _, _, _, _, _]) rfl rfl rfl rfl ?_
    refine x_aload_n (pc' := 17) rfl rfl rfl rfl rfl ?_
    refine x_iload_n (pc' := 18) rfl rfl rfl ?_
    refine x_iload_n (pc' := 19) rfl rfl rfl ?_
    refine x_iload (pc' := 21) rfl rfl rfl ?_
    refine x_cv (ls0 := [_, _, _, _, sJk, sJk, sJk, sJk, sJk]) (rest := []) rfl rfl rfl rfl rfl ?_
    refine r183 (m := m) (c := 2) (s := false) hM hc (Fr.ri (Fr.refl _) hR) hm (show 2 < 3 by decide) ?_
    refine sK_i (pc' := 24) rfl ?_
    refine x_istore (pc' := 26) (ls' := [_, _, _, _, _, _]) rfl rfl rfl rfl ?_
    refine x_aload_n (pc' := 27) rfl rfl rfl rfl rfl ?_
    refine x_gR (pc' := 30) (r := (some 6)) rfl rfl rfl (kR_776_0 hc) ?_
    refine x_iconst (pc' := 31) rfl rfl ?_
    refine x_iload_n (pc' := 32) rfl rfl rfl ?_
    refine x_imul (pc' := 33) (z := (io (3 * m))) rfl rfl (io_mul 3 m) ?_
    refine x_iload_n (pc' := 34) rfl rfl rfl ?_
    refine x_iadd (pc' := 35) (z := (io ((3 * m) + 2))) rfl rfl (io_add (3 * m) 2) ?_
    refine x_iald (pc' := 36) (N := 18) (x := (mA M 6 ((3 * m) + 2))) rfl rfl rfl (kN_21_6 hc) (io_in (p := ((3 * m) + 2)) (N := 18) (show ((3 * m) + 2) < 18 by omega) (by decide)) (Eq.trans (congrArg (sA t 21 6) (nn_io (p := ((3 * m) + 2)) (Nat.lt_trans (show ((3 * m) + 2) < 18 by omega) (by decide)))) (gA hM rfl)) ?_
    refine x_iload (pc' := 38) rfl rfl rfl ?_
    refine x_if (a' := 46) (pc' := 41) (z := true) rfl rfl rfl (by decide) (fun _ => ?_) (fun h => by cases h)
    refine x_iload (pc' := 48) rfl rfl rfl ?_
    refine x_ineg (pc' := 49) rfl rfl rfl ?_
    refine x_iadd (pc' := 50) (z := ((mA M 6 ((3 * m) + 2)) + (-(cdF M n m 2 false)))) rfl rfl rfl ?_
    refine x_reti rfl rfl ?_
    refine sK_i (pc' := 32) rfl ?_
    refine x_cv (ls0 := [_, _, _, _, sJk, sJk, sJk]) (rest := []) rfl rfl rfl rfl rfl ?_
    refine r180 (p := ((mA M 6 ((3 * m) + 0)) + (cdF M n m 0 true))) (u := ((mA M 6 ((3 * m) + 1)) + (-(cdF M n m 1 false)))) (v := ((mA M 6 ((3 * m) + 2)) + (-(cdF M n m 2 false)))) hM hc (Fr.ri (Fr.refl _) hR) ?_
    refine sK_i (pc' := 35) rfl ?_
    refine x_istore (pc' := 37) (ls' := [_, _, _, _, _]) rfl rfl rfl rfl ?_
    refine x_iload (pc' := 39) rfl rfl rfl ?_
    refine x_iload_n (pc' := 40) rfl rfl rfl ?_
    have J17 : X 184 49 [.inr (.inr (12, (some 0))), .inl (io m), .inl (mxc 0 (mgF M n ((mA M 6 ((3 * m) + 0)) + (-(cdF M n m 0 false))) ((mA M 6 ((3 * m) + 1)) + (-(cdF M n m 1 false))) ((mA M 6 ((3 * m) + 2)) + (-(cdF M n m 2 false))))), .inl 1, .inl (mgF M n ((mA M 6 ((3 * m) + 0)) + (cdF M n m 0 true)) ((mA M 6 ((3 * m) + 1)) + (-(cdF M n m 1 false))) ((mA M 6 ((3 * m) + 2)) + (-(cdF M n m 2 false))))] [.inl (mxc (mxc 0 (mgF M n ((mA M 6 ((3 * m) + 0)) + (-(cdF M n m 0 false))) ((mA M 6 ((3 * m) + 1)) + (-(cdF M n m 1 false))) ((mA M 6 ((3 * m) + 2)) + (-(cdF M n m 2 false))))) (mgF M n ((mA M 6 ((3 * m) + 0)) + (cdF M n m 0 true)) ((mA M 6 ((3 * m) + 1)) + (-(cdF M n m 1 false))) ((mA M 6 ((3 * m) + 2)) + (-(cdF M n m 2 false)))))] t Q := by
      refine x_istore_n (pc' := 50) (ls' := [_, _, _, _, _]) rfl rfl rfl rfl ?_
      refine x_iinc (pc' := 53) (y := 2) (ls' := [_, _, _, _, _]) rfl rfl rfl rfl rfl ?_
      refine x_goto (pc' := 4) rfl rfl ?_
      refine x_iload_n (pc' := 5) rfl rfl rfl ?_
      refine x_bipush (pc' := 7) rfl rfl ?_
      refine x_icmp (a' := 56) (pc' := 10) (z := false) rfl rfl rfl (by decide) (fun h => by cases h) (fun _ => ?_)
      refine x_aload_n (pc' := 11) rfl rfl rfl rfl rfl ?_
      refine x_aload_n (pc' := 12) rfl rfl rfl rfl rfl ?_
      refine x_iload_n (pc' := 13) rfl rfl rfl ?_
      refine x_iconst (pc' := 14) rfl rfl ?_
      refine x_iload_n (pc' := 15) rfl rfl rfl ?_
      refine x_cv (ls0 := [_, _, _, _, sJk, sJk]) (rest := [_]) rfl rfl rfl rfl rfl ?_
      refine x_iload_n (pc' := 1) rfl rfl rfl ?_
      refine x_iload_n (pc' := 2) rfl rfl rfl ?_
      refine x_ishr (pc' := 3) (z := 2) rfl rfl (by decide) ?_
      refine x_iconst (pc' := 4) rfl rfl ?_
      refine x_iand (pc' := 5) (z := 0) rfl rfl (by decide) ?_
      refine x_iconst (pc' := 6) rfl rfl ?_
      refine x_icmp (a' := 13) (pc' := 9) (z := true) rfl rfl rfl (by decide) (fun _ => ?_) (fun h => by cases h)
      refine x_iconst (pc' := 14) rfl rfl ?_
      refine x_istore (pc' := 16) (ls' := [_, _, _, _, _, _]) rfl rfl rfl rfl ?_
      refine x_aload_n (pc' := 17) rfl rfl rfl rfl rfl ?_
      refine x_iload_n (pc' := 18) rfl rfl rfl ?_
      refine x_iload_n (pc' := 19) rfl rfl rfl ?_
      refine x_iload (pc' := 21) rfl rfl rfl ?_
      refine x_cv (ls0 := [_, _, _, _, sJk, sJk, sJk, sJk, sJk]) (rest := []) rfl rfl rfl rfl rfl ?_
      refine r183 (m := m) (c := 0) (s := false) hM hc (Fr.ri (Fr.refl _) hR) hm (show 0 < 3 by decide) ?_
      refine sK_i (pc' := 24) rfl ?_
      refine x_istore (pc' := 26) (ls' := [_, _, _, _, _, _]) rfl rfl rfl rfl ?_
      refine x_aload_n (pc' := 27) rfl rfl rfl rfl rfl ?_
      refine x_gR (pc' := 30) (r := (some 6)) rfl rfl rfl (kR_776_0 hc) ?_
      refine x_iconst (pc' := 31) rfl rfl ?_
      refine x_iload_n (pc' := 32) rfl rfl rfl ?_
      refine x_imul (pc' := 33) (z := (io (3 * m))) rfl rfl (io_mul 3 m) ?_
      refine x_iload_n (pc' := 34) rfl rfl rfl ?_
      refine x_iadd (pc' := 35) (z := (io ((3 * m) + 0))) rfl rfl (io_add (3 * m) 0) ?_
      refine x_iald (pc' := 36) (N := 18) (x := (mA M 6 ((3 * m) + 0))) rfl rfl rfl (kN_21_6 hc) (io_in (p := ((3 * m) + 0)) (N := 18) (show ((3 * m) + 0) < 18 by omega) (by decide)) (Eq.trans (congrArg (sA t 21 6) (nn_io (p := ((3 * m) + 0)) (Nat.lt_trans (show ((3 * m) + 0) < 18 by omega) (by decide)))) (gA hM rfl)) ?_
      refine x_iload (pc' := 38) rfl rfl rfl ?_
      refine x_if (a' := 46) (pc' := 41) (z := true) rfl rfl rfl (by decide) (fun _ => ?_) (fun h => by cases h)
      refine x_iload (pc' := 48) rfl rfl rfl ?_
      refine x_ineg (pc' := 49) rfl rfl rfl ?_
      refine x_iadd (pc' := 50) (z := ((mA M 6 ((3 * m) + 0)) + (-(cdF M n m 0 false)))) rfl rfl rfl ?_
      refine x_reti rfl rfl ?_
      refine sK_i (pc' := 18) rfl ?_
      refine x_aload_n (pc' := 19) rfl rfl rfl rfl rfl ?_
      refine x_iload_n (pc' := 20) rfl rfl rfl ?_
      refine x_iconst (pc' := 21) rfl rfl ?_
      refine x_iload_n (pc' := 22) rfl rfl rfl ?_
      refine x_cv (ls0 := [_, _, _, _, sJk, sJk]) (rest := [_, _]) rfl rfl rfl rfl rfl ?_
      refine x_iload_n (pc' := 1) rfl rfl rfl ?_
      refine x_iload_n (pc' := 2) rfl rfl rfl ?_
      refine x_ishr (pc' := 3) (z := 1) rfl rfl (by decide) ?_
      refine x_iconst (pc' := 4) rfl rfl ?_
      refine x_iand (pc' := 5) (z := 1) rfl rfl (by decide) ?_
      refine x_iconst (pc' := 6) rfl rfl ?_
      refine x_icmp (a' := 13) (pc' := 9) (z := false) rfl rfl rfl (by decide) (fun h => by cases h) (fun _ => ?_)
      refine x_iconst (pc' := 10) rfl rfl ?_
      refine x_goto (pc' := 14) rfl rfl ?_
      refine x_istore (pc' := 16) (ls' := [_, _, _, _, _, _]) rfl rfl rfl rfl ?_
      refine x_aload_n (pc' := 17) rfl rfl rfl rfl rfl ?_
      refine x_iload_n (pc' := 18) rfl rfl rfl ?_
      refine x_iload_n (pc' := 19) rfl rfl rfl ?_
      refine x_iload (pc' := 21) rfl rfl rfl ?_
      refine x_cv (ls0 := [_, _, _, _, sJk, sJk, sJk, sJk, sJk]) (rest := []) rfl rfl rfl rfl rfl ?_
      refine r183 (m := m) (c := 1) (s := true) hM hc (Fr.ri (Fr.refl _) hR) hm (show 1 < 3 by decide) ?_
      refine sK_i (pc' := 24) rfl ?_
      refine x_istore (pc' := 26) (ls' := [_, _, _, _, _, _]) rfl rfl rfl rfl ?_
      refine x_aload_n (pc' := 27) rfl rfl rfl rfl rfl ?_
      refine x_gR (pc' := 30) (r := (some 6)) rfl rfl rfl (kR_776_0 hc) ?_
      refine x_iconst (pc' := 31) rfl rfl ?_
      refine x_iload_n (pc' := 32) rfl rfl rfl ?_
      refine x_imul (pc' := 33) (z := (io (3 * m))) rfl rfl (io_mul 3 m) ?_
      refine x_iload_n (pc' := 34) rfl rfl rfl ?_
      refine x_iadd (pc' := 35) (z := (io ((3 * m) + 1))) rfl rfl (io_add (3 * m) 1) ?_
      refine x_iald (pc' := 36) (N := 18) (x := (mA M 6 ((3 * m) + 1))) rfl rfl rfl (kN_21_6 hc) (io_in (p := ((3 * m) + 1)) (N := 18) (show ((3 * m) + 1) < 18 by omega) (by decide)) (Eq.trans (congrArg (sA t 21 6) (nn_io (p := ((3 * m) + 1)) (Nat.lt_trans (show ((3 * m) + 1) < 18 by omega) (by decide)))) (gA hM rfl)) ?_
      refine x_iload (pc' := 38) rfl rfl rfl ?_
      refine x_if (a' := 46) (pc' := 41) (z := false) rfl rfl rfl (by decide) (fun h => by cases h) (fun _ => ?_)
      refine x_iload (pc' := 43) rfl rfl rfl ?_
      refine x_goto (pc' := 49) rfl rfl ?_
      refine x_iadd (pc' := 50) (z := ((mA M 6 ((3 * m) + 1)) + (cdF M n m 1 true))) rfl rfl rfl ?_
      refine x_reti rfl rfl ?_
      refine sK_i (pc' := 25) rfl ?_
      refine x_aload_n (pc' := 26) rfl rfl rfl rfl rfl ?_
      refine x_iload_n (pc' := 27) rfl rfl rfl ?_
      refine x_iconst (pc' := 28) rfl rfl ?_
      refine x_iload_n (pc' := 29) rfl rfl rfl ?_
      refine x_cv (ls0 := [_, _, _, _, sJk, sJk]) (rest := [_, _, _]) rfl rfl rfl rfl rfl ?_
      refine x_iload_n (pc' := 1) rfl rfl rfl ?_
      refine x_iload_n (pc' := 2) rfl rfl rfl ?_
      refine x_ishr (pc' := 3) (z := 0) rfl rfl (by decide) ?_
      refine x_iconst (pc' := 4) rfl rfl ?_
      refine x_iand (pc' := 5) (z := 0) rfl rfl (by decide) ?_
      refine x_iconst (pc' := 6) rfl rfl ?_
      refine x_icmp (a' := 13) (pc' := 9) (z := true) rfl rfl rfl (by decide) (fun _ => ?_) (fun h => by cases h)
      refine x_iconst (pc' := 14) rfl rfl ?_
      refine x_istore (pc' := 16) (ls' := [_, _, _, _, _, _]) rfl rfl rfl rfl ?_
      refine x_aload_n (pc' := 17) rfl rfl rfl rfl rfl ?_
      refine x_iload_n (pc' := 18) rfl rfl rfl ?_
      refine x_iload_n (pc' := 19) rfl rfl rfl ?_
      refine x_iload (pc' := 21) rfl rfl rfl ?_
      refine x_cv (ls0 := [_, _, _, _, sJk, sJk, sJk, sJk, sJk]) (rest := []) rfl rfl rfl rfl rfl ?_
      refine r183 (m := m) (c := 2) (s := false) hM hc (Fr.ri (Fr.refl _) hR) hm (show 2 < 3 by decide) ?_
      refine sK_i (pc' := 24) rfl ?_
      refine x_istore (pc' := 26) (ls' := [_, _, _, _, _, _]) rfl rfl rfl rfl ?_
      refine x_aload_n (pc' := 27) rfl rfl rfl rfl rfl ?_
      refine x_gR (pc' := 30) (r := (some 6)) rfl rfl rfl (kR_776_0 hc) ?_
      refine x_iconst (pc' := 31) rfl rfl ?_
      refine x_iload_n (pc' := 32) rfl rfl rfl ?_
      refine x_imul (pc' := 33) (z := (io (3 * m))) rfl rfl (io_mul 3 m) ?_
      refine x_iload_n (pc' := 34) rfl rfl rfl ?_
      refine x_iadd (pc' := 35) (z := (io ((3 * m) + 2))) rfl rfl (io_add (3 * m) 2) ?_
      refine x_iald (pc' := 36) (N := 18) (x := (mA M 6 ((3 * m) + 2))) rfl rfl rfl (kN_21_6 hc) (io_in (p := ((3 * m) + 2)) (N := 18) (show ((3 * m) + 2) < 18 by omega) (by decide)) (Eq.trans (congrArg (sA t 21 6) (nn_io (p := ((3 * m) + 2)) (Nat.lt_trans (show ((3 * m) + 2) < 18 by omega) (by decide)))) (gA hM rfl)) ?_
      refine x_iload (pc' := 38) rfl rfl rfl ?_
      refine x_if (a' := 46) (pc' := 41) (z := true) rfl rfl rfl (by decide) (fun _ => ?_) (fun h => by cases h)
      refine x_iload (pc' := 48) rfl rfl rfl ?_
      refine x_ineg (pc' := 49) rfl rfl rfl ?_
      refine x_iadd (pc' := 50) (z := ((mA M 6 ((3 * m) + 2)) + (-(cdF M n m 2 false)))) rfl rfl rfl ?_
      refine x_reti rfl rfl ?_
      refine sK_i (pc' := 32) rfl ?_
      refine x_cv (ls0 := [_, _, _, _, sJk, sJk, sJk]) (rest := []) rfl rfl rfl rfl rfl ?_
      refine r180 (p := ((mA M 6 ((3 * m) + 0)) + (-(cdF M n m 0 false)))) (u := ((mA M 6 ((3 * m) + 1)) + (cdF M n m 1 true))) (v := ((mA M 6 ((3 * m) + 2)) + (-(cdF M n m 2 false)))) hM hc (Fr.ri (Fr.refl _) hR) ?_
      refine sK_i (pc' := 35) rfl ?_
      refine x_istore (pc' := 37) (ls' := [_, _, _, _, _]) rfl rfl rfl rfl ?_
      refine x_iload (pc' := 39) rfl rfl rfl ?_
      refine x_iload_n (pc' := 40) rfl rfl rfl ?_
      have J26 : X 184 49 [.inr (.inr (12, (some 0))), .inl (io m), .inl (mxc (mxc 0 (mgF M n ((mA M 6 ((3 * m) + 0)) + (-(cdF M n m 0 false))) ((mA M 6 ((3 * m) + 1)) + (-(cdF M n m 1 false))) ((mA M 6 ((3 * m) + 2)) + (-(cdF M n m 2 false))))) (mgF M n ((mA M 6 ((3 * m) + 0)) + (cdF M n m 0 true)) ((mA M 6 ((3 * m) + 1)) + (-(cdF M n m 1 false))) ((mA M 6 ((3 * m) + 2)) + (-(cdF M n m 2 false))))), .inl 2, .inl (mgF M n ((mA M 6 ((3 * m) + 0)) + (-(cdF M n m 0 false))) ((mA M 6 ((3 * m) + 1)) + (cdF M n m 1 true)) ((mA M 6 ((3 * m) + 2)) + (-(cdF M n m 2 false))))] [.inl (mxc (mxc (mxc 0 (mgF M n ((mA M 6 ((3 * m) + 0)) + (-(cdF M n m 0 false))) ((mA M 6 ((3 * m) + 1)) + (-(cdF M n m 1 false))) ((mA M 6 ((3 * m) + 2)) + (-(cdF M n m 2 false))))) (mgF M n ((mA M 6 ((3 * m) + 0)) + (cdF M n m 0 true)) ((mA M 6 ((3 * m) + 1)) + (-(cdF M n m 1 false))) ((mA M 6 ((3 * m) + 2)) + (-(cdF M n m 2 false))))) (mgF M n ((mA M 6 ((3 * m) + 0)) + (-(cdF M n m 0 false))) ((mA M 6 ((3 * m) + 1)) + (cdF M n m 1 true)) ((mA M 6 ((3 * m) + 2)) + (-(cdF M n m 2 false)))))] t Q := by
        refine x_istore_n (pc' := 50) (ls' := [_, _, _, _, _]) rfl rfl rfl rfl ?_
        refine x_iinc (pc' := 53) (y := 3) (ls' := [_, _, _, _, _]) rfl rfl rfl rfl rfl ?_
        refine x_goto (pc' := 4) rfl rfl ?_
        refine x_iload_n (pc' := 5) rfl rfl rfl ?_
        refine x_bipush (pc' := 7) rfl rfl ?_
        refine x_icmp (a' := 56) (pc' := 10) (z := false) rfl rfl rfl (by decide) (fun h => by cases h) (fun _ => ?_)
        refine x_aload_n (pc' := 11) rfl rfl rfl rfl rfl ?_
        refine x_aload_n (pc' := 12) rfl rfl rfl rfl rfl ?_
        refine x_iload_n (pc' := 13) rfl rfl rfl ?_
        refine x_iconst (pc' := 14) rfl rfl ?_
        refine x_iload_n (pc' := 15) rfl rfl rfl ?_
        refine x_cv (ls0 := [_, _, _, _, sJk, sJk]) (rest := [_]) rfl rfl rfl rfl rfl ?_
        refine x_iload_n (pc' := 1) rfl rfl rfl ?_
        refine x_iload_n (pc' := 2) rfl rfl rfl ?_
        refine x_ishr (pc' := 3) (z := 3) rfl rfl (by decide) ?_
        refine x_iconst (pc' := 4) rfl rfl ?_
        refine x_iand (pc' := 5) (z := 1) rfl rfl (by decide) ?_
        refine x_iconst (pc' := 6) rfl rfl ?_
        refine x_icmp (a' := 13) (pc' := 9) (z := false) rfl rfl rfl (by decide) (fun h => by cases h) (fun _ => ?_)
        refine x_iconst (pc' := 10) rfl rfl ?_
        refine x_goto (pc' := 14) rfl rfl ?_
        refine x_istore (pc' := 16) (ls' := [_, _, _, _, _, _]) rfl rfl rfl rfl ?_
        refine x_aload_n (pc' := 17) rfl rfl rfl rfl rfl ?_
        refine x_iload_n (pc' := 18) rfl rfl rfl ?_
        refine x_iload_n (pc' := 19) rfl rfl rfl ?_
        refine x_iload (pc' := 21) rfl rfl rfl ?_
        refine x_cv (ls0 := [_, _, _, _, sJk, sJk, sJk, sJk, sJk]) (rest := []) rfl rfl rfl rfl rfl ?_
        refine r183 (m := m) (c := 0) (s := true) hM hc (Fr.ri (Fr.refl _) hR) hm (show 0 < 3 by decide) ?_
        refine sK_i (pc' := 24) rfl ?_
        refine x_istore (pc' := 26) (ls' := [_, _, _, _, _, _]) rfl rfl rfl rfl ?_
        refine x_aload_n (pc' := 27) rfl rfl rfl rfl rfl ?_
        refine x_gR (pc' := 30) (r := (some 6)) rfl rfl rfl (kR_776_0 hc) ?_
        refine x_iconst (pc' := 31) rfl rfl ?_
        refine x_iload_n (pc' := 32) rfl rfl rfl ?_
        refine x_imul (pc' := 33) (z := (io (3 * m))) rfl rfl (io_mul 3 m) ?_
        refine x_iload_n (pc' := 34) rfl rfl rfl ?_
        refine x_iadd (pc' := 35) (z := (io ((3 * m) + 0))) rfl rfl (io_add (3 * m) 0) ?_
        refine x_iald (pc' := 36) (N := 18) (x := (mA M 6 ((3 * m) + 0))) rfl rfl rfl (kN_21_6 hc) (io_in (p := ((3 * m) + 0)) (N := 18) (show ((3 * m) + 0) < 18 by omega) (by decide)) (Eq.trans (congrArg (sA t 21 6) (nn_io (p := ((3 * m) + 0)) (Nat.lt_trans (show ((3 * m) + 0) < 18 by omega) (by decide)))) (gA hM rfl)) ?_
        refine x_iload (pc' := 38) rfl rfl rfl ?_
        refine x_if (a' := 46) (pc' := 41) (z := false) rfl rfl rfl (by decide) (fun h => by cases h) (fun _ => ?_)
        refine x_iload (pc' := 43) rfl rfl rfl ?_
        refine x_goto (pc' := 49) rfl rfl ?_
        refine x_iadd (pc' := 50) (z := ((mA M 6 ((3 * m) + 0)) + (cdF M n m 0 true))) rfl rfl rfl ?_
        refine x_reti rfl rfl ?_
        refine sK_i (pc' := 18) rfl ?_
        refine x_aload_n (pc' := 19) rfl rfl rfl rfl rfl ?_
        refine x_iload_n (pc' := 20) rfl rfl rfl ?_
        refine x_iconst (pc' := 21) rfl rfl ?_
        refine x_iload_n (pc' := 22) rfl rfl rfl ?_
        refine x_cv (ls0 := [_, _, _, _, sJk, sJk]) (rest := [_, _]) rfl rfl rfl rfl rfl ?_
        refine x_iload_n (pc' := 1) rfl rfl rfl ?_
        refine x_iload_n (pc' := 2) rfl rfl rfl ?_
        refine x_ishr (pc' := 3) (z := 1) rfl rfl (by decide) ?_
        refine x_iconst (pc' := 4) rfl rfl ?_
        refine x_iand (pc' := 5) (z := 1) rfl rfl (by decide) ?_
        refine x_iconst (pc' := 6) rfl rfl ?_
        refine x_icmp (a' := 13) (pc' := 9) (z := false) rfl rfl rfl (by decide) (fun h => by cases h) (fun _ => ?_)
        refine x_iconst (pc' := 10) rfl rfl ?_
        refine x_goto (pc' := 14) rfl rfl ?_
        refine x_istore (pc' := 16) (ls' := [_, _, _, _, _, _]) rfl rfl rfl rfl ?_
        refine x_aload_n (pc' := 17) rfl rfl rfl rfl rfl ?_
        refine x_iload_n (pc' := 18) rfl rfl rfl ?_
        refine x_iload_n (pc' := 19) rfl rfl rfl ?_
        refine x_iload (pc' := 21) rfl rfl rfl ?_
        refine x_cv (ls0 := [_, _, _, _, sJk, sJk, sJk, sJk, sJk]) (rest := []) rfl rfl rfl rfl rfl ?_
        refine r183 (m := m) (c := 1) (s := true) hM hc (Fr.ri (Fr.refl _) hR) hm (show 1 < 3 by decide) ?_
        refine sK_i (pc' := 24) rfl ?_
        refine x_istore (pc' := 26) (ls' := [_, _, _, _, _, _]) rfl rfl rfl rfl ?_
        refine x_aload_n (pc' := 27) rfl rfl rfl rfl rfl ?_
        refine x_gR (pc' := 30) (r := (some 6)) rfl rfl rfl (kR_776_0 hc) ?_
        refine x_iconst (pc' := 31) rfl rfl ?_
        refine x_iload_n (pc' := 32) rfl rfl rfl ?_
        refine x_imul (pc' := 33) (z := (io (3 * m))) rfl rfl (io_mul 3 m) ?_
        refine x_iload_n (pc' := 34) rfl rfl rfl ?_
        refine x_iadd (pc' := 35) (z := (io ((3 * m) + 1))) rfl rfl (io_add (3 * m) 1) ?_
        refine x_iald (pc' := 36) (N := 18) (x := (mA M 6 ((3 * m) + 1))) rfl rfl rfl (kN_21_6 hc) (io_in (p := ((3 * m) + 1)) (N := 18) (show ((3 * m) + 1) < 18 by omega) (by decide)) (Eq.trans (congrArg (sA t 21 6) (nn_io (p := ((3 * m) + 1)) (Nat.lt_trans (show ((3 * m) + 1) < 18 by omega) (by decide)))) (gA hM rfl)) ?_
        refine x_iload (pc' := 38) rfl rfl rfl ?_
        refine x_if (a' := 46) (pc' := 41) (z := false) rfl rfl rfl (by decide) (fun h => by cases h) (fun _ => ?_)
        refine x_iload (pc' := 43) rfl rfl rfl ?_
        refine x_goto (pc' := 49) rfl rfl ?_
        refine x_iadd (pc' := 50) (z := ((mA M 6 ((3 * m) + 1)) + (cdF M n m 1 true))) rfl rfl rfl ?_
        refine x_reti rfl rfl ?_
        refine sK_i (pc' := 25) rfl ?_
        refine x_aload_n (pc' := 26) rfl rfl rfl rfl rfl ?_
        refine x_iload_n (pc' := 27) rfl rfl rfl ?_
        refine x_iconst (pc' := 28) rfl rfl ?_
        refine x_iload_n (pc' := 29) rfl rfl rfl ?_
        refine x_cv (ls0 := [_, _, _, _, sJk, sJk]) (rest := [_, _, _]) rfl rfl rfl rfl rfl ?_
        refine x_iload_n (pc' := 1) rfl rfl rfl ?_
        refine x_iload_n (pc' := 2) rfl rfl rfl ?_
        refine x_ishr (pc' := 3) (z := 0) rfl rfl (by decide) ?_
        refine x_iconst (pc' := 4) rfl rfl ?_
        refine x_iand (pc' := 5) (z := 0) rfl rfl (by decide) ?_
        refine x_iconst (pc' := 6) rfl rfl ?_
        refine x_icmp (a' := 13) (pc' := 9) (z := true) rfl rfl rfl (by decide) (fun _ => ?_) (fun h => by cases h)
        refine x_iconst (pc' := 14) rfl rfl ?_
        refine x_istore (pc' := 16) (ls' := [_, _, _, _, _, _]) rfl rfl rfl rfl ?_
        refine x_aload_n (pc' := 17) rfl rfl rfl rfl rfl ?_
        refine x_iload_n (pc' := 18) rfl rfl rfl ?_
        refine x_iload_n (pc' := 19) rfl rfl rfl ?_
        refine x_iload (pc' := 21) rfl rfl rfl ?_
        refine x_cv (ls0 := [_, _, _, _, sJk, sJk, sJk, sJk, sJk]) (rest := []) rfl rfl rfl rfl rfl ?_
        refine r183 (m := m) (c := 2) (s := false) hM hc (Fr.ri (Fr.refl _) hR) hm (show 2 < 3 by decide) ?_
        refine sK_i (pc' := 24) rfl ?_
        refine x_istore (pc' := 26) (ls' := [_, _, _, _, _, _]) rfl rfl rfl rfl ?_
        refine x_aload_n (pc' := 27) rfl rfl rfl rfl rfl ?_
        refine x_gR (pc' := 30) (r := (some 6)) rfl rfl rfl (kR_776_0 hc) ?_
        refine x_iconst (pc' := 31) rfl rfl ?_
        refine x_iload_n (pc' := 32) rfl rfl rfl ?_
        refine x_imul (pc' := 33) (z := (io (3 * m))) rfl rfl (io_mul 3 m) ?_
        refine x_iload_n (pc' := 34) rfl rfl rfl ?_
        refine x_iadd (pc' := 35) (z := (io ((3 * m) + 2))) rfl rfl (io_add (3 * m) 2) ?_
        refine x_iald (pc' := 36) (N := 18) (x := (mA M 6 ((3 * m) + 2))) rfl rfl rfl (kN_21_6 hc) (io_in (p := ((3 * m) + 2)) (N := 18) (show ((3 * m) + 2) < 18 by omega) (by decide)) (Eq.trans (congrArg (sA t 21 6) (nn_io (p := ((3 * m) + 2)) (Nat.lt_trans (show ((3 * m) + 2) < 18 by omega) (by decide)))) (gA hM rfl)) ?_
        refine x_iload (pc' := 38) rfl rfl rfl ?_
        refine x_if (a' := 46) (pc' := 41) (z := true) rfl rfl rfl (by decide) (fun _ => ?_) (fun h => by cases h)
        refine x_iload (pc' := 48) rfl rfl rfl ?_
        refine x_ineg (pc' := 49) rfl rfl rfl ?_
        refine x_iadd (pc' := 50) (z := ((mA M 6 ((3 * m) + 2)) + (-(cdF M n m 2 false)))) rfl rfl rfl ?_
        refine x_reti rfl rfl ?_
        refine sK_i (pc' := 32) rfl ?_
        refine x_cv (ls0 := [_, _, _, _, sJk, sJk, sJk]) (rest := []) rfl rfl rfl rfl rfl ?_
        refine r180 (p := ((mA M 6 ((3 * m) + 0)) + (cdF M n m 0 true))) (u := ((mA M 6 ((3 * m) + 1)) + (cdF M n m 1 true))) (v := ((mA M 6 ((3 * m) + 2)) + (-(cdF M n m 2 false)))) hM hc (Fr.ri (Fr.refl _) hR) ?_
        refine sK_i (pc' := 35) rfl ?_
        refine x_istore (pc' := 37) (ls' := [_, _, _, _, _]) rfl rfl rfl rfl ?_
        refine x_iload (pc' := 39) rfl rfl rfl ?_
        refine x_iload_n (pc' := 40) rfl rfl rfl ?_
        have J35 : X 184 49 [.inr (.inr (12, (some 0))), .inl (io m), .inl (mxc (mxc (mxc 0 (mgF M n ((mA M 6 ((3 * m) + 0)) + (-(cdF M n m 0 false))) ((mA M 6 ((3 * m) + 1)) + (-(cdF M n m 1 false))) ((mA M 6 ((3 * m) + 2)) + (-(cdF M n m 2 false))))) (mgF M n ((mA M 6 ((3 * m) + 0)) + (cdF M n m 0 true)) ((mA M 6 ((3 * m) + 1)) + (-(cdF M n m 1 false))) ((mA M 6 ((3 * m) + 2)) + (-(cdF M n m 2 false))))) (mgF M n ((mA M 6 ((3 * m) + 0)) + (-(cdF M n m 0 false))) ((mA M 6 ((3 * m) + 1)) + (cdF M n m 1 true)) ((mA M 6 ((3 * m) + 2)) + (-(cdF M n m 2 false))))), .inl 3, .inl (mgF M n ((mA M 6 ((3 * m) + 0)) + (cdF M n m 0 true)) ((mA M 6 ((3 * m) + 1)) + (cdF M n m 1 true)) ((mA M 6 ((3 * m) + 2)) + (-(cdF M n m 2 false))))] [.inl (mxc (mxc (mxc (mxc 0 (mgF M n ((mA M 6 ((3 * m) + 0)) + (-(cdF M n m 0 false))) ((mA M 6 ((3 * m) + 1)) + (-(cdF M n m 1 false))) ((mA M 6 ((3 * m) + 2)) + (-(cdF M n m 2 false))))) (mgF M n ((mA M 6 ((3 * m) + 0)) + (cdF M n m 0 true)) ((mA M 6 ((3 * m) + 1)) + (-(cdF M n m 1 false))) ((mA M 6 ((3 * m) + 2)) + (-(cdF M n m 2 false))))) (mgF M n ((mA M 6 ((3 * m) + 0)) + (-(cdF M n m 0 false))) ((mA M 6 ((3 * m) + 1)) + (cdF M n m 1 true)) ((mA M 6 ((3 * m) + 2)) + (-(cdF M n m 2 false))))) (mgF M n ((mA M 6 ((3 * m) + 0)) + (cdF M n m 0 true)) ((mA M 6 ((3 * m) + 1)) + (cdF M n m 1 true)) ((mA M 6 ((3 * m) + 2)) + (-(cdF M n m 2 false)))))] t Q := by
          refine x_istore_n (pc' := 50) (ls' := [_, _, _, _, _]) rfl rfl rfl rfl ?_
          refine x_iinc (pc' := 53) (y := 4) (ls' := [_, _, _, _, _]) rfl rfl rfl rfl rfl ?_
          refine x_goto (pc' := 4) rfl rfl ?_
          refine x_iload_n (pc' := 5) rfl rfl rfl ?_
          refine x_bipush (pc' := 7) rfl rfl ?_
          refine x_icmp (a' := 56) (pc' := 10) (z := false) rfl rfl rfl (by decide) (fun h => by cases h) (fun _ => ?_)
          refine x_aload_n (pc' := 11) rfl rfl rfl rfl rfl ?_
          refine x_aload_n (pc' := 12) rfl rfl rfl rfl rfl ?_
          refine x_iload_n (pc' := 13) rfl rfl rfl ?_
          refine x_iconst (pc' := 14) rfl rfl ?_
          refine x_iload_n (pc' := 15) rfl rfl rfl ?_
          refine x_cv (ls0 := [_, _, _, _, sJk, sJk]) (rest := [_]) rfl rfl rfl rfl rfl ?_
          refine x_iload_n (pc' := 1) rfl rfl rfl ?_
          refine x_iload_n (pc' := 2) rfl rfl rfl ?_
          refine x_ishr (pc' := 3) (z := 4) rfl rfl (by decide) ?_
          refine x_iconst (pc' := 4) rfl rfl ?_
          refine x_iand (pc' := 5) (z := 0) rfl rfl (by decide) ?_
          refine x_iconst (pc' := 6) rfl rfl ?_
          refine x_icmp (a' := 13) (pc' := 9) (z := true) rfl rfl rfl (by decide) (fun _ => ?_) (fun h => by cases h)
          refine x_iconst (pc' := 14) rfl rfl ?_
          refine x_istore (pc' := 16) (ls' := [_, _, _, _, _, _]) rfl rfl rfl rfl ?_
          refine x_aload_n (pc' := 17) rfl rfl rfl rfl rfl ?_
          refine x_iload_n (pc' := 18) rfl rfl rfl ?_
          refine x_iload_n (pc' := 19) rfl rfl rfl ?_
          refine x_iload (pc' := 21) rfl rfl rfl ?_
          refine x_cv (ls0 := [_, _, _, _, sJk, sJk, sJk, sJk, sJk]) (rest := []) rfl rfl rfl rfl rfl ?_
          refine r183 (m := m) (c := 0) (s := false) hM hc (Fr.ri (Fr.refl _) hR) hm (show 0 < 3 by decide) ?_
          refine sK_i (pc' := 24) rfl ?_
          refine x_istore (pc' := 26) (ls' := [_, _, _, _, _, _]) rfl rfl rfl rfl ?_
          refine x_aload_n (pc' := 27) rfl rfl rfl rfl rfl ?_
          refine x_gR (pc' := 30) (r := (some 6)) rfl rfl rfl (kR_776_0 hc) ?_
          refine x_iconst (pc' := 31) rfl rfl ?_
          refine x_iload_n (pc' := 32) rfl rfl rfl ?_
          refine x_imul (pc' := 33) (z := (io (3 * m))) rfl rfl (io_mul 3 m) ?_
          refine x_iload_n (pc' := 34) rfl rfl rfl ?_
          refine x_iadd (pc' := 35) (z := (io ((3 * m) + 0))) rfl rfl (io_add (3 * m) 0) ?_
          refine x_iald (pc' := 36) (N := 18) (x := (mA M 6 ((3 * m) + 0))) rfl rfl rfl (kN_21_6 hc) (io_in (p := ((3 * m) + 0)) (N := 18) (show ((3 * m) + 0) < 18 by omega) (by decide)) (Eq.trans (congrArg (sA t 21 6) (nn_io (p := ((3 * m) + 0)) (Nat.lt_trans (show ((3 * m) + 0) < 18 by omega) (by decide)))) (gA hM rfl)) ?_
          refine x_iload (pc' := 38) rfl rfl rfl ?_
          refine x_if (a' := 46) (pc' := 41) (z := true) rfl rfl rfl (by decide) (fun _ => ?_) (fun h => by cases h)
          refine x_iload (pc' := 48) rfl rfl rfl ?_
          refine x_ineg (pc' := 49) rfl rfl rfl ?_
          refine x_iadd (pc' := 50) (z := ((mA M 6 ((3 * m) + 0)) + (-(cdF M n m 0 false)))) rfl rfl rfl ?_
          refine x_reti rfl rfl ?_
          refine sK_i (pc' := 18) rfl ?_
          refine x_aload_n (pc' := 19) rfl rfl rfl rfl rfl ?_
          refine x_iload_n (pc' := 20) rfl rfl rfl ?_
          refine x_iconst (pc' := 21) rfl rfl ?_
          refine x_iload_n (pc' := 22) rfl rfl rfl ?_
          refine x_cv (ls0 := [_, _, _, _, sJk, sJk]) (rest := [_, _]) rfl rfl rfl rfl rfl ?_
          refine x_iload_n (pc' := 1) rfl rfl rfl ?_
          refine x_iload_n (pc' := 2) rfl rfl rfl ?_
          refine x_ishr (pc' := 3) (z := 2) rfl rfl (by decide) ?_
          refine x_iconst (pc' := 4) rfl rfl ?_
          refine x_iand (pc' := 5) (z := 0) rfl rfl (by decide) ?_
          refine x_iconst (pc' := 6) rfl rfl ?_
          refine x_icmp (a' := 13) (pc' := 9) (z := true) rfl rfl rfl (by decide) (fun _ => ?_) (fun h => by cases h)
          refine x_iconst (pc' := 14) rfl rfl ?_
          refine x_istore (pc' := 16) (ls' := [_, _, _, _, _, _]) rfl rfl rfl rfl ?_
          refine x_aload_n (pc' := 17) rfl rfl rfl rfl rfl ?_
          refine x_iload_n (pc' := 18) rfl rfl rfl ?_
          refine x_iload_n (pc' := 19) rfl rfl rfl ?_
          refine x_iload (pc' := 21) rfl rfl rfl ?_
          refine x_cv (ls0 := [_, _, _, _, sJk, sJk, sJk, sJk, sJk]) (rest := []) rfl rfl rfl rfl rfl ?_
          refine r183 (m := m) (c := 1) (s := false) hM hc (Fr.ri (Fr.refl _) hR) hm (show 1 < 3 by decide) ?_
          refine sK_i (pc' := 24) rfl ?_
          refine x_istore (pc' := 26) (ls' := [_, _, _, _, _, _]) rfl rfl rfl rfl ?_
          refine x_aload_n (pc' := 27) rfl rfl rfl rfl rfl ?_
          refine x_gR (pc' := 30) (r := (some 6)) rfl rfl rfl (kR_776_0 hc) ?_
          refine x_iconst (pc' := 31) rfl rfl ?_
          refine x_iload_n (pc' := 32) rfl rfl rfl ?_
          refine x_imul (pc' := 33) (z := (io (3 * m))) rfl rfl (io_mul 3 m) ?_
          refine x_iload_n (pc' := 34) rfl rfl rfl ?_
          refine x_iadd (pc' := 35) (z := (io ((3 * m) + 1))) rfl rfl (io_add (3 * m) 1) ?_
          refine x_iald (pc' := 36) (N := 18) (x := (mA M 6 ((3 * m) + 1))) rfl rfl rfl (kN_21_6 hc) (io_in (p := ((3 * m) + 1)) (N := 18) (show ((3 * m) + 1) < 18 by omega) (by decide)) (Eq.trans (congrArg (sA t 21 6) (nn_io (p := ((3 * m) + 1)) (Nat.lt_trans (show ((3 * m) + 1) < 18 by omega) (by decide)))) (gA hM rfl)) ?_
          refine x_iload (pc' := 38) rfl rfl rfl ?_
          refine x_if (a' := 46) (pc' := 41) (z := true) rfl rfl rfl (by decide) (fun _ => ?_) (fun h => by cases h)
          refine x_iload (pc' := 48) rfl rfl rfl ?_
          refine x_ineg (pc' := 49) rfl rfl rfl ?_
          refine x_iadd (pc' := 50) (z := ((mA M 6 ((3 * m) + 1)) + (-(cdF M n m 1 false)))) rfl rfl rfl ?_
          refine x_reti rfl rfl ?_
          refine sK_i (pc' := 25) rfl ?_
          refine x_aload_n (pc' := 26) rfl rfl rfl rfl rfl ?_
          refine x_iload_n (pc' := 27) rfl rfl rfl ?_
          refine x_iconst (pc' := 28) rfl rfl ?_
          refine x_iload_n (pc' := 29) rfl rfl rfl ?_
          refine x_cv (ls0 := [_, _, _, _, sJk, sJk]) (rest := [_, _, _]) rfl rfl rfl rfl rfl ?_
          refine x_iload_n (pc' := 1) rfl rfl rfl ?_
          refine x_iload_n (pc' := 2) rfl rfl rfl ?_
          refine x_ishr (pc' := 3) (z := 1) rfl rfl (by decide) ?_
          refine x_iconst (pc' := 4) rfl rfl ?_
          refine x_iand (pc' := 5) (z := 1) rfl rfl (by decide) ?_
          refine x_iconst (pc' := 6) rfl rfl ?_
          refine x_icmp (a' := 13) (pc' := 9) (z := false) rfl rfl rfl (by decide) (fun h => by cases h) (fun _ => ?_)
          refine x_iconst (pc' := 10) rfl rfl ?_
          refine x_goto (pc' := 14) rfl rfl ?_
          refine x_istore (pc' := 16) (ls' := [_, _, _, _, _, _]) rfl rfl rfl rfl ?_
          refine x_aload_n (pc' := 17) rfl rfl rfl rfl rfl ?_
          refine x_iload_n (pc' := 18) rfl rfl rfl ?_
          refine x_iload_n (pc' := 19) rfl rfl rfl ?_
          refine x_iload (pc' := 21) rfl rfl rfl ?_
          refine x_cv (ls0 := [_, _, _, _, sJk, sJk, sJk, sJk, sJk]) (rest := []) rfl rfl rfl rfl rfl ?_
          refine r183 (m := m) (c := 2) (s := true) hM hc (Fr.ri (Fr.refl _) hR) hm (show 2 < 3 by decide) ?_
          refine sK_i (pc' := 24) rfl ?_
          refine x_istore (pc' := 26) (ls' := [_, _, _, _, _, _]) rfl rfl rfl rfl ?_
          refine x_aload_n (pc' := 27) rfl rfl rfl rfl rfl ?_
          refine x_gR (pc' := 30) (r := (some 6)) rfl rfl rfl (kR_776_0 hc) ?_
          refine x_iconst (pc' := 31) rfl rfl ?_
          refine x_iload_n (pc' := 32) rfl rfl rfl ?_
          refine x_imul (pc' := 33) (z := (io (3 * m))) rfl rfl (io_mul 3 m) ?_
          refine x_iload_n (pc' := 34) rfl rfl rfl ?_
          refine x_iadd (pc' := 35) (z := (io ((3 * m) + 2))) rfl rfl (io_add (3 * m) 2) ?_
          refine x_iald (pc' := 36) (N := 18) (x := (mA M 6 ((3 * m) + 2))) rfl rfl rfl (kN_21_6 hc) (io_in (p := ((3 * m) + 2)) (N := 18) (show ((3 * m) + 2) < 18 by omega) (by decide)) (Eq.trans (congrArg (sA t 21 6) (nn_io (p := ((3 * m) + 2)) (Nat.lt_trans (show ((3 * m) + 2) < 18 by omega) (by decide)))) (gA hM rfl)) ?_
          refine x_iload (pc' := 38) rfl rfl rfl ?_
          refine x_if (a' := 46) (pc' := 41) (z := false) rfl rfl rfl (by decide) (fun h => by cases h) (fun _ => ?_)
          refine x_iload (pc' := 43) rfl rfl rfl ?_
          refine x_goto (pc' := 49) rfl rfl ?_
          refine x_iadd (pc' := 50) (z := ((mA M 6 ((3 * m) + 2)) + (cdF M n m 2 true))) rfl rfl rfl ?_
          refine x_reti rfl rfl ?_
          refine sK_i (pc' := 32) rfl ?_
          refine x_cv (ls0 := [_, _, _, _, sJk, sJk, sJk]) (rest := []) rfl rfl rfl rfl rfl ?_
          refine r180 (p := ((mA M 6 ((3 * m) + 0)) + (-(cdF M n m 0 false)))) (u := ((mA M 6 ((3 * m) + 1)) + (-(cdF M n m 1 false)))) (v := ((mA M 6 ((3 * m) + 2)) + (cdF M n m 2 true))) hM hc (Fr.ri (Fr.refl _) hR) ?_
          refine sK_i (pc' := 35) rfl ?_
          refine x_istore (pc' := 37) (ls' := [_, _, _, _, _]) rfl rfl rfl rfl ?_
          refine x_iload (pc' := 39) rfl rfl rfl ?_
          refine x_iload_n (pc' := 40) rfl rfl rfl ?_
          have J44 : X 184 49 [.inr (.inr (12, (some 0))), .inl (io m), .inl (mxc (mxc (mxc (mxc 0 (mgF M n ((mA M 6 ((3 * m) + 0)) + (-(cdF M n m 0 false))) ((mA M 6 ((3 * m) + 1)) + (-(cdF M n m 1 false))) ((mA M 6 ((3 * m) + 2)) + (-(cdF M n m 2 false))))) (mgF M n ((mA M 6 ((3 * m) + 0)) + (cdF M n m 0 true)) ((mA M 6 ((3 * m) + 1)) + (-(cdF M n m 1 false))) ((mA M 6 ((3 * m) + 2)) + (-(cdF M n m 2 false))))) (mgF M n ((mA M 6 ((3 * m) + 0)) + (-(cdF M n m 0 false))) ((mA M 6 ((3 * m) + 1)) + (cdF M n m 1 true)) ((mA M 6 ((3 * m) + 2)) + (-(cdF M n m 2 false))))) (mgF M n ((mA M 6 ((3 * m) + 0)) + (cdF M n m 0 true)) ((mA M 6 ((3 * m) + 1)) + (cdF M n m 1 true)) ((mA M 6 ((3 * m) + 2)) + (-(cdF M n m 2 false))))), .inl 4, .inl (mgF M n ((mA M 6 ((3 * m) + 0)) + (-(cdF M n m 0 false))) ((mA M 6 ((3 * m) + 1)) + (-(cdF M n m 1 false))) ((mA M 6 ((3 * m) + 2)) + (cdF M n m 2 true)))] [.inl (mxc (mxc (mxc (mxc (mxc 0 (mgF M n ((mA M 6 ((3 * m) + 0)) + (-(cdF M n m 0 false))) ((mA M 6 ((3 * m) + 1)) + (-(cdF M n m 1 false))) ((mA M 6 ((3 * m) + 2)) + (-(cdF M n m 2 false))))) (mgF M n ((mA M 6 ((3 * m) + 0)) + (cdF M n m 0 true)) ((mA M 6 ((3 * m) + 1)) + (-(cdF M n m 1 false))) ((mA M 6 ((3 * m) + 2)) + (-(cdF M n m 2 false))))) (mgF M n ((mA M 6 ((3 * m) + 0)) + (-(cdF M n m 0 false))) ((mA M 6 ((3 * m) + 1)) + (cdF M n m 1 true)) ((mA M 6 ((3 * m) + 2)) + (-(cdF M n m 2 false))))) (mgF M n ((mA M 6 ((3 * m) + 0)) + (cdF M n m 0 true)) ((mA M 6 ((3 * m) + 1)) + (cdF M n m 1 true)) ((mA M 6 ((3 * m) + 2)) + (-(cdF M n m 2 false))))) (mgF M n ((mA M 6 ((3 * m) + 0)) + (-(cdF M n m 0 false))) ((mA M 6 ((3 * m) + 1)) + (-(cdF M n m 1 false))) ((mA M 6 ((3 * m) + 2)) + (cdF M n m 2 true))))] t Q := by
            refine x_istore_n (pc' := 50) (ls' := [_, _, _, _, _]) rfl rfl rfl rfl ?_
            refine x_iinc (pc' := 53) (y := 5) (ls' := [_, _, _, _, _]) rfl rfl rfl rfl rfl ?_
            refine x_goto (pc' := 4) rfl rfl ?_
            refine x_iload_n (pc' := 5) rfl rfl rfl ?_
            refine x_bipush (pc' := 7) rfl rfl ?_
            refine x_icmp (a' := 56) (pc' := 10) (z := false) rfl rfl rfl (by decide) (fun h => by cases h) (fun _ => ?_)
            refine x_aload_n (pc' := 11) rfl rfl rfl rfl rfl ?_
            refine x_aload_n (pc' := 12) rfl rfl rfl rfl rfl ?_
            refine x_iload_n (pc' := 13) rfl rfl rfl ?_
            refine x_iconst (pc' := 14) rfl rfl ?_
            refine x_iload_n (pc' := 15) rfl rfl rfl ?_
            refine x_cv (ls0 := [_, _, _, _, sJk, sJk]) (rest := [_]) rfl rfl rfl rfl rfl ?_
            refine x_iload_n (pc' := 1) rfl rfl rfl ?_
            refine x_iload_n (pc' := 2) rfl rfl rfl ?_
            refine x_ishr (pc' := 3) (z := 5) rfl rfl (by decide) ?_
            refine x_iconst (pc' := 4) rfl rfl ?_
            refine x_iand (pc' := 5) (z := 1) rfl rfl (by decide) ?_
            refine x_iconst (pc' := 6) rfl rfl ?_
            refine x_icmp (a' := 13) (pc' := 9) (z := false) rfl rfl rfl (by decide) (fun h => by cases h) (fun _ => ?_)
            refine x_iconst (pc' := 10) rfl rfl ?_
            refine x_goto (pc' := 14) rfl rfl ?_
            refine x_istore (pc' := 16) (ls' := [_, _, _, _, _, _]) rfl rfl rfl rfl ?_
            refine x_aload_n (pc' := 17) rfl rfl rfl rfl rfl ?_
            refine x_iload_n (pc' := 18) rfl rfl rfl ?_
            refine x_iload_n (pc' := 19) rfl rfl rfl ?_
            refine x_iload (pc' := 21) rfl rfl rfl ?_
            refine x_cv (ls0 := [_, _, _, _, sJk, sJk, sJk, sJk, sJk]) (rest := []) rfl rfl rfl rfl rfl ?_
            refine r183 (m := m) (c := 0) (s := true) hM hc (Fr.ri (Fr.refl _) hR) hm (show 0 < 3 by decide) ?_
            refine sK_i (pc' := 24) rfl ?_
            refine x_istore (pc' := 26) (ls' := [_, _, _, _, _, _]) rfl rfl rfl rfl ?_
            refine x_aload_n (pc' := 27) rfl rfl rfl rfl rfl ?_
            refine x_gR (pc' := 30) (r := (some 6)) rfl rfl rfl (kR_776_0 hc) ?_
            refine x_iconst (pc' := 31) rfl rfl ?_
            refine x_iload_n (pc' := 32) rfl rfl rfl ?_
            refine x_imul (pc' := 33) (z := (io (3 * m))) rfl rfl (io_mul 3 m) ?_
            refine x_iload_n (pc' := 34) rfl rfl rfl ?_
            refine x_iadd (pc' := 35) (z := (io ((3 * m) + 0))) rfl rfl (io_add (3 * m) 0) ?_
            refine x_iald (pc' := 36) (N := 18) (x := (mA M 6 ((3 * m) + 0))) rfl rfl rfl (kN_21_6 hc) (io_in (p := ((3 * m) + 0)) (N := 18) (show ((3 * m) + 0) < 18 by omega) (by decide)) (Eq.trans (congrArg (sA t 21 6) (nn_io (p := ((3 * m) + 0)) (Nat.lt_trans (show ((3 * m) + 0) < 18 by omega) (by decide)))) (gA hM rfl)) ?_
            refine x_iload (pc' := 38) rfl rfl rfl ?_
            refine x_if (a' := 46) (pc' := 41) (z := false) rfl rfl rfl (by decide) (fun h => by cases h) (fun _ => ?_)
            refine x_iload (pc' := 43) rfl rfl rfl ?_
            refine x_goto (pc' := 49) rfl rfl ?_
            refine x_iadd (pc' := 50) (z := ((mA M 6 ((3 * m) + 0)) + (cdF M n m 0 true))) rfl rfl rfl ?_
            refine x_reti rfl rfl ?_
            refine sK_i (pc' := 18) rfl ?_
            refine x_aload_n (pc' := 19) rfl rfl rfl rfl rfl ?_
            refine x_iload_n (pc' := 20) rfl rfl rfl ?_
            refine x_iconst (pc' := 21) rfl rfl ?_
            refine x_iload_n (pc' := 22) rfl rfl rfl ?_
            refine x_cv (ls0 := [_, _, _, _, sJk, sJk]) (rest := [_, _]) rfl rfl rfl rfl rfl ?_
            refine x_iload_n (pc' := 1) rfl rfl rfl ?_
            refine x_iload_n (pc' := 2) rfl rfl rfl ?_
            refine x_ishr (pc' := 3) (z := 2) rfl rfl (by decide) ?_
            refine x_iconst (pc' := 4) rfl rfl ?_
            refine x_iand (pc' := 5) (z := 0) rfl rfl (by decide) ?_
            refine x_iconst (pc' := 6) rfl rfl ?_
            refine x_icmp (a' := 13) (pc' := 9) (z := true) rfl rfl rfl (by decide) (fun _ => ?_) (fun h => by cases h)
            refine x_iconst (pc' := 14) rfl rfl ?_
            refine x_istore (pc' := 16) (ls' := [_, _, _, _, _, _]) rfl rfl rfl rfl ?_
            refine x_aload_n (pc' := 17) rfl rfl rfl rfl rfl ?_
            refine x_iload_n (pc' := 18) rfl rfl rfl ?_
            refine x_iload_n (pc' := 19) rfl rfl rfl ?_
            refine x_iload (pc' := 21) rfl rfl rfl ?_
            refine x_cv (ls0 := [_, _, _, _, sJk, sJk, sJk, sJk, sJk]) (rest := []) rfl rfl rfl rfl rfl ?_
            refine r183 (m := m) (c := 1) (s := false) hM hc (Fr.ri (Fr.refl _) hR) hm (show 1 < 3 by decide) ?_
            refine sK_i (pc' := 24) rfl ?_
            refine x_istore (pc' := 26) (ls' := [_, _, _, _, _, _]) rfl rfl rfl rfl ?_
            refine x_aload_n (pc' := 27) rfl rfl rfl rfl rfl ?_
            refine x_gR (pc' := 30) (r := (some 6)) rfl rfl rfl (kR_776_0 hc) ?_
            refine x_iconst (pc' := 31) rfl rfl ?_
            refine x_iload_n (pc' := 32) rfl rfl rfl ?_
            refine x_imul (pc' := 33) (z := (io (3 * m))) rfl rfl (io_mul 3 m) ?_
            refine x_iload_n (pc' := 34) rfl rfl rfl ?_
            refine x_iadd (pc' := 35) (z := (io ((3 * m) + 1))) rfl rfl (io_add (3 * m) 1) ?_
            refine x_iald (pc' := 36) (N := 18) (x := (mA M 6 ((3 * m) + 1))) rfl rfl rfl (kN_21_6 hc) (io_in (p := ((3 * m) + 1)) (N := 18) (show ((3 * m) + 1) < 18 by omega) (by decide)) (Eq.trans (congrArg (sA t 21 6) (nn_io (p := ((3 * m) + 1)) (Nat.lt_trans (show ((3 * m) + 1) < 18 by omega) (by decide)))) (gA hM rfl)) ?_
            refine x_iload (pc' := 38) rfl rfl rfl ?_
            refine x_if (a' := 46) (pc' := 41) (z := true) rfl rfl rfl (by decide) (fun _ => ?_) (fun h => by cases h)
            refine x_iload (pc' := 48) rfl rfl rfl ?_
            refine x_ineg (pc' := 49) rfl rfl rfl ?_
            refine x_iadd (pc' := 50) (z := ((mA M 6 ((3 * m) + 1)) + (-(cdF M n m 1 false)))) rfl rfl rfl ?_
            refine x_reti rfl rfl ?_
            refine sK_i (pc' := 25) rfl ?_
            refine x_aload_n (pc' := 26) rfl rfl rfl rfl rfl ?_
            refine x_iload_n (pc' := 27) rfl rfl rfl ?_
            refine x_iconst (pc' := 28) rfl rfl ?_
            refine x_iload_n (pc' := 29) rfl rfl rfl ?_
            refine x_cv (ls0 := [_, _, _, _, sJk, sJk]) (rest := [_, _, _]) rfl rfl rfl rfl rfl ?_
            refine x_iload_n (pc' := 1) rfl rfl rfl ?_
            refine x_iload_n (pc' := 2) rfl rfl rfl ?_
            refine x_ishr (pc' := 3) (z := 1) rfl rfl (by decide) ?_
            refine x_iconst (pc' := 4) rfl rfl ?_
            refine x_iand (pc' := 5) (z := 1) rfl rfl (by decide) ?_
            refine x_iconst (pc' := 6) rfl rfl ?_
            refine x_icmp (a' := 13) (pc' := 9) (z := false) rfl rfl rfl (by decide) (fun h => by cases h) (fun _ => ?_)
            refine x_iconst (pc' := 10) rfl rfl ?_
            refine x_goto (pc' := 14) rfl rfl ?_
            refine x_istore (pc' := 16) (ls' := [_, _, _, _, _, _]) rfl rfl rfl rfl ?_
            refine x_aload_n (pc' := 17) rfl rfl rfl rfl rfl ?_
            refine x_iload_n (pc' := 18) rfl rfl rfl ?_
            refine x_iload_n (pc' := 19) rfl rfl rfl ?_
            refine x_iload (pc' := 21) rfl rfl rfl ?_
            refine x_cv (ls0 := [_, _, _, _, sJk, sJk, sJk, sJk, sJk]) (rest := []) rfl rfl rfl rfl rfl ?_
            refine r183 (m := m) (c := 2) (s := true) hM hc (Fr.ri (Fr.refl _) hR) hm (show 2 < 3 by decide) ?_
            refine sK_i (pc' := 24) rfl ?_
            refine x_istore (pc' := 26) (ls' := [_, _, _, _, _, _]) rfl rfl rfl rfl ?_
            refine x_aload_n (pc' := 27) rfl rfl rfl rfl rfl ?_
            refine x_gR (pc' := 30) (r := (some 6)) rfl rfl rfl (kR_776_0 hc) ?_
            refine x_iconst (pc' := 31) rfl rfl ?_
            refine x_iload_n (pc' := 32) rfl rfl rfl ?_
            refine x_imul (pc' := 33) (z := (io (3 * m))) rfl rfl (io_mul 3 m) ?_
            refine x_iload_n (pc' := 34) rfl rfl rfl ?_
            refine x_iadd (pc' := 35) (z := (io ((3 * m) + 2))) rfl rfl (io_add (3 * m) 2) ?_
            refine x_iald (pc' := 36) (N := 18) (x := (mA M 6 ((3 * m) + 2))) rfl rfl rfl (kN_21_6 hc) (io_in (p := ((3 * m) + 2)) (N := 18) (show ((3 * m) + 2) < 18 by omega) (by decide)) (Eq.trans (congrArg (sA t 21 6) (nn_io (p := ((3 * m) + 2)) (Nat.lt_trans (show ((3 * m) + 2) < 18 by omega) (by decide)))) (gA hM rfl)) ?_
            refine x_iload (pc' := 38) rfl rfl rfl ?_
            refine x_if (a' := 46) (pc' := 41) (z := false) rfl rfl rfl (by decide) (fun h => by cases h) (fun _ => ?_)
            refine x_iload (pc' := 43) rfl rfl rfl ?_
            refine x_goto (pc' := 49) rfl rfl ?_
            refine x_iadd (pc' := 50) (z := ((mA M 6 ((3 * m) + 2)) + (cdF M n m 2 true))) rfl rfl rfl ?_
            refine x_reti rfl rfl ?_
            refine sK_i (pc' := 32) rfl ?_
            refine x_cv (ls0 := [_, _, _, _, sJk, sJk, sJk]) (rest := []) rfl rfl rfl rfl rfl ?_
            refine r180 (p := ((mA M 6 ((3 * m) + 0)) + (cdF M n m 0 true))) (u := ((mA M 6 ((3 * m) + 1)) + (-(cdF M n m 1 false)))) (v := ((mA M 6 ((3 * m) + 2)) + (cdF M n m 2 true))) hM hc (Fr.ri (Fr.refl _) hR) ?_
            refine sK_i (pc' := 35) rfl ?_
            refine x_istore (pc' := 37) (ls' := [_, _, _, _, _]) rfl rfl rfl rfl ?_
            refine x_iload (pc' := 39) rfl rfl rfl ?_
            refine x_iload_n (pc' := 40) rfl rfl rfl ?_
            have J53 : X 184 49 [.inr (.inr (12, (some 0))), .inl (io m), .inl (mxc (mxc (mxc (mxc (mxc 0 (mgF M n ((mA M 6 ((3 * m) + 0)) + (-(cdF M n m 0 false))) ((mA M 6 ((3 * m) + 1)) + (-(cdF M n m 1 false))) ((mA M 6 ((3 * m) + 2)) + (-(cdF M n m 2 false))))) (mgF M n ((mA M 6 ((3 * m) + 0)) + (cdF M n m 0 true)) ((mA M 6 ((3 * m) + 1)) + (-(cdF M n m 1 false))) ((mA M 6 ((3 * m) + 2)) + (-(cdF M n m 2 false))))) (mgF M n ((mA M 6 ((3 * m) + 0)) + (-(cdF M n m 0 false))) ((mA M 6 ((3 * m) + 1)) + (cdF M n m 1 true)) ((mA M 6 ((3 * m) + 2)) + (-(cdF M n m 2 false))))) (mgF M n ((mA M 6 ((3 * m) + 0)) + (cdF M n m 0 true)) ((mA M 6 ((3 * m) + 1)) + (cdF M n m 1 true)) ((mA M 6 ((3 * m) + 2)) + (-(cdF M n m 2 false))))) (mgF M n ((mA M 6 ((3 * m) + 0)) + (-(cdF M n m 0 false))) ((mA M 6 ((3 * m) + 1)) + (-(cdF M n m 1 false))) ((mA M 6 ((3 * m) + 2)) + (cdF M n m 2 true)))), .inl 5, .inl (mgF M n ((mA M 6 ((3 * m) + 0)) + (cdF M n m 0 true)) ((mA M 6 ((3 * m) + 1)) + (-(cdF M n m 1 false))) ((mA M 6 ((3 * m) + 2)) + (cdF M n m 2 true)))] [.inl (mxc (mxc (mxc (mxc (mxc (mxc 0 (mgF M n ((mA M 6 ((3 * m) + 0)) + (-(cdF M n m 0 false))) ((mA M 6 ((3 * m) + 1)) + (-(cdF M n m 1 false))) ((mA M 6 ((3 * m) + 2)) + (-(cdF M n m 2 false))))) (mgF M n ((mA M 6 ((3 * m) + 0)) + (cdF M n m 0 true)) ((mA M 6 ((3 * m) + 1)) + (-(cdF M n m 1 false))) ((mA M 6 ((3 * m) + 2)) + (-(cdF M n m 2 false))))) (mgF M n ((mA M 6 ((3 * m) + 0)) + (-(cdF M n m 0 false))) ((mA M 6 ((3 * m) + 1)) + (cdF M n m 1 true)) ((mA M 6 ((3 * m) + 2)) + (-(cdF M n m 2 false))))) (mgF M n ((mA M 6 ((3 * m) + 0)) + (cdF M n m 0 true)) ((mA M 6 ((3 * m) + 1)) + (cdF M n m 1 true)) ((mA M 6 ((3 * m) + 2)) + (-(cdF M n m 2 false))))) (mgF M n ((mA M 6 ((3 * m) + 0)) + (-(cdF M n m 0 false))) ((mA M 6 ((3 * m) + 1)) + (-(cdF M n m 1 false))) ((mA M 6 ((3 * m) + 2)) + (cdF M n m 2 true)))) (mgF M n ((mA M 6 ((3 * m) + 0)) + (cdF M n m 0 true)) ((mA M 6 ((3 * m) + 1)) + (-(cdF M n m 1 false))) ((mA M 6 ((3 * m) + 2)) + (cdF M n m 2 true))))] t Q := by
              refine x_istore_n (pc' := 50) (ls' := [_, _, _, _, _]) rfl rfl rfl rfl ?_
              refine x_iinc (pc' := 53) (y := 6) (ls' := [_, _, _, _, _]) rfl rfl rfl rfl rfl ?_
              refine x_goto (pc' := 4) rfl rfl ?_
              refine x_iload_n (pc' := 5) rfl rfl rfl ?_
              refine x_bipush (pc' := 7) rfl rfl ?_
              refine x_icmp (a' := 56) (pc' := 10) (z := false) rfl rfl rfl (by decide) (fun h => by cases h) (fun _ => ?_)
              refine x_aload_n (pc' := 11) rfl rfl rfl rfl rfl ?_
              refine x_aload_n (pc' := 12) rfl rfl rfl rfl rfl ?_
              refine x_iload_n (pc' := 13) rfl rfl rfl ?_
              refine x_iconst (pc' := 14) rfl rfl ?_
              refine x_iload_n (pc' := 15) rfl rfl rfl ?_
              refine x_cv (ls0 := [_, _, _, _, sJk, sJk]) (rest := [_]) rfl rfl rfl rfl rfl ?_
              refine x_iload_n (pc' := 1) rfl rfl rfl ?_
              refine x_iload_n (pc' := 2) rfl rfl rfl ?_
              refine x_ishr (pc' := 3) (z := 6) rfl rfl (by decide) ?_
              refine x_iconst (pc' := 4) rfl rfl ?_
              refine x_iand (pc' := 5) (z := 0) rfl rfl (by decide) ?_
              refine x_iconst (pc' := 6) rfl rfl ?_
              refine x_icmp (a' := 13) (pc' := 9) (z := true) rfl rfl rfl (by decide) (fun _ => ?_) (fun h => by cases h)
              refine x_iconst (pc' := 14) rfl rfl ?_
              refine x_istore (pc' := 16) (ls' := [_, _, _, _, _, _]) rfl rfl rfl rfl ?_
              refine x_aload_n (pc' := 17) rfl rfl rfl rfl rfl ?_
              refine x_iload_n (pc' := 18) rfl rfl rfl ?_
              refine x_iload_n (pc' := 19) rfl rfl rfl ?_
              refine x_iload (pc' := 21) rfl rfl rfl ?_
              refine x_cv (ls0 := [_, _, _, _, sJk, sJk, sJk, sJk, sJk]) (rest := []) rfl rfl rfl rfl rfl ?_
              refine r183 (m := m) (c := 0) (s := false) hM hc (Fr.ri (Fr.refl _) hR) hm (show 0 < 3 by decide) ?_
              refine sK_i (pc' := 24) rfl ?_
              refine x_istore (pc' := 26) (ls' := [_, _, _, _, _, _]) rfl rfl rfl rfl ?_
              refine x_aload_n (pc' := 27) rfl rfl rfl rfl rfl ?_
              refine x_gR (pc' := 30) (r := (some 6)) rfl rfl rfl (kR_776_0 hc) ?_
              refine x_iconst (pc' := 31) rfl rfl ?_
              refine x_iload_n (pc' := 32) rfl rfl rfl ?_
              refine x_imul (pc' := 33) (z := (io (3 * m))) rfl rfl (io_mul 3 m) ?_
              refine x_iload_n (pc' := 34) rfl rfl rfl ?_
              refine x_iadd (pc' := 35) (z := (io ((3 * m) + 0))) rfl rfl (io_add (3 * m) 0) ?_
              refine x_iald (pc' := 36) (N := 18) (x := (mA M 6 ((3 * m) + 0))) rfl rfl rfl (kN_21_6 hc) (io_in (p := ((3 * m) + 0)) (N := 18) (show ((3 * m) + 0) < 18 by omega) (by decide)) (Eq.trans (congrArg (sA t 21 6) (nn_io (p := ((3 * m) + 0)) (Nat.lt_trans (show ((3 * m) + 0) < 18 by omega) (by decide)))) (gA hM rfl)) ?_
              refine x_iload (pc' := 38) rfl rfl rfl ?_
              refine x_if (a' := 46) (pc' := 41) (z := true) rfl rfl rfl (by decide) (fun _ => ?_) (fun h => by cases h)
              refine x_iload (pc' := 48) rfl rfl rfl ?_
              refine x_ineg (pc' := 49) rfl rfl rfl ?_
              refine x_iadd (pc' := 50) (z := ((mA M 6 ((3 * m) + 0)) + (-(cdF M n m 0 false)))) rfl rfl rfl ?_
              refine x_reti rfl rfl ?_
              refine sK_i (pc' := 18) rfl ?_
              refine x_aload_n (pc' := 19) rfl rfl rfl rfl rfl ?_
              refine x_iload_n (pc' := 20) rfl rfl rfl ?_
              refine x_iconst (pc' := 21) rfl rfl ?_
              refine x_iload_n (pc' := 22) rfl rfl rfl ?_
              refine x_cv (ls0 := [_, _, _, _, sJk, sJk]) (rest := [_, _]) rfl rfl rfl rfl rfl ?_
              refine x_iload_n (pc' := 1) rfl rfl rfl ?_
              refine x_iload_n (pc' := 2) rfl rfl rfl ?_
              refine x_ishr (pc' := 3) (z := 3) rfl rfl (by decide) ?_
              refine x_iconst (pc' := 4) rfl rfl ?_
              refine x_iand (pc' := 5) (z := 1) rfl rfl (by decide) ?_
              refine x_iconst (pc' := 6) rfl rfl ?_
              refine x_icmp (a' := 13) (pc' := 9) (z := false) rfl rfl rfl (by decide) (fun h => by cases h) (fun _ => ?_)
              refine x_iconst (pc' := 10) rfl rfl ?_
              refine x_goto (pc' := 14) rfl rfl ?_
              refine x_istore (pc' := 16) (ls' := [_, _, _, _, _, _]) rfl rfl rfl rfl ?_
              refine x_aload_n (pc' := 17) rfl rfl rfl rfl rfl ?_
              refine x_iload_n (pc' := 18) rfl rfl rfl ?_
              refine x_iload_n (pc' := 19) rfl rfl rfl ?_
              refine x_iload (pc' := 21) rfl rfl rfl ?_
              refine x_cv (ls0 := [_, _, _, _, sJk, sJk, sJk, sJk, sJk]) (rest := []) rfl rfl rfl rfl rfl ?_
              refine r183 (m := m) (c := 1) (s := true) hM hc (Fr.ri (Fr.refl _) hR) hm (show 1 < 3 by decide) ?_
              refine sK_i (pc' := 24) rfl ?_
              refine x_istore (pc' := 26) (ls' := [_, _, _, _, _, _]) rfl rfl rfl rfl ?_
              refine x_aload_n (pc' := 27) rfl rfl rfl rfl rfl ?_
              refine x_gR (pc' := 30) (r := (some 6)) rfl rfl rfl (kR_776_0 hc) ?_
              refine x_iconst (pc' := 31) rfl rfl ?_
              refine x_iload_n (pc' := 32) rfl rfl rfl ?_
              refine x_imul (pc' := 33) (z := (io (3 * m))) rfl rfl (io_mul 3 m) ?_
              refine x_iload_n (pc' := 34) rfl rfl rfl ?_
              refine x_iadd (pc' := 35) (z := (io ((3 * m) + 1))) rfl rfl (io_add (3 * m) 1) ?_
              refine x_iald (pc' := 36) (N := 18) (x := (mA M 6 ((3 * m) + 1))) rfl rfl rfl (kN_21_6 hc) (io_in (p := ((3 * m) + 1)) (N := 18) (show ((3 * m) + 1) < 18 by omega) (by decide)) (Eq.trans (congrArg (sA t 21 6) (nn_io (p := ((3 * m) + 1)) (Nat.lt_trans (show ((3 * m) + 1) < 18 by omega) (by decide)))) (gA hM rfl)) ?_
              refine x_iload (pc' := 38) rfl rfl rfl ?_
              refine x_if (a' := 46) (pc' := 41) (z := false) rfl rfl rfl (by decide) (fun h => by cases h) (fun _ => ?_)
              refine x_iload (pc' := 43) rfl rfl rfl ?_
              refine x_goto (pc' := 49) rfl rfl ?_
              refine x_iadd (pc' := 50) (z := ((mA M 6 ((3 * m) + 1)) + (cdF M n m 1 true))) rfl rfl rfl ?_
              refine x_reti rfl rfl ?_
              refine sK_i (pc' := 25) rfl ?_
              refine x_aload_n (pc' := 26) rfl rfl rfl rfl rfl ?_
              refine x_iload_n (pc' := 27) rfl rfl rfl ?_
              refine x_iconst (pc' := 28) rfl rfl ?_
              refine x_iload_n (pc' := 29) rfl rfl rfl ?_
              refine x_cv (ls0 := [_, _, _, _, sJk, sJk]) (rest := [_, _, _]) rfl rfl rfl rfl rfl ?_
              refine x_iload_n (pc' := 1) rfl rfl rfl ?_
              refine x_iload_n (pc' := 2) rfl rfl rfl ?_
              refine x_ishr (pc' := 3) (z := 1) rfl rfl (by decide) ?_
              refine x_iconst (pc' := 4) rfl rfl ?_
              refine x_iand (pc' := 5) (z := 1) rfl rfl (by decide) ?_
              refine x_iconst (pc' := 6) rfl rfl ?_
              refine x_icmp (a' := 13) (pc' := 9) (z := false) rfl rfl rfl (by decide) (fun h => by cases h) (fun _ => ?_)
              refine x_iconst (pc' := 10) rfl rfl ?_
              refine x_goto (pc' := 14) rfl rfl ?_
              refine x_istore (pc' := 16) (ls' := [_, _, _, _, _, _]) rfl rfl rfl rfl ?_
              refine x_aload_n (pc' := 17) rfl rfl rfl rfl rfl ?_
              refine x_iload_n (pc' := 18) rfl rfl rfl ?_
              refine x_iload_n (pc' := 19) rfl rfl rfl ?_
              refine x_iload (pc' := 21) rfl rfl rfl ?_
              refine x_cv (ls0 := [_, _, _, _, sJk, sJk, sJk, sJk, sJk]) (rest := []) rfl rfl rfl rfl rfl ?_
              refine r183 (m := m) (c := 2) (s := true) hM hc (Fr.ri (Fr.refl _) hR) hm (show 2 < 3 by decide) ?_
              refine sK_i (pc' := 24) rfl ?_
              refine x_istore (pc' := 26) (ls' := [_, _, _, _, _, _]) rfl rfl rfl rfl ?_
              refine x_aload_n (pc' := 27) rfl rfl rfl rfl rfl ?_
              refine x_gR (pc' := 30) (r := (some 6)) rfl rfl rfl (kR_776_0 hc) ?_
              refine x_iconst (pc' := 31) rfl rfl ?_
              refine x_iload_n (pc' := 32) rfl rfl rfl ?_
              refine x_imul (pc' := 33) (z := (io (3 * m))) rfl rfl (io_mul 3 m) ?_
              refine x_iload_n (pc' := 34) rfl rfl rfl ?_
              refine x_iadd (pc' := 35) (z := (io ((3 * m) + 2))) rfl rfl (io_add (3 * m) 2) ?_
              refine x_iald (pc' := 36) (N := 18) (x := (mA M 6 ((3 * m) + 2))) rfl rfl rfl (kN_21_6 hc) (io_in (p := ((3 * m) + 2)) (N := 18) (show ((3 * m) + 2) < 18 by omega) (by decide)) (Eq.trans (congrArg (sA t 21 6) (nn_io (p := ((3 * m) + 2)) (Nat.lt_trans (show ((3 * m) + 2) < 18 by omega) (by decide)))) (gA hM rfl)) ?_
              refine x_iload (pc' := 38) rfl rfl rfl ?_
              refine x_if (a' := 46) (pc' := 41) (z := false) rfl rfl rfl (by decide) (fun h => by cases h) (fun _ => ?_)
              refine x_iload (pc' := 43) rfl rfl rfl ?_
              refine x_goto (pc' := 49) rfl rfl ?_
              refine x_iadd (pc' := 50) (z := ((mA M 6 ((3 * m) + 2)) + (cdF M n m 2 true))) rfl rfl rfl ?_
              refine x_reti rfl rfl ?_
              refine sK_i (pc' := 32) rfl ?_
              refine x_cv (ls0 := [_, _, _, _, sJk, sJk, sJk]) (rest := []) rfl rfl rfl rfl rfl ?_
              refine r180 (p := ((mA M 6 ((3 * m) + 0)) + (-(cdF M n m 0 false)))) (u := ((mA M 6 ((3 * m) + 1)) + (cdF M n m 1 true))) (v := ((mA M 6 ((3 * m) + 2)) + (cdF M n m 2 true))) hM hc (Fr.ri (Fr.refl _) hR) ?_
              refine sK_i (pc' := 35) rfl ?_
              refine x_istore (pc' := 37) (ls' := [_, _, _, _, _]) rfl rfl rfl rfl ?_
              refine x_iload (pc' := 39) rfl rfl rfl ?_
              refine x_iload_n (pc' := 40) rfl rfl rfl ?_
              have J62 : X 184 49 [.inr (.inr (12, (some 0))), .inl (io m), .inl (mxc (mxc (mxc (mxc (mxc (mxc 0 (mgF M n ((mA M 6 ((3 * m) + 0)) + (-(cdF M n m 0 false))) ((mA M 6 ((3 * m) + 1)) + (-(cdF M n m 1 false))) ((mA M 6 ((3 * m) + 2)) + (-(cdF M n m 2 false))))) (mgF M n ((mA M 6 ((3 * m) + 0)) + (cdF M n m 0 true)) ((mA M 6 ((3 * m) + 1)) + (-(cdF M n m 1 false))) ((mA M 6 ((3 * m) + 2)) + (-(cdF M n m 2 false))))) (mgF M n ((mA M 6 ((3 * m) + 0)) + (-(cdF M n m 0 false))) ((mA M 6 ((3 * m) + 1)) + (cdF M n m 1 true)) ((mA M 6 ((3 * m) + 2)) + (-(cdF M n m 2 false))))) (mgF M n ((mA M 6 ((3 * m) + 0)) + (cdF M n m 0 true)) ((mA M 6 ((3 * m) + 1)) + (cdF M n m 1 true)) ((mA M 6 ((3 * m) + 2)) + (-(cdF M n m 2 false))))) (mgF M n ((mA M 6 ((3 * m) + 0)) + (-(cdF M n m 0 false))) ((mA M 6 ((3 * m) + 1)) + (-(cdF M n m 1 false))) ((mA M 6 ((3 * m) + 2)) + (cdF M n m 2 true)))) (mgF M n ((mA M 6 ((3 * m) + 0)) + (cdF M n m 0 true)) ((mA M 6 ((3 * m) + 1)) + (-(cdF M n m 1 false))) ((mA M 6 ((3 * m) + 2)) + (cdF M n m 2 true)))), .inl 6, .inl (mgF M n ((mA M 6 ((3 * m) + 0)) + (-(cdF M n m 0 false))) ((mA M 6 ((3 * m) + 1)) + (cdF M n m 1 true)) ((mA M 6 ((3 * m) + 2)) + (cdF M n m 2 true)))] [.inl (mxc (mxc (mxc (mxc (mxc (mxc (mxc 0 (mgF M n ((mA M 6 ((3 * m) + 0)) + (-(cdF M n m 0 false))) ((mA M 6 ((3 * m) + 1)) + (-(cdF M n m 1 false))) ((mA M 6 ((3 * m) + 2)) + (-(cdF M n m 2 false))))) (mgF M n ((mA M 6 ((3 * m) + 0)) + (cdF M n m 0 true)) ((mA M 6 ((3 * m) + 1)) + (-(cdF M n m 1 false))) ((mA M 6 ((3 * m) + 2)) + (-(cdF M n m 2 false))))) (mgF M n ((mA M 6 ((3 * m) + 0)) + (-(cdF M n m 0 false))) ((mA M 6 ((3 * m) + 1)) + (cdF M n m 1 true)) ((mA M 6 ((3 * m) + 2)) + (-(cdF M n m 2 false))))) (mgF M n ((mA M 6 ((3 * m) + 0)) + (cdF M n m 0 true)) ((mA M 6 ((3 * m) + 1)) + (cdF M n m 1 true)) ((mA M 6 ((3 * m) + 2)) + (-(cdF M n m 2 false))))) (mgF M n ((mA M 6 ((3 * m) + 0)) + (-(cdF M n m 0 false))) ((mA M 6 ((3 * m) + 1)) + (-(cdF M n m 1 false))) ((mA M 6 ((3 * m) + 2)) + (cdF M n m 2 true)))) (mgF M n ((mA M 6 ((3 * m) + 0)) + (cdF M n m 0 true)) ((mA M 6 ((3 * m) + 1)) + (-(cdF M n m 1 false))) ((mA M 6 ((3 * m) + 2)) + (cdF M n m 2 true)))) (mgF M n ((mA M 6 ((3 * m) + 0)) + (-(cdF M n m 0 false))) ((mA M 6 ((3 * m) + 1)) + (cdF M n m 1 true)) ((mA M 6 ((3 * m) + 2)) + (cdF M n m 2 true))))] t Q := by
                refine x_istore_n (pc' := 50) (ls' := [_, _, _, _, _]) rfl rfl rfl rfl ?_
                refine x_iinc (pc' := 53) (y := 7) (ls' := [_, _, _, _, _]) rfl rfl rfl rfl rfl ?_
                refine x_goto (pc' := 4) rfl rfl ?_
                refine x_iload_n (pc' := 5) rfl rfl rfl ?_
                refine x_bipush (pc' := 7) rfl rfl ?_
                refine x_icmp (a' := 56) (pc' := 10) (z := false) rfl rfl rfl (by decide) (fun h => by cases h) (fun _ => ?_)
                refine x_aload_n (pc' := 11) rfl rfl rfl rfl rfl ?_
                refine x_aload_n (pc' := 12) rfl rfl rfl rfl rfl ?_
                refine x_iload_n (pc' := 13) rfl rfl rfl ?_
                refine x_iconst (pc' := 14) rfl rfl ?_
                refine x_iload_n (pc' := 15) rfl rfl rfl ?_
                refine x_cv (ls0 := [_, _, _, _, sJk, sJk]) (rest := [_]) rfl rfl rfl rfl rfl ?_
                refine x_iload_n (pc' := 1) rfl rfl rfl ?_
                refine x_iload_n (pc' := 2) rfl rfl rfl ?_
                refine x_ishr (pc' := 3) (z := 7) rfl rfl (by decide) ?_
                refine x_iconst (pc' := 4) rfl rfl ?_
                refine x_iand (pc' := 5) (z := 1) rfl rfl (by decide) ?_
                refine x_iconst (pc' := 6) rfl rfl ?_
                refine x_icmp (a' := 13) (pc' := 9) (z := false) rfl rfl rfl (by decide) (fun h => by cases h) (fun _ => ?_)
                refine x_iconst (pc' := 10) rfl rfl ?_
                refine x_goto (pc' := 14) rfl rfl ?_
                refine x_istore (pc' := 16) (ls' := [_, _, _, _, _, _]) rfl rfl rfl rfl ?_
                refine x_aload_n (pc' := 17) rfl rfl rfl rfl rfl ?_
                refine x_iload_n (pc' := 18) rfl rfl rfl ?_
                refine x_iload_n (pc' := 19) rfl rfl rfl ?_
                refine x_iload (pc' := 21) rfl rfl rfl ?_
                refine x_cv (ls0 := [_, _, _, _, sJk, sJk, sJk, sJk, sJk]) (rest := []) rfl rfl rfl rfl rfl ?_
                refine r183 (m := m) (c := 0) (s := true) hM hc (Fr.ri (Fr.refl _) hR) hm (show 0 < 3 by decide) ?_
                refine sK_i (pc' := 24) rfl ?_
                refine x_istore (pc' := 26) (ls' := [_, _, _, _, _, _]) rfl rfl rfl rfl ?_
                refine x_aload_n (pc' := 27) rfl rfl rfl rfl rfl ?_
                refine x_gR (pc' := 30) (r := (some 6)) rfl rfl rfl (kR_776_0 hc) ?_
                refine x_iconst (pc' := 31) rfl rfl ?_
                refine x_iload_n (pc' := 32) rfl rfl rfl ?_
                refine x_imul (pc' := 33) (z := (io (3 * m))) rfl rfl (io_mul 3 m) ?_
                refine x_iload_n (pc' := 34) rfl rfl rfl ?_
                refine x_iadd (pc' := 35) (z := (io ((3 * m) + 0))) rfl rfl (io_add (3 * m) 0) ?_
                refine x_iald (pc' := 36) (N := 18) (x := (mA M 6 ((3 * m) + 0))) rfl rfl rfl (kN_21_6 hc) (io_in (p := ((3 * m) + 0)) (N := 18) (show ((3 * m) + 0) < 18 by omega) (by decide)) (Eq.trans (congrArg (sA t 21 6) (nn_io (p := ((3 * m) + 0)) (Nat.lt_trans (show ((3 * m) + 0) < 18 by omega) (by decide)))) (gA hM rfl)) ?_
                refine x_iload (pc' := 38) rfl rfl rfl ?_
                refine x_if (a' := 46) (pc' := 41) (z := false) rfl rfl rfl (by decide) (fun h => by cases h) (fun _ => ?_)
                refine x_iload (pc' := 43) rfl rfl rfl ?_
                refine x_goto (pc' := 49) rfl rfl ?_
                refine x_iadd (pc' := 50) (z := ((mA M 6 ((3 * m) + 0)) + (cdF M n m 0 true))) rfl rfl rfl ?_
                refine x_reti rfl rfl ?_
                refine sK_i (pc' := 18) rfl ?_
                refine x_aload_n (pc' := 19) rfl rfl rfl rfl rfl ?_
                refine x_iload_n (pc' := 20) rfl rfl rfl ?_
                refine x_iconst (pc' := 21) rfl rfl ?_
                refine x_iload_n (pc' := 22) rfl rfl rfl ?_
                refine x_cv (ls0 := [_, _, _, _, sJk, sJk]) (rest := [_, _]) rfl rfl rfl rfl rfl ?_
                refine x_iload_n (pc' := 1) rfl rfl rfl ?_
                refine x_iload_n (pc' := 2) rfl rfl rfl ?_
                refine x_ishr (pc' := 3) (z := 3) rfl rfl (by decide) ?_
                refine x_iconst (pc' := 4) rfl rfl ?_
                refine x_iand (pc' := 5) (z := 1) rfl rfl (by decide) ?_
                refine x_iconst (pc' := 6) rfl rfl ?_
                refine x_icmp (a' := 13) (pc' := 9) (z := false) rfl rfl rfl (by decide) (fun h => by cases h) (fun _ => ?_)
                refine x_iconst (pc' := 10) rfl rfl ?_
                refine x_goto (pc' := 14) rfl rfl ?_
                refine x_istore (pc' := 16) (ls' := [_, _, _, _, _, _]) rfl rfl rfl rfl ?_
                refine x_aload_n (pc' := 17) rfl rfl rfl rfl rfl ?_
                refine x_iload_n (pc' := 18) rfl rfl rfl ?_
                refine x_iload_n (pc' := 19) rfl rfl rfl ?_
                refine x_iload (pc' := 21) rfl rfl rfl ?_
                refine x_cv (ls0 := [_, _, _, _, sJk, sJk, sJk, sJk, sJk]) (rest := []) rfl rfl rfl rfl rfl ?_
                refine r183 (m := m) (c := 1) (s := true) hM hc (Fr.ri (Fr.refl _) hR) hm (show 1 < 3 by decide) ?_
                refine sK_i (pc' := 24) rfl ?_
                refine x_istore (pc' := 26) (ls' := [_, _, _, _, _, _]) rfl rfl rfl rfl ?_
                refine x_aload_n (pc' := 27) rfl rfl rfl rfl rfl ?_
                refine x_gR (pc' := 30) (r := (some 6)) rfl rfl rfl (kR_776_0 hc) ?_
                refine x_iconst (pc' := 31) rfl rfl ?_
                refine x_iload_n (pc' := 32) rfl rfl rfl ?_
                refine x_imul (pc' := 33) (z := (io (3 * m))) rfl rfl (io_mul 3 m) ?_
                refine x_iload_n (pc' := 34) rfl rfl rfl ?_
                refine x_iadd (pc' := 35) (z := (io ((3 * m) + 1))) rfl rfl (io_add (3 * m) 1) ?_
                refine x_iald (pc' := 36) (N := 18) (x := (mA M 6 ((3 * m) + 1))) rfl rfl rfl (kN_21_6 hc) (io_in (p := ((3 * m) + 1)) (N := 18) (show ((3 * m) + 1) < 18 by omega) (by decide)) (Eq.trans (congrArg (sA t 21 6) (nn_io (p := ((3 * m) + 1)) (Nat.lt_trans (show ((3 * m) + 1) < 18 by omega) (by decide)))) (gA hM rfl)) ?_
                refine x_iload (pc' := 38) rfl rfl rfl ?_
                refine x_if (a' := 46) (pc' := 41) (z := false) rfl rfl rfl (by decide) (fun h => by cases h) (fun _ => ?_)
                refine x_iload (pc' := 43) rfl rfl rfl ?_
                refine x_goto (pc' := 49) rfl rfl ?_
                refine x_iadd (pc' := 50) (z := ((mA M 6 ((3 * m) + 1)) + (cdF M n m 1 true))) rfl rfl rfl ?_
                refine x_reti rfl rfl ?_
                refine sK_i (pc' := 25) rfl ?_
                refine x_aload_n (pc' := 26) rfl rfl rfl rfl rfl ?_
                refine x_iload_n (pc' := 27) rfl rfl rfl ?_
                refine x_iconst (pc' := 28) rfl rfl ?_
                refine x_iload_n (pc' := 29) rfl rfl rfl ?_
                refine x_cv (ls0 := [_, _, _, _, sJk, sJk]) (rest := [_, _, _]) rfl rfl rfl rfl rfl ?_
                refine x_iload_n (pc' := 1) rfl rfl rfl ?_
                refine x_iload_n (pc' := 2) rfl rfl rfl ?_
                refine x_ishr (pc' := 3) (z := 1) rfl rfl (by decide) ?_
                refine x_iconst (pc' := 4) rfl rfl ?_
                refine x_iand (pc' := 5) (z := 1) rfl rfl (by decide) ?_
                refine x_iconst (pc' := 6) rfl rfl ?_
                refine x_icmp (a' := 13) (pc' := 9) (z := false) rfl rfl rfl (by decide) (fun h => by cases h) (fun _ => ?_)
                refine x_iconst (pc' := 10) rfl rfl ?_
                refine x_goto (pc' := 14) rfl rfl ?_
                refine x_istore (pc' := 16) (ls' := [_, _, _, _, _, _]) rfl rfl rfl rfl ?_
                refine x_aload_n (pc' := 17) rfl rfl rfl rfl rfl ?_
                refine x_iload_n (pc' := 18) rfl rfl rfl ?_
                refine x_iload_n (pc' := 19) rfl rfl rfl ?_
                refine x_iload (pc' := 21) rfl rfl rfl ?_
                refine x_cv (ls0 := [_, _, _, _, sJk, sJk, sJk, sJk, sJk]) (rest := []) rfl rfl rfl rfl rfl ?_
                refine r183 (m := m) (c := 2) (s := true) hM hc (Fr.ri (Fr.refl _) hR) hm (show 2 < 3 by decide) ?_
                refine sK_i (pc' := 24) rfl ?_
                refine x_istore (pc' := 26) (ls' := [_, _, _, _, _, _]) rfl rfl rfl rfl ?_
                refine x_aload_n (pc' := 27) rfl rfl rfl rfl rfl ?_
                refine x_gR (pc' := 30) (r := (some 6)) rfl rfl rfl (kR_776_0 hc) ?_
                refine x_iconst (pc' := 31) rfl rfl ?_
                refine x_iload_n (pc' := 32) rfl rfl rfl ?_
                refine x_imul (pc' := 33) (z := (io (3 * m))) rfl rfl (io_mul 3 m) ?_
                refine x_iload_n (pc' := 34) rfl rfl rfl ?_
                refine x_iadd (pc' := 35) (z := (io ((3 * m) + 2))) rfl rfl (io_add (3 * m) 2) ?_
                refine x_iald (pc' := 36) (N := 18) (x := (mA M 6 ((3 * m) + 2))) rfl rfl rfl (kN_21_6 hc) (io_in (p := ((3 * m) + 2)) (N := 18) (show ((3 * m) + 2) < 18 by omega) (by decide)) (Eq.trans (congrArg (sA t 21 6) (nn_io (p := ((3 * m) + 2)) (Nat.lt_trans (show ((3 * m) + 2) < 18 by omega) (by decide)))) (gA hM rfl)) ?_
                refine x_iload (pc' := 38) rfl rfl rfl ?_
                refine x_if (a' := 46) (pc' := 41) (z := false) rfl rfl rfl (by decide) (fun h => by cases h) (fun _ => ?_)
                refine x_iload (pc' := 43) rfl rfl rfl ?_
                refine x_goto (pc' := 49) rfl rfl ?_
                refine x_iadd (pc' := 50) (z := ((mA M 6 ((3 * m) + 2)) + (cdF M n m 2 true))) rfl rfl rfl ?_
                refine x_reti rfl rfl ?_
                refine sK_i (pc' := 32) rfl ?_
                refine x_cv (ls0 := [_, _, _, _, sJk, sJk, sJk]) (rest := []) rfl rfl rfl rfl rfl ?_
                refine r180 (p := ((mA M 6 ((3 * m) + 0)) + (cdF M n m 0 true))) (u := ((mA M 6 ((3 * m) + 1)) + (cdF M n m 1 true))) (v := ((mA M 6 ((3 * m) + 2)) + (cdF M n m 2 true))) hM hc (Fr.ri (Fr.refl _) hR) ?_
                refine sK_i (pc' := 35) rfl ?_
                refine x_istore (pc' := 37) (ls' := [_, _, _, _, _]) rfl rfl rfl rfl ?_
                refine x_iload (pc' := 39) rfl rfl rfl ?_
                refine x_iload_n (pc' := 40) rfl rfl rfl ?_
                have J71 : X 184 49 [.inr (.inr (12, (some 0))), .inl (io m), .inl (mxc (mxc (mxc (mxc (mxc (mxc (mxc 0 (mgF M n ((mA M 6 ((3 * m) + 0)) + (-(cdF M n m 0 false))) ((mA M 6 ((3 * m) + 1)) + (-(cdF M n m 1 false))) ((mA M 6 ((3 * m) + 2)) + (-(cdF M n m 2 false))))) (mgF M n ((mA M 6 ((3 * m) + 0)) + (cdF M n m 0 true)) ((mA M 6 ((3 * m) + 1)) + (-(cdF M n m 1 false))) ((mA M 6 ((3 * m) + 2)) + (-(cdF M n m 2 false))))) (mgF M n ((mA M 6 ((3 * m) + 0)) + (-(cdF M n m 0 false))) ((mA M 6 ((3 * m) + 1)) + (cdF M n m 1 true)) ((mA M 6 ((3 * m) + 2)) + (-(cdF M n m 2 false))))) (mgF M n ((mA M 6 ((3 * m) + 0)) + (cdF M n m 0 true)) ((mA M 6 ((3 * m) + 1)) + (cdF M n m 1 true)) ((mA M 6 ((3 * m) + 2)) + (-(cdF M n m 2 false))))) (mgF M n ((mA M 6 ((3 * m) + 0)) + (-(cdF M n m 0 false))) ((mA M 6 ((3 * m) + 1)) + (-(cdF M n m 1 false))) ((mA M 6 ((3 * m) + 2)) + (cdF M n m 2 true)))) (mgF M n ((mA M 6 ((3 * m) + 0)) + (cdF M n m 0 true)) ((mA M 6 ((3 * m) + 1)) + (-(cdF M n m 1 false))) ((mA M 6 ((3 * m) + 2)) + (cdF M n m 2 true)))) (mgF M n ((mA M 6 ((3 * m) + 0)) + (-(cdF M n m 0 false))) ((mA M 6 ((3 * m) + 1)) + (cdF M n m 1 true)) ((mA M 6 ((3 * m) + 2)) + (cdF M n m 2 true)))), .inl 7, .inl (mgF M n ((mA M 6 ((3 * m) + 0)) + (cdF M n m 0 true)) ((mA M 6 ((3 * m) + 1)) + (cdF M n m 1 true)) ((mA M 6 ((3 * m) + 2)) + (cdF M n m 2 true)))] [.inl (mxc (mxc (mxc (mxc (mxc (mxc (mxc (mxc 0 (mgF M n ((mA M 6 ((3 * m) + 0)) + (-(cdF M n m 0 false))) ((mA M 6 ((3 * m) + 1)) + (-(cdF M n m 1 false))) ((mA M 6 ((3 * m) + 2)) + (-(cdF M n m 2 false))))) (mgF M n ((mA M 6 ((3 * m) + 0)) + (cdF M n m 0 true)) ((mA M 6 ((3 * m) + 1)) + (-(cdF M n m 1 false))) ((mA M 6 ((3 * m) + 2)) + (-(cdF M n m 2 false))))) (mgF M n ((mA M 6 ((3 * m) + 0)) + (-(cdF M n m 0 false))) ((mA M 6 ((3 * m) + 1)) + (cdF M n m 1 true)) ((mA M 6 ((3 * m) + 2)) + (-(cdF M n m 2 false))))) (mgF M n ((mA M 6 ((3 * m) + 0)) + (cdF M n m 0 true)) ((mA M 6 ((3 * m) + 1)) + (cdF M n m 1 true)) ((mA M 6 ((3 * m) + 2)) + (-(cdF M n m 2 false))))) (mgF M n ((mA M 6 ((3 * m) + 0)) + (-(cdF M n m 0 false))) ((mA M 6 ((3 * m) + 1)) + (-(cdF M n m 1 false))) ((mA M 6 ((3 * m) + 2)) + (cdF M n m 2 true)))) (mgF M n ((mA M 6 ((3 * m) + 0)) + (cdF M n m 0 true)) ((mA M 6 ((3 * m) + 1)) + (-(cdF M n m 1 false))) ((mA M 6 ((3 * m) + 2)) + (cdF M n m 2 true)))) (mgF M n ((mA M 6 ((3 * m) + 0)) + (-(cdF M n m 0 false))) ((mA M 6 ((3 * m) + 1)) + (cdF M n m 1 true)) ((mA M 6 ((3 * m) + 2)) + (cdF M n m 2 true)))) (mgF M n ((mA M 6 ((3 * m) + 0)) + (cdF M n m 0 true)) ((mA M 6 ((3 * m) + 1)) + (cdF M n m 1 true)) ((mA M 6 ((3 * m) + 2)) + (cdF M n m 2 true))))] t Q := by
                  refine x_istore_n (pc' := 50) (ls' := [_, _, _, _, _]) rfl rfl rfl rfl ?_
                  refine x_iinc (pc' := 53) (y := 8) (ls' := [_, _, _, _, _]) rfl rfl rfl rfl rfl ?_
                  refine x_goto (pc' := 4) rfl rfl ?_
                  refine x_iload_n (pc' := 5) rfl rfl rfl ?_
                  refine x_bipush (pc' := 7) rfl rfl ?_
                  refine x_icmp (a' := 56) (pc' := 10) (z := true) rfl rfl rfl (by decide) (fun _ => ?_) (fun h => by cases h)
                  refine x_iload_n (pc' := 57) rfl rfl rfl ?_
                  refine x_reti rfl rfl ?_
                  exact q 
                refine x_icmp_n (a' := 48) (pc' := 43) (z := decide ((mxc (mxc (mxc (mxc (mxc (mxc (mxc 0 (mgF M n ((mA M 6 ((3 * m) + 0)) + (-(cdF M n m 0 false))) ((mA M 6 ((3 * m) + 1)) + (-(cdF M n m 1 false))) ((mA M 6 ((3 * m) + 2)) + (-(cdF M n m 2 false))))) (mgF M n ((mA M 6 ((3 * m) + 0)) + (cdF M n m 0 true)) ((mA M 6 ((3 * m) + 1)) + (-(cdF M n m 1 false))) ((mA M 6 ((3 * m) + 2)) + (-(cdF M n m 2 false))))) (mgF M n ((mA M 6 ((3 * m) + 0)) + (-(cdF M n m 0 false))) ((mA M 6 ((3 * m) + 1)) + (cdF M n m 1 true)) ((mA M 6 ((3 * m) + 2)) + (-(cdF M n m 2 false))))) (mgF M n ((mA M 6 ((3 * m) + 0)) + (cdF M n m 0 true)) ((mA M 6 ((3 * m) + 1)) + (cdF M n m 1 true)) ((mA M 6 ((3 * m) + 2)) + (-(cdF M n m 2 false))))) (mgF M n ((mA M 6 ((3 * m) + 0)) + (-(cdF M n m 0 false))) ((mA M 6 ((3 * m) + 1)) + (-(cdF M n m 1 false))) ((mA M 6 ((3 * m) + 2)) + (cdF M n m 2 true)))) (mgF M n ((mA M 6 ((3 * m) + 0)) + (cdF M n m 0 true)) ((mA M 6 ((3 * m) + 1)) + (-(cdF M n m 1 false))) ((mA M 6 ((3 * m) + 2)) + (cdF M n m 2 true)))) (mgF M n ((mA M 6 ((3 * m) + 0)) + (-(cdF M n m 0 false))) ((mA M 6 ((3 * m) + 1)) + (cdF M n m 1 true)) ((mA M 6 ((3 * m) + 2)) + (cdF M n m 2 true)))) < (mgF M n ((mA M 6 ((3 * m) + 0)) + (cdF M n m 0 true)) ((mA M 6 ((3 * m) + 1)) + (cdF M n m 1 true)) ((mA M 6 ((3 * m) + 2)) + (cdF M n m 2 true))))) rfl rfl rfl (ik_le _ _) (fun q71 => ?_) (fun q71 => ?_)
                · refine x_iload_n (pc' := 49) rfl rfl rfl ?_
                  ((try rw [mxc_f q71] at J71); (try simp only [cd_t, cd_f, nt_t, nt_f, an_t, an_f, or_t, or_f] at J71); (try simp only [cd_t, cd_f, nt_t, nt_f, an_t, an_f, or_t, or_f]); exact J71)
                · refine x_iload (pc' := 45) rfl rfl rfl ?_
                  refine x_goto (pc' := 49) rfl rfl ?_
                  ((try rw [mxc_t q71] at J71); (try simp only [cd_t, cd_f, nt_t, nt_f, an_t, an_f, or_t, or_f] at J71); (try simp only [cd_t, cd_f, nt_t, nt_f, an_t, an_f, or_t, or_f]); exact J71)
              refine x_icmp_n (a' := 48) (pc' := 43) (z := decide ((mxc (mxc (mxc (mxc (mxc (mxc 0 (mgF M n ((mA M 6 ((3 * m) + 0)) + (-(cdF M n m 0 false))) ((mA M 6 ((3 * m) + 1)) + (-(cdF M n m 1 false))) ((mA M 6 ((3 * m) + 2)) + (-(cdF M n m 2 false))))) (mgF M n ((mA M 6 ((3 * m) + 0)) + (cdF M n m 0 true)) ((mA M 6 ((3 * m) + 1)) + (-(cdF M n m 1 false))) ((mA M 6 ((3 * m) + 2)) + (-(cdF M n m 2 false))))) (mgF M n ((mA M 6 ((3 * m) + 0)) + (-(cdF M n m 0 false))) ((mA M 6 ((3 * m) + 1)) + (cdF M n m 1 true)) ((mA M 6 ((3 * m) + 2)) + (-(cdF M n m 2 false))))) (mgF M n ((mA M 6 ((3 * m) + 0)) + (cdF M n m 0 true)) ((mA M 6 ((3 * m) + 1)) + (cdF M n m 1 true)) ((mA M 6 ((3 * m) + 2)) + (-(cdF M n m 2 false))))) (mgF M n ((mA M 6 ((3 * m) + 0)) + (-(cdF M n m 0 false))) ((mA M 6 ((3 * m) + 1)) + (-(cdF M n m 1 false))) ((mA M 6 ((3 * m) + 2)) + (cdF M n m 2 true)))) (mgF M n ((mA M 6 ((3 * m) + 0)) + (cdF M n m 0 true)) ((mA M 6 ((3 * m) + 1)) + (-(cdF M n m 1 false))) ((mA M 6 ((3 * m) + 2)) + (cdF M n m 2 true)))) < (mgF M n ((mA M 6 ((3 * m) + 0)) + (-(cdF M n m 0 false))) ((mA M 6 ((3 * m) + 1)) + (cdF M n m 1 true)) ((mA M 6 ((3 * m) + 2)) + (cdF M n m 2 true))))) rfl rfl rfl (ik_le _ _) (fun q62 => ?_) (fun q62 => ?_)
              · refine x_iload_n (pc' := 49) rfl rfl rfl ?_
                ((try rw [mxc_f q62] at J62); (try simp only [cd_t, cd_f, nt_t, nt_f, an_t, an_f, or_t, or_f] at J62); (try simp only [cd_t, cd_f, nt_t, nt_f, an_t, an_f, or_t, or_f]); exact J62)
              · refine x_iload (pc' := 45) rfl rfl rfl ?_
                refine x_goto (pc' := 49) rfl rfl ?_
                ((try rw [mxc_t q62] at J62); (try simp only [cd_t, cd_f, nt_t, nt_f, an_t, an_f, or_t, or_f] at J62); (try simp only [cd_t, cd_f, nt_t, nt_f, an_t, an_f, or_t, or_f]); exact J62)
            refine x_icmp_n (a' := 48) (pc' := 43) (z := decide ((mxc (mxc (mxc (mxc (mxc 0 (mgF M n ((mA M 6 ((3 * m) + 0)) + (-(cdF M n m 0 false))) ((mA M 6 ((3 * m) + 1)) + (-(cdF M n m 1 false))) ((mA M 6 ((3 * m) + 2)) + (-(cdF M n m 2 false))))) (mgF M n ((mA M 6 ((3 * m) + 0)) + (cdF M n m 0 true)) ((mA M 6 ((3 * m) + 1)) + (-(cdF M n m 1 false))) ((mA M 6 ((3 * m) + 2)) + (-(cdF M n m 2 false))))) (mgF M n ((mA M 6 ((3 * m) + 0)) + (-(cdF M n m 0 false))) ((mA M 6 ((3 * m) + 1)) + (cdF M n m 1 true)) ((mA M 6 ((3 * m) + 2)) + (-(cdF M n m 2 false))))) (mgF M n ((mA M 6 ((3 * m) + 0)) + (cdF M n m 0 true)) ((mA M 6 ((3 * m) + 1)) + (cdF M n m 1 true)) ((mA M 6 ((3 * m) + 2)) + (-(cdF M n m 2 false))))) (mgF M n ((mA M 6 ((3 * m) + 0)) + (-(cdF M n m 0 false))) ((mA M 6 ((3 * m) + 1)) + (-(cdF M n m 1 false))) ((mA M 6 ((3 * m) + 2)) + (cdF M n m 2 true)))) < (mgF M n ((mA M 6 ((3 * m) + 0)) + (cdF M n m 0 true)) ((mA M 6 ((3 * m) + 1)) + (-(cdF M n m 1 false))) ((mA M 6 ((3 * m) + 2)) + (cdF M n m 2 true))))) rfl rfl rfl (ik_le _ _) (fun q53 => ?_) (fun q53 => ?_)
            · refine x_iload_n (pc' := 49) rfl rfl rfl ?_
              ((try rw [mxc_f q53] at J53); (try simp only [cd_t, cd_f, nt_t, nt_f, an_t, an_f, or_t, or_f] at J53); (try simp only [cd_t, cd_f, nt_t, nt_f, an_t, an_f, or_t, or_f]); exact J53)
            · refine x_iload (pc' := 45) rfl rfl rfl ?_
              refine x_goto (pc' := 49) rfl rfl ?_
              ((try rw [mxc_t q53] at J53); (try simp only [cd_t, cd_f, nt_t, nt_f, an_t, an_f, or_t, or_f] at J53); (try simp only [cd_t, cd_f, nt_t, nt_f, an_t, an_f, or_t, or_f]); exact J53)
          refine x_icmp_n (a' := 48) (pc' := 43) (z := decide ((mxc (mxc (mxc (mxc 0 (mgF M n ((mA M 6 ((3 * m) + 0)) + (-(cdF M n m 0 false))) ((mA M 6 ((3 * m) + 1)) + (-(cdF M n m 1 false))) ((mA M 6 ((3 * m) + 2)) + (-(cdF M n m 2 false))))) (mgF M n ((mA M 6 ((3 * m) + 0)) + (cdF M n m 0 true)) ((mA M 6 ((3 * m) + 1)) + (-(cdF M n m 1 false))) ((mA M 6 ((3 * m) + 2)) + (-(cdF M n m 2 false))))) (mgF M n ((mA M 6 ((3 * m) + 0)) + (-(cdF M n m 0 false))) ((mA M 6 ((3 * m) + 1)) + (cdF M n m 1 true)) ((mA M 6 ((3 * m) + 2)) + (-(cdF M n m 2 false))))) (mgF M n ((mA M 6 ((3 * m) + 0)) + (cdF M n m 0 true)) ((mA M 6 ((3 * m) + 1)) + (cdF M n m 1 true)) ((mA M 6 ((3 * m) + 2)) + (-(cdF M n m 2 false))))) < (mgF M n ((mA M 6 ((3 * m) + 0)) + (-(cdF M n m 0 false))) ((mA M 6 ((3 * m) + 1)) + (-(cdF M n m 1 false))) ((mA M 6 ((3 * m) + 2)) + (cdF M n m 2 true))))) rfl rfl rfl (ik_le _ _) (fun q44 => ?_) (fun q44 => ?_)
          · refine x_iload_n (pc' := 49) rfl rfl rfl ?_
            ((try rw [mxc_f q44] at J44); (try simp only [cd_t, cd_f, nt_t, nt_f, an_t, an_f, or_t, or_f] at J44); (try simp only [cd_t, cd_f, nt_t, nt_f, an_t, an_f, or_t, or_f]); exact J44)
          · refine x_iload (pc' := 45) rfl rfl rfl ?_
            refine x_goto (pc' := 49) rfl rfl ?_
            ((try rw [mxc_t q44] at J44); (try simp only [cd_t, cd_f, nt_t, nt_f, an_t, an_f, or_t, or_f] at J44); (try simp only [cd_t, cd_f, nt_t, nt_f, an_t, an_f, or_t, or_f]); exact J44)
        refine x_icmp_n (a' := 48) (pc' := 43) (z := decide ((mxc (mxc (mxc 0 (mgF M n ((mA M 6 ((3 * m) + 0)) + (-(cdF M n m 0 false))) ((mA M 6 ((3 * m) + 1)) + (-(cdF M n m 1 false))) ((mA M 6 ((3 * m) + 2)) + (-(cdF M n m 2 false))))) (mgF M n ((mA M 6 ((3 * m) + 0)) + (cdF M n m 0 true)) ((mA M 6 ((3 * m) + 1)) + (-(cdF M n m 1 false))) ((mA M 6 ((3 * m) + 2)) + (-(cdF M n m 2 false))))) (mgF M n ((mA M 6 ((3 * m) + 0)) + (-(cdF M n m 0 false))) ((mA M 6 ((3 * m) + 1)) + (cdF M n m 1 true)) ((mA M 6 ((3 * m) + 2)) + (-(cdF M n m 2 false))))) < (mgF M n ((mA M 6 ((3 * m) + 0)) + (cdF M n m 0 true)) ((mA M 6 ((3 * m) + 1)) + (cdF M n m 1 true)) ((mA M 6 ((3 * m) + 2)) + (-(cdF M n m 2 false)))))) rfl rfl rfl (ik_le _ _) (fun q35 => ?_) (fun q35 => ?_)
        · refine x_iload_n (pc' := 49) rfl rfl rfl ?_
          ((try rw [mxc_f q35] at J35); (try simp only [cd_t, cd_f, nt_t, nt_f, an_t, an_f, or_t, or_f] at J35); (try simp only [cd_t, cd_f, nt_t, nt_f, an_t, an_f, or_t, or_f]); exact J35)
        · refine x_iload (pc' := 45) rfl rfl rfl ?_
          refine x_goto (pc' := 49) rfl rfl ?_
          ((try rw [mxc_t q35] at J35); (try simp only [cd_t, cd_f, nt_t, nt_f, an_t, an_f, or_t, or_f] at J35); (try simp only [cd_t, cd_f, nt_t, nt_f, an_t, an_f, or_t, or_f]); exact J35)
      refine x_icmp_n (a' := 48) (pc' := 43) (z := decide ((mxc (mxc 0 (mgF M n ((mA M 6 ((3 * m) + 0)) + (-(cdF M n m 0 false))) ((mA M 6 ((3 * m) + 1)) + (-(cdF M n m 1 false))) ((mA M 6 ((3 * m) + 2)) + (-(cdF M n m 2 false))))) (mgF M n ((mA M 6 ((3 * m) + 0)) + (cdF M n m 0 true)) ((mA M 6 ((3 * m) + 1)) + (-(cdF M n m 1 false))) ((mA M 6 ((3 * m) + 2)) + (-(cdF M n m 2 false))))) < (mgF M n ((mA M 6 ((3 * m) + 0)) + (-(cdF M n m 0 false))) ((mA M 6 ((3 * m) + 1)) + (cdF M n m 1 true)) ((mA M 6 ((3 * m) + 2)) + (-(cdF M n m 2 false)))))) rfl rfl rfl (ik_le _ _) (fun q26 => ?_) (fun q26 => ?_)
      · refine x_iload_n (pc' := 49) rfl rfl rfl ?_
        ((try rw [mxc_f q26] at J26); (try simp only [cd_t, cd_f, nt_t, nt_f, an_t, an_f, or_t, or_f] at J26); (try simp only [cd_t, cd_f, nt_t, nt_f, an_t, an_f, or_t, or_f]); exact J26)
      · refine x_iload (pc' := 45) rfl rfl rfl ?_
        refine x_goto (pc' := 49) rfl rfl ?_
        ((try rw [mxc_t q26] at J26); (try simp only [cd_t, cd_f, nt_t, nt_f, an_t, an_f, or_t, or_f] at J26); (try simp only [cd_t, cd_f, nt_t, nt_f, an_t, an_f, or_t, or_f]); exact J26)
    refine x_icmp_n (a' := 48) (pc' := 43) (z := decide ((mxc 0 (mgF M n ((mA M 6 ((3 * m) + 0)) + (-(cdF M n m 0 false))) ((mA M 6 ((3 * m) + 1)) + (-(cdF M n m 1 false))) ((mA M 6 ((3 * m) + 2)) + (-(cdF M n m 2 false))))) < (mgF M n ((mA M 6 ((3 * m) + 0)) + (cdF M n m 0 true)) ((mA M 6 ((3 * m) + 1)) + (-(cdF M n m 1 false))) ((mA M 6 ((3 * m) + 2)) + (-(cdF M n m 2 false)))))) rfl rfl rfl (ik_le _ _) (fun q17 => ?_) (fun q17 => ?_)
    · refine x_iload_n (pc' := 49) rfl rfl rfl ?_
      ((try rw [mxc_f q17] at J17); (try simp only [cd_t, cd_f, nt_t, nt_f, an_t, an_f, or_t, or_f] at J17); (try simp only [cd_t, cd_f, nt_t, nt_f, an_t, an_f, or_t, or_f]); exact J17)
    · refine x_iload (pc' := 45) rfl rfl rfl ?_
      refine x_goto (pc' := 49) rfl rfl ?_
      ((try rw [mxc_t q17] at J17); (try simp only [cd_t, cd_f, nt_t, nt_f, an_t, an_f, or_t, or_f] at J17); (try simp only [cd_t, cd_f, nt_t, nt_f, an_t, an_f, or_t, or_f]); exact J17)
  refine x_icmp_n (a' := 48) (pc' := 43) (z := decide (0 < (mgF M n ((mA M 6 ((3 * m) + 0)) + (-(cdF M n m 0 false))) ((mA M 6 ((3 * m) + 1)) + (-(cdF M n m 1 false))) ((mA M 6 ((3 * m) + 2)) + (-(cdF M n m 2 false)))))) rfl rfl rfl (ik_le _ _) (fun q8 => ?_) (fun q8 => ?_)
  · refine x_iload_n (pc' := 49) rfl rfl rfl ?_
    ((try rw [mxc_f q8] at J8); (try simp only [cd_t, cd_f, nt_t, nt_f, an_t, an_f, or_t, or_f] at J8); (try simp only [cd_t, cd_f, nt_t, nt_f, an_t, an_f, or_t, or_f]); exact J8)
  · refine x_iload (pc' := 45) rfl rfl rfl ?_
    refine x_goto (pc' := 49) rfl rfl ?_
    ((try rw [mxc_t q8] at J8); (try simp only [cd_t, cd_f, nt_t, nt_f, an_t, an_f, or_t, or_f] at J8); (try simp only [cd_t, cd_f, nt_t, nt_f, an_t, an_f, or_t, or_f]); exact J8)
def maF (M : sM) (n : Nat) (m : Nat) : Int32 := (mgF M n (mA M 6 (3 * m)) (mA M 6 ((3 * m) + 1)) (mA M 6 ((3 * m) + 2)))
set_option maxHeartbeats 4000000 in
set_option maxRecDepth 10000 in
theorem r181 {t : sT} {Q : sRs → sT → Prop} {M : sM} {n : Nat} {m : Nat}
    (hM : rp t = M)
    (hc : Cn t)
    (hR : Ri M n)
    (hm : m < 6)
    (q : Q (.inl (some (.inl (maF M n m)))) t) :
    X 181 0 [.inr (.inr (12, (some 0))), .inl (io m)] [] t Q := by
  refine x_aload_n (pc' := 1) rfl rfl rfl rfl rfl ?_
  refine x_aload_n (pc' := 2) rfl rfl rfl rfl rfl ?_
  refine x_gR (pc' := 5) (r := (some 6)) rfl rfl rfl (kR_776_0 hc) ?_
  refine x_iconst (pc' := 6) rfl rfl ?_
  refine x_iload_n (pc' := 7) rfl rfl rfl ?_
  refine x_imul (pc' := 8) (z := (io (3 * m))) rfl rfl (io_mul 3 m) ?_
  refine x_iald (pc' := 9) (N := 18) (x := (mA M 6 (3 * m))) rfl rfl rfl (kN_21_6 hc) (io_in (p := (3 * m)) (N := 18) (show (3 * m) < 18 by omega) (by decide)) (Eq.trans (congrArg (sA t 21 6) (nn_io (p := (3 * m)) (Nat.lt_trans (show (3 * m) < 18 by omega) (by decide)))) (gA hM rfl)) ?_
  refine x_aload_n (pc' := 10) rfl rfl rfl rfl rfl ?_
  refine x_gR (pc' := 13) (r := (some 6)) rfl rfl rfl (kR_776_0 hc) ?_
  refine x_iconst (pc' := 14) rfl rfl ?_
  refine x_iload_n (pc' := 15) rfl rfl rfl ?_
  refine x_imul (pc' := 16) (z := (io (3 * m))) rfl rfl (io_mul 3 m) ?_
  refine x_iconst (pc' := 17) rfl rfl ?_
  refine x_iadd (pc' := 18) (z := (io ((3 * m) + 1))) rfl rfl (io_add (3 * m) 1) ?_
  refine x_iald (pc' := 19) (N := 18) (x := (mA M 6 ((3 * m) + 1))) rfl rfl rfl (kN_21_6 hc) (io_in (p := ((3 * m) + 1)) (N := 18) (show ((3 * m) + 1) < 18 by omega) (by decide)) (Eq.trans (congrArg (sA t 21 6) (nn_io (p := ((3 * m) + 1)) (Nat.lt_trans (show ((3 * m) + 1) < 18 by omega) (by decide)))) (gA hM rfl)) ?_
  refine x_aload_n (pc' := 20) rfl rfl rfl rfl rfl ?_
  refine x_gR (pc' := 23) (r := (some 6)) rfl rfl rfl (kR_776_0 hc) ?_
  refine x_iconst (pc' := 24) rfl rfl ?_
  refine x_iload_n (pc' := 25) rfl rfl rfl ?_
  refine x_imul (pc' := 26) (z := (io (3 * m))) rfl rfl (io_mul 3 m) ?_
  refine x_iconst (pc' := 27) rfl rfl ?_
  refine x_iadd (pc' := 28) (z := (io ((3 * m) + 2))) rfl rfl (io_add (3 * m) 2) ?_
  refine x_iald (pc' := 29) (N := 18) (x := (mA M 6 ((3 * m) + 2))) rfl rfl rfl (kN_21_6 hc) (io_in (p := ((3 * m) + 2)) (N := 18) (show ((3 * m) + 2) < 18 by omega) (by decide)) (Eq.trans (congrArg (sA t 21 6) (nn_io (p := ((3 * m) + 2)) (Nat.lt_trans (show ((3 * m) + 2) < 18 by omega) (by decide)))) (gA hM rfl)) ?_
  refine x_cv (ls0 := [_, _, _, _, sJk, sJk, sJk]) (rest := []) rfl rfl rfl rfl rfl ?_
  refine r180 (p := (mA M 6 (3 * m))) (u := (mA M 6 ((3 * m) + 1))) (v := (mA M 6 ((3 * m) + 2))) hM hc (Fr.ri (Fr.refl _) hR) ?_
  refine sK_i (pc' := 32) rfl ?_
  refine x_reti rfl rfl ?_
  exact q 
def nmF (M : sM) (n : Nat) (m : Nat) : Bool := (decide ((fdF M n m) < (ndF M n m)))
set_option maxHeartbeats 4000000 in
set_option maxRecDepth 10000 in
theorem r202 {t : sT} {Q : sRs → sT → Prop} {M : sM} {n : Nat} {m : Nat}
    (hM : rp t = M)
    (hc : Cn t)
    (hR : Ri M n)
    (hm : m < 6)
    (q : Q (.inl (some (.inl (bz (nmF M n m))))) t) :
    X 202 0 [.inr (.inr (12, (some 0))), .inl (io m)] [] t Q := by
  refine x_aload_n (pc' := 1) rfl rfl rfl rfl rfl ?_
  refine x_iload_n (pc' := 2) rfl rfl rfl ?_
  refine x_cv (ls0 := [_, _, sJk, sJk, sJk]) (rest := []) rfl rfl rfl rfl rfl ?_
  refine r184 (m := m) hM hc (Fr.ri (Fr.refl _) hR) hm ?_
  refine sK_i (pc' := 5) rfl ?_
  refine x_aload_n (pc' := 6) rfl rfl rfl rfl rfl ?_
  refine x_iload_n (pc' := 7) rfl rfl rfl ?_
  refine x_cv (ls0 := [_, _, sJk, sJk]) (rest := [_]) rfl rfl rfl rfl rfl ?_
  refine r182 (m := m) hM hc (Fr.ri (Fr.refl _) hR) hm ?_
  refine sK_i (pc' := 10) rfl ?_
  have J1 : X 202 18 [.inr (.inr (12, (some 0))), .inl (io m)] [.inl (bz (decide ((fdF M n m) < (ndF M n m))))] t Q := by
    refine x_retz (z := (decide ((fdF M n m) < (ndF M n m)))) rfl rfl ?_
    exact q 
  refine x_icmp_n (a' := 17) (pc' := 13) (z := decide ((fdF M n m) < (ndF M n m))) rfl rfl rfl (ik_le _ _) (fun q1 => ?_) (fun q1 => ?_)
  · refine x_iconst (pc' := 18) rfl rfl ?_
    ((try rw [q1] at J1); (try rw [q1]); (try simp only [cd_t, cd_f, nt_t, nt_f, an_t, an_f, or_t, or_f] at J1); (try simp only [cd_t, cd_f, nt_t, nt_f, an_t, an_f, or_t, or_f]); exact J1)
  · refine x_iconst (pc' := 14) rfl rfl ?_
    refine x_goto (pc' := 18) rfl rfl ?_
    ((try rw [q1] at J1); (try rw [q1]); (try simp only [cd_t, cd_f, nt_t, nt_f, an_t, an_f, or_t, or_f] at J1); (try simp only [cd_t, cd_f, nt_t, nt_f, an_t, an_f, or_t, or_f]); exact J1)
