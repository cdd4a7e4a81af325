/-! the reference's quote, further pieces (printed by ext99i.py) -/
set_option maxHeartbeats 4000000 in
set_option maxRecDepth 10000 in
theorem r208_1n {t : sT} {Q : sRs → sT → Prop} {M : sM} {n : Nat} {b : Nat} {m : Nat} {p : Int32} {u : Int32} {a : Int32} {o : Nat} {y0 : Int32} {y1 : Int32} {g : Int32} {h : Int32}
    (hV : Vr t M n)
    (hb : b < 5)
    (hm : m < 6)
    (ho : o < n)
    (k0 : X 200 0 [.inr (.inr (12, (some 0))), .inl (io m), .inl (io b), .inl 0, .inl u, .inl a, .inl a] [] t (sK 200 208 200 [.inr (.inr (12, (some 0))), .inl (io m), .inl (io b), .inl p, .inl u, .inl a, .inl y0, .inl y1, .inl (-1), .inl g, .inl h, .inl (io o), sJk, sJk, sJk] [] Q)) :
    X 208 188 [.inr (.inr (12, (some 0))), .inl (io m), .inl (io b), .inl p, .inl u, .inl a, .inl y0, .inl y1, .inl (-1), .inl g, .inl h, sJk, sJk, sJk, sJk] [.inl (io o)] t Q := by
  obtain ⟨hM, hc, hR⟩ := hV
  refine x_istore (pc' := 190) (ls' := [_, _, _, _, _, _, _, _, _, _, _, _, _, _, _]) rfl rfl rfl rfl ?_
  refine x_aload_n (pc' := 191) rfl rfl rfl rfl rfl ?_
  refine x_iload_n (pc' := 192) rfl rfl rfl ?_
  refine x_iload_n (pc' := 193) rfl rfl rfl ?_
  refine x_iconst (pc' := 194) rfl rfl ?_
  refine x_iload (pc' := 196) rfl rfl rfl ?_
  refine x_iload (pc' := 198) rfl rfl rfl ?_
  refine x_iload (pc' := 200) rfl rfl rfl ?_
  refine x_cv (ls0 := [_, _, _, _, _, _, _]) (rest := []) rfl rfl rfl rfl rfl ?_
  exact k0
set_option maxHeartbeats 4000000 in
set_option maxRecDepth 10000 in
theorem r208_2n {t : sT} {Q : sRs → sT → Prop} {M : sM} {n : Nat} {b : Nat} {m : Nat} {p : Int32} {u : Int32} {a : Int32} {o : Nat} {x : Nat} {y0 : Int32} {y1 : Int32} {g : Int32} {h : Int32}
    (hV : Vr t M n)
    (hb : b < 5)
    (hm : m < 6)
    (ho : o < n)
    (hx : x < n)
    (k0 : (nmF M n m) = false → X 208 258 [.inr (.inr (12, (some 0))), .inl (io m), .inl (io b), .inl p, .inl u, .inl a, .inl y0, .inl y1, .inl (-1), .inl g, .inl h, .inl (io o), .inl (io x), .inl (bz (nmF M n m)), .inl 0] [] t Q)
    (k1 : (nmF M n m) = true → Q (.inl (some (.inl (-1)))) (sIw t 786 0 ((io n) - 2))) :
    X 208 203 [.inr (.inr (12, (some 0))), .inl (io m), .inl (io b), .inl p, .inl u, .inl a, .inl y0, .inl y1, .inl (-1), .inl g, .inl h, .inl (io o), sJk, sJk, sJk] [.inl (io x)] t Q := by
  obtain ⟨hM, hc, hR⟩ := hV
  refine x_istore (pc' := 205) (ls' := [_, _, _, _, _, _, _, _, _, _, _, _, _, _, _]) rfl rfl rfl rfl ?_
  refine x_aload_n (pc' := 206) rfl rfl rfl rfl rfl ?_
  refine x_iload_n (pc' := 207) rfl rfl rfl ?_
  refine x_cv (ls0 := [_, _]) (rest := []) rfl rfl rfl rfl rfl ?_
  refine r202 hM hc (Fr.ri (Fr.refl _) hR) hm ?_
  refine sK_i (pc' := 210) rfl ?_
  refine x_istore (pc' := 212) (ls' := [_, _, _, _, _, _, _, _, _, _, _, _, _, _, _]) rfl rfl rfl rfl ?_
  refine x_iload (pc' := 214) rfl rfl rfl ?_
  refine x_iconst (pc' := 215) rfl rfl ?_
  refine x_icmp (a' := 238) (pc' := 218) (z := true) rfl rfl rfl (by decide) (fun _ => ?_) (fun h => by cases h)
  refine x_iload (pc' := 240) rfl rfl rfl ?_
  refine x_ifeq_z (a' := 255) (pc' := 243) (z := (nmF M n m)) rfl rfl rfl (fun q2 => ?_) (fun q2 => ?_)
  · refine x_iconst (pc' := 256) rfl rfl ?_
    refine x_istore (pc' := 258) (ls' := [_, _, _, _, _, _, _, _, _, _, _, _, _, _, _]) rfl rfl rfl rfl ?_
    exact k0 q2
  · refine x_aload_n (pc' := 244) rfl rfl rfl rfl rfl ?_
    refine x_dup (pc' := 245) rfl rfl rfl ?_
    refine x_gI (pc' := 248) (x := (io n)) rfl rfl rfl (gFn hM (Fr.refl _) hR) ?_
    refine x_iconst (pc' := 249) rfl rfl ?_
    refine x_isub (pc' := 250) (z := ((io n) - 2)) rfl rfl rfl ?_
    refine x_pI (pc' := 253) rfl rfl rfl ?_
    refine x_iconst (pc' := 254) rfl rfl ?_
    refine x_reti rfl rfl ?_
    exact k1 q2
set_option maxHeartbeats 4000000 in
set_option maxRecDepth 10000 in
theorem r208_3n {t : sT} {Q : sRs → sT → Prop} {M : sM} {n : Nat} {b : Nat} {m : Nat} {p : Int32} {u : Int32} {a : Int32} {o : Nat} {x : Nat} {y0 : Int32} {y1 : Int32} {g : Int32} {h : Int32} {w : Bool}
    (hV : Vr t M n)
    (hb : b < 5)
    (hm : m < 6)
    (ho : o < n)
    (hx : x < n)
    (k0 : w = false → X 208 258 [.inr (.inr (12, (some 0))), .inl (io m), .inl (io b), .inl p, .inl u, .inl a, .inl y0, .inl y1, .inl (-1), .inl g, .inl h, .inl (io o), .inl (io x), .inl (bz w), .inl 0] [] t Q)
    (k1 : w = true → Q (.inl (some (.inl (-1)))) (sIw t 786 0 ((io n) - 2))) :
    X 208 210 [.inr (.inr (12, (some 0))), .inl (io m), .inl (io b), .inl p, .inl u, .inl a, .inl y0, .inl y1, .inl (-1), .inl g, .inl h, .inl (io o), .inl (io x), sJk, sJk] [.inl (bz w)] t Q := by
  obtain ⟨hM, hc, hR⟩ := hV
  refine x_istore (pc' := 212) (ls' := [_, _, _, _, _, _, _, _, _, _, _, _, _, _, _]) rfl rfl rfl rfl ?_
  refine x_iload (pc' := 214) rfl rfl rfl ?_
  refine x_iconst (pc' := 215) rfl rfl ?_
  refine x_icmp (a' := 238) (pc' := 218) (z := true) rfl rfl rfl (by decide) (fun _ => ?_) (fun h => by cases h)
  refine x_iload (pc' := 240) rfl rfl rfl ?_
  refine x_ifeq_z (a' := 255) (pc' := 243) (z := w) rfl rfl rfl (fun q2 => ?_) (fun q2 => ?_)
  · refine x_iconst (pc' := 256) rfl rfl ?_
    refine x_istore (pc' := 258) (ls' := [_, _, _, _, _, _, _, _, _, _, _, _, _, _, _]) rfl rfl rfl rfl ?_
    exact k0 q2
  · refine x_aload_n (pc' := 244) rfl rfl rfl rfl rfl ?_
    refine x_dup (pc' := 245) rfl rfl rfl ?_
    refine x_gI (pc' := 248) (x := (io n)) rfl rfl rfl (gFn hM (Fr.refl _) hR) ?_
    refine x_iconst (pc' := 249) rfl rfl ?_
    refine x_isub (pc' := 250) (z := ((io n) - 2)) rfl rfl rfl ?_
    refine x_pI (pc' := 253) rfl rfl rfl ?_
    refine x_iconst (pc' := 254) rfl rfl ?_
    refine x_reti rfl rfl ?_
    exact k1 q2
set_option maxHeartbeats 4000000 in
set_option maxRecDepth 10000 in
theorem r208_4n {t : sT} {Q : sRs → sT → Prop} {M : sM} {n : Nat} {b : Nat} {m : Nat} {p : Int32} {u : Int32} {a : Int32} {o : Nat} {x : Nat} {y0 : Int32} {y1 : Int32} {g : Int32} {h : Int32} {w : Bool}
    (hV : Vr t M n)
    (hb : b < 5)
    (hm : m < 6)
    (ho : o < n)
    (hx : x < n)
    (k0 : X 179 0 [.inr (.inr (12, (some 0))), sJk] [] t (sK 179 208 298 [.inr (.inr (12, (some 0))), .inl (io m), .inl (io b), .inl p, .inl u, .inl a, .inl y0, .inl y1, .inl (-1), .inl g, .inl h, .inl (io o), .inl (io x), .inl (bz w), .inl 0] [] Q)) :
    X 208 258 [.inr (.inr (12, (some 0))), .inl (io m), .inl (io b), .inl p, .inl u, .inl a, .inl y0, .inl y1, .inl (-1), .inl g, .inl h, .inl (io o), .inl (io x), .inl (bz w), .inl 0] [] t Q := by
  obtain ⟨hM, hc, hR⟩ := hV
  refine x_iload (pc' := 260) rfl rfl rfl ?_
  refine x_iconst (pc' := 261) rfl rfl ?_
  refine x_icmp (a' := 297) (pc' := 264) (z := false) rfl rfl rfl (by decide) (fun h => by cases h) (fun _ => ?_)
  refine x_iload (pc' := 266) rfl rfl rfl ?_
  refine x_iconst (pc' := 267) rfl rfl ?_
  refine x_icmp (a' := 297) (pc' := 270) (z := true) rfl rfl rfl (by decide) (fun _ => ?_) (fun h => by cases h)
  refine x_aload_n (pc' := 298) rfl rfl rfl rfl rfl ?_
  refine x_cv (ls0 := [_, sJk]) (rest := []) rfl rfl rfl rfl rfl ?_
  exact k0
set_option maxHeartbeats 4000000 in
set_option maxRecDepth 10000 in
theorem r208_1q {t : sT} {Q : sRs → sT → Prop} {M : sM} {n : Nat} {b : Nat} {m : Nat} {p : Int32} {u : Int32} {a : Int32} {o : Nat} {q : Nat} {y0 : Int32} {y1 : Int32} {g : Int32} {h : Int32}
    (hV : Vr t M n)
    (hb : b < 5)
    (hm : m < 6)
    (ho : o < n)
    (hq1 : (q + 1) < n)
    (k0 : X 200 0 [.inr (.inr (12, (some 0))), .inl (io m), .inl (io b), .inl 0, .inl u, .inl a, .inl a] [] t (sK 200 208 200 [.inr (.inr (12, (some 0))), .inl (io m), .inl (io b), .inl p, .inl u, .inl a, .inl y0, .inl y1, .inl (io q), .inl g, .inl h, .inl (io o), sJk, sJk, sJk] [] Q)) :
    X 208 188 [.inr (.inr (12, (some 0))), .inl (io m), .inl (io b), .inl p, .inl u, .inl a, .inl y0, .inl y1, .inl (io q), .inl g, .inl h, sJk, sJk, sJk, sJk] [.inl (io o)] t Q := by
  obtain ⟨hM, hc, hR⟩ := hV
  refine x_istore (pc' := 190) (ls' := [_, _, _, _, _, _, _, _, _, _, _, _, _, _, _]) rfl rfl rfl rfl ?_
  refine x_aload_n (pc' := 191) rfl rfl rfl rfl rfl ?_
  refine x_iload_n (pc' := 192) rfl rfl rfl ?_
  refine x_iload_n (pc' := 193) rfl rfl rfl ?_
  refine x_iconst (pc' := 194) rfl rfl ?_
  refine x_iload (pc' := 196) rfl rfl rfl ?_
  refine x_iload (pc' := 198) rfl rfl rfl ?_
  refine x_iload (pc' := 200) rfl rfl rfl ?_
  refine x_cv (ls0 := [_, _, _, _, _, _, _]) (rest := []) rfl rfl rfl rfl rfl ?_
  exact k0
set_option maxHeartbeats 4000000 in
set_option maxRecDepth 10000 in
theorem r208_2q {t : sT} {Q : sRs → sT → Prop} {M : sM} {n : Nat} {b : Nat} {m : Nat} {p : Int32} {u : Int32} {a : Int32} {o : Nat} {x : Nat} {q : Nat} {y0 : Int32} {y1 : Int32} {g : Int32} {h : Int32}
    (hV : Vr t M n)
    (hb : b < 5)
    (hm : m < 6)
    (ho : o < n)
    (hx : x < n)
    (hq1 : (q + 1) < n)
    (k0 : (io q) = (-1) → (nmF M n m) = false → X 208 258 [.inr (.inr (12, (some 0))), .inl (io m), .inl (io b), .inl p, .inl u, .inl a, .inl y0, .inl y1, .inl (io q), .inl g, .inl h, .inl (io o), .inl (io x), .inl (bz (nmF M n m)), .inl 0] [] t Q)
    (k1 : (io q) = (-1) → (nmF M n m) = true → Q (.inl (some (.inl (-1)))) (sIw t 786 0 ((io n) - 2)))
    (k2 : ¬ ((io q) = (-1)) → (nmF M n m) = false → X 208 258 [.inr (.inr (12, (some 0))), .inl (io m), .inl (io b), .inl p, .inl u, .inl a, .inl y0, .inl y1, .inl (io q), .inl g, .inl h, .inl (io o), .inl (io x), .inl (bz (nmF M n m)), .inl 0] [] (sAw (sAw t 21 19 q g) 21 19 (q + 1) h) Q)
    (k3 : ¬ ((io q) = (-1)) → (nmF M n m) = true → Q (.inl (some (.inl (-1)))) (sIw (sAw (sAw t 21 19 q g) 21 19 (q + 1) h) 786 0 ((io n) - 2))) :
    X 208 203 [.inr (.inr (12, (some 0))), .inl (io m), .inl (io b), .inl p, .inl u, .inl a, .inl y0, .inl y1, .inl (io q), .inl g, .inl h, .inl (io o), sJk, sJk, sJk] [.inl (io x)] t Q := by
  obtain ⟨hM, hc, hR⟩ := hV
  refine x_istore (pc' := 205) (ls' := [_, _, _, _, _, _, _, _, _, _, _, _, _, _, _]) rfl rfl rfl rfl ?_
  refine x_aload_n (pc' := 206) rfl rfl rfl rfl rfl ?_
  refine x_iload_n (pc' := 207) rfl rfl rfl ?_
  refine x_cv (ls0 := [_, _]) (rest := []) rfl rfl rfl rfl rfl ?_
  refine r202 hM hc (Fr.ri (Fr.refl _) hR) hm ?_
  refine sK_i (pc' := 210) rfl ?_
  refine x_istore (pc' := 212) (ls' := [_, _, _, _, _, _, _, _, _, _, _, _, _, _, _]) rfl rfl rfl rfl ?_
  refine x_iload (pc' := 214) rfl rfl rfl ?_
  refine x_iconst (pc' := 215) rfl rfl ?_
  refine x_icmp (a' := 238) (pc' := 218) (z := decide ((io q) = (-1))) rfl rfl rfl rfl (fun q1 => ?_) (fun q1 => ?_)
  · refine x_iload (pc' := 240) rfl rfl rfl ?_
    refine x_ifeq_z (a' := 255) (pc' := 243) (z := (nmF M n m)) rfl rfl rfl (fun q2 => ?_) (fun q2 => ?_)
    · refine x_iconst (pc' := 256) rfl rfl ?_
      refine x_istore (pc' := 258) (ls' := [_, _, _, _, _, _, _, _, _, _, _, _, _, _, _]) rfl rfl rfl rfl ?_
      exact k0 (of_decide_eq_true q1) q2
    · refine x_aload_n (pc' := 244) rfl rfl rfl rfl rfl ?_
      refine x_dup (pc' := 245) rfl rfl rfl ?_
      refine x_gI (pc' := 248) (x := (io n)) rfl rfl rfl (gFn hM (Fr.refl _) hR) ?_
      refine x_iconst (pc' := 249) rfl rfl ?_
      refine x_isub (pc' := 250) (z := ((io n) - 2)) rfl rfl rfl ?_
      refine x_pI (pc' := 253) rfl rfl rfl ?_
      refine x_iconst (pc' := 254) rfl rfl ?_
      refine x_reti rfl rfl ?_
      exact k1 (of_decide_eq_true q1) q2
  · refine x_aload_n (pc' := 219) rfl rfl rfl rfl rfl ?_
    refine x_gR (pc' := 222) (r := (some 19)) rfl rfl rfl (kR_795_0 hc) ?_
    refine x_iload (pc' := 224) rfl rfl rfl ?_
    refine x_iload (pc' := 226) rfl rfl rfl ?_
    refine x_iast (pc' := 227) (N := 200) (p := q) rfl rfl rfl (kN_21_19 hc) (io_in (p := q) (N := 200) (Nat.lt_of_lt_of_le (Nat.lt_of_succ_lt hq1) (gn200 hR)) (by decide)) (nn_io (p := q) (Nat.lt_trans (Nat.lt_of_lt_of_le (Nat.lt_of_succ_lt hq1) (gn200 hR)) (by decide))) ?_
    refine x_aload_n (pc' := 228) rfl rfl rfl rfl rfl ?_
    refine x_gR (pc' := 231) (r := (some 19)) rfl rfl rfl (Eq.trans (b := sR t 795 0) rfl (kR_795_0 hc)) ?_
    refine x_iload (pc' := 233) rfl rfl rfl ?_
    refine x_iconst (pc' := 234) rfl rfl ?_
    refine x_iadd (pc' := 235) (z := (io (q + 1))) rfl rfl (io_add q 1) ?_
    refine x_iload (pc' := 237) rfl rfl rfl ?_
    refine x_iast (pc' := 238) (N := 200) (p := (q + 1)) rfl rfl rfl (Eq.trans rdNA (kN_21_19 hc)) (io_in (p := (q + 1)) (N := 200) (Nat.lt_of_lt_of_le hq1 (gn200 hR)) (by decide)) (nn_io (p := (q + 1)) (Nat.lt_trans (Nat.lt_of_lt_of_le hq1 (gn200 hR)) (by decide))) ?_
    refine x_iload (pc' := 240) rfl rfl rfl ?_
    refine x_ifeq_z (a' := 255) (pc' := 243) (z := (nmF M n m)) rfl rfl rfl (fun q3 => ?_) (fun q3 => ?_)
    · refine x_iconst (pc' := 256) rfl rfl ?_
      refine x_istore (pc' := 258) (ls' := [_, _, _, _, _, _, _, _, _, _, _, _, _, _, _]) rfl rfl rfl rfl ?_
      exact k2 (of_decide_eq_false q1) q3
    · refine x_aload_n (pc' := 244) rfl rfl rfl rfl rfl ?_
      refine x_dup (pc' := 245) rfl rfl rfl ?_
      refine x_gI (pc' := 248) (x := (io n)) rfl rfl rfl (Eq.trans (b := sI t 786 0) rfl (gFn hM (Fr.refl _) hR)) ?_
      refine x_iconst (pc' := 249) rfl rfl ?_
      refine x_isub (pc' := 250) (z := ((io n) - 2)) rfl rfl rfl ?_
      refine x_pI (pc' := 253) rfl rfl rfl ?_
      refine x_iconst (pc' := 254) rfl rfl ?_
      refine x_reti rfl rfl ?_
      exact k3 (of_decide_eq_false q1) q3
set_option maxHeartbeats 4000000 in
set_option maxRecDepth 10000 in
theorem r208_3q {t : sT} {Q : sRs → sT → Prop} {M : sM} {n : Nat} {b : Nat} {m : Nat} {p : Int32} {u : Int32} {a : Int32} {o : Nat} {x : Nat} {q : Nat} {y0 : Int32} {y1 : Int32} {g : Int32} {h : Int32} {w : Bool}
    (hV : Vr t M n)
    (hb : b < 5)
    (hm : m < 6)
    (ho : o < n)
    (hx : x < n)
    (hq1 : (q + 1) < n)
    (k0 : (io q) = (-1) → w = false → X 208 258 [.inr (.inr (12, (some 0))), .inl (io m), .inl (io b), .inl p, .inl u, .inl a, .inl y0, .inl y1, .inl (io q), .inl g, .inl h, .inl (io o), .inl (io x), .inl (bz w), .inl 0] [] t Q)
    (k1 : (io q) = (-1) → w = true → Q (.inl (some (.inl (-1)))) (sIw t 786 0 ((io n) - 2)))
    (k2 : ¬ ((io q) = (-1)) → w = false → X 208 258 [.inr (.inr (12, (some 0))), .inl (io m), .inl (io b), .inl p, .inl u, .inl a, .inl y0, .inl y1, .inl (io q), .inl g, .inl h, .inl (io o), .inl (io x), .inl (bz w), .inl 0] [] (sAw (sAw t 21 19 q g) 21 19 (q + 1) h) Q)
    (k3 : ¬ ((io q) = (-1)) → w = true → Q (.inl (some (.inl (-1)))) (sIw (sAw (sAw t 21 19 q g) 21 19 (q + 1) h) 786 0 ((io n) - 2))) :
    X 208 210 [.inr (.inr (12, (some 0))), .inl (io m), .inl (io b), .inl p, .inl u, .inl a, .inl y0, .inl y1, .inl (io q), .inl g, .inl h, .inl (io o), .inl (io x), sJk, sJk] [.inl (bz w)] t Q := by
  obtain ⟨hM, hc, hR⟩ := hV
  refine x_istore (pc' := 212) (ls' := [_, _, _, _, _, _, _, _, _, _, _, _, _, _, _]) rfl rfl rfl rfl ?_
  refine x_iload (pc' := 214) rfl rfl rfl ?_
  refine x_iconst (pc' := 215) rfl rfl ?_
  refine x_icmp (a' := 238) (pc' := 218) (z := decide ((io q) = (-1))) rfl rfl rfl rfl (fun q1 => ?_) (fun q1 => ?_)
  · refine x_iload (pc' := 240) rfl rfl rfl ?_
    refine x_ifeq_z (a' := 255) (pc' := 243) (z := w) rfl rfl rfl (fun q2 => ?_) (fun q2 => ?_)
    · refine x_iconst (pc' := 256) rfl rfl ?_
      refine x_istore (pc' := 258) (ls' := [_, _, _, _, _, _, _, _, _, _, _, _, _, _, _]) rfl rfl rfl rfl ?_
      exact k0 (of_decide_eq_true q1) q2
    · refine x_aload_n (pc' := 244) rfl rfl rfl rfl rfl ?_
      refine x_dup (pc' := 245) rfl rfl rfl ?_
      refine x_gI (pc' := 248) (x := (io n)) rfl rfl rfl (gFn hM (Fr.refl _) hR) ?_
      refine x_iconst (pc' := 249) rfl rfl ?_
      refine x_isub (pc' := 250) (z := ((io n) - 2)) rfl rfl rfl ?_
      refine x_pI (pc' := 253) rfl rfl rfl ?_
      refine x_iconst (pc' := 254) rfl rfl ?_
      refine x_reti rfl rfl ?_
      exact k1 (of_decide_eq_true q1) q2
  · refine x_aload_n (pc' := 219) rfl rfl rfl rfl rfl ?_
    refine x_gR (pc' := 222) (r := (some 19)) rfl rfl rfl (kR_795_0 hc) ?_
    refine x_iload (pc' := 224) rfl rfl rfl ?_
    refine x_iload (pc' := 226) rfl rfl rfl ?_
    refine x_iast (pc' := 227) (N := 200) (p := q) rfl rfl rfl (kN_21_19 hc) (io_in (p := q) (N := 200) (Nat.lt_of_lt_of_le (Nat.lt_of_succ_lt hq1) (gn200 hR)) (by decide)) (nn_io (p := q) (Nat.lt_trans (Nat.lt_of_lt_of_le (Nat.lt_of_succ_lt hq1) (gn200 hR)) (by decide))) ?_
    refine x_aload_n (pc' := 228) rfl rfl rfl rfl rfl ?_
    refine x_gR (pc' := 231) (r := (some 19)) rfl rfl rfl (Eq.trans (b := sR t 795 0) rfl (kR_795_0 hc)) ?_
    refine x_iload (pc' := 233) rfl rfl rfl ?_
    refine x_iconst (pc' := 234) rfl rfl ?_
    refine x_iadd (pc' := 235) (z := (io (q + 1))) rfl rfl (io_add q 1) ?_
    refine x_iload (pc' := 237) rfl rfl rfl ?_
    refine x_iast (pc' := 238) (N := 200) (p := (q + 1)) rfl rfl rfl (Eq.trans rdNA (kN_21_19 hc)) (io_in (p := (q + 1)) (N := 200) (Nat.lt_of_lt_of_le hq1 (gn200 hR)) (by decide)) (nn_io (p := (q + 1)) (Nat.lt_trans (Nat.lt_of_lt_of_le hq1 (gn200 hR)) (by decide))) ?_
    refine x_iload (pc' := 240) rfl rfl rfl ?_
    refine x_ifeq_z (a' := 255) (pc' := 243) (z := w) rfl rfl rfl (fun q3 => ?_) (fun q3 => ?_)
    · refine x_iconst (pc' := 256) rfl rfl ?_
      refine x_istore (pc' := 258) (ls' := [_, _, _, _, _, _, _, _, _, _, _, _, _, _, _]) rfl rfl rfl rfl ?_
      exact k2 (of_decide_eq_false q1) q3
    · refine x_aload_n (pc' := 244) rfl rfl rfl rfl rfl ?_
      refine x_dup (pc' := 245) rfl rfl rfl ?_
      refine x_gI (pc' := 248) (x := (io n)) rfl rfl rfl (Eq.trans (b := sI t 786 0) rfl (gFn hM (Fr.refl _) hR)) ?_
      refine x_iconst (pc' := 249) rfl rfl ?_
      refine x_isub (pc' := 250) (z := ((io n) - 2)) rfl rfl rfl ?_
      refine x_pI (pc' := 253) rfl rfl rfl ?_
      refine x_iconst (pc' := 254) rfl rfl ?_
      refine x_reti rfl rfl ?_
      exact k3 (of_decide_eq_false q1) q3
set_option maxHeartbeats 4000000 in
set_option maxRecDepth 10000 in
theorem r208_4q {t : sT} {Q : sRs → sT → Prop} {M : sM} {n : Nat} {b : Nat} {m : Nat} {p : Int32} {u : Int32} {a : Int32} {o : Nat} {x : Nat} {q : Nat} {y0 : Int32} {y1 : Int32} {g : Int32} {h : Int32} {w : Bool}
    (hV : Vr t M n)
    (hb : b < 5)
    (hm : m < 6)
    (ho : o < n)
    (hx : x < n)
    (hq1 : (q + 1) < n)
    (g0 : (q + 0) < n)
    (k0 : (io q) = (-1) → X 179 0 [.inr (.inr (12, (some 0))), sJk] [] t (sK 179 208 298 [.inr (.inr (12, (some 0))), .inl (io m), .inl (io b), .inl p, .inl u, .inl a, .inl y0, .inl y1, .inl (io q), .inl g, .inl h, .inl (io o), .inl (io x), .inl (bz w), .inl 0] [] Q))
    (k1 : ¬ ((io q) = (-1)) → (mA M 19 (q + 0)) = 0 → X 156 0 [.inr (.inr (12, (some 0))), .inl (io (q + 0))] [] t (sK 156 208 288 [.inr (.inr (12, (some 0))), .inl (io m), .inl (io b), .inl p, .inl u, .inl a, .inl y0, .inl y1, .inl (io q), .inl g, .inl h, .inl (io o), .inl (io x), .inl (bz w), .inl 0] [] Q))
    (k2 : ¬ ((io q) = (-1)) → ¬ ((mA M 19 (q + 0)) = 0) → ¬ ((mA M 19 (q + 0)) = 1) → (mA M 19 (q + 1)) = 0 → X 156 0 [.inr (.inr (12, (some 0))), .inl (io (q + 1))] [] t (sK 156 208 288 [.inr (.inr (12, (some 0))), .inl (io m), .inl (io b), .inl p, .inl u, .inl a, .inl y0, .inl y1, .inl (io q), .inl g, .inl h, .inl (io o), .inl (io x), .inl (bz w), .inl 1] [] Q))
    (k3 : ¬ ((io q) = (-1)) → ¬ ((mA M 19 (q + 0)) = 0) → ¬ ((mA M 19 (q + 0)) = 1) → ¬ ((mA M 19 (q + 1)) = 0) → ¬ ((mA M 19 (q + 1)) = 1) → X 179 0 [.inr (.inr (12, (some 0))), sJk] [] t (sK 179 208 298 [.inr (.inr (12, (some 0))), .inl (io m), .inl (io b), .inl p, .inl u, .inl a, .inl y0, .inl y1, .inl (io q), .inl g, .inl h, .inl (io o), .inl (io x), .inl (bz w), .inl 2] [] Q))
    (k4 : ¬ ((io q) = (-1)) → ¬ ((mA M 19 (q + 0)) = 0) → ¬ ((mA M 19 (q + 0)) = 1) → ¬ ((mA M 19 (q + 1)) = 0) → (mA M 19 (q + 1)) = 1 → X 156 0 [.inr (.inr (12, (some 0))), .inl (io (q + 1))] [] t (sK 156 208 288 [.inr (.inr (12, (some 0))), .inl (io m), .inl (io b), .inl p, .inl u, .inl a, .inl y0, .inl y1, .inl (io q), .inl g, .inl h, .inl (io o), .inl (io x), .inl (bz w), .inl 1] [] Q))
    (k5 : ¬ ((io q) = (-1)) → ¬ ((mA M 19 (q + 0)) = 0) → (mA M 19 (q + 0)) = 1 → X 156 0 [.inr (.inr (12, (some 0))), .inl (io (q + 0))] [] t (sK 156 208 288 [.inr (.inr (12, (some 0))), .inl (io m), .inl (io b), .inl p, .inl u, .inl a, .inl y0, .inl y1, .inl (io q), .inl g, .inl h, .inl (io o), .inl (io x), .inl (bz w), .inl 0] [] Q)) :
    X 208 258 [.inr (.inr (12, (some 0))), .inl (io m), .inl (io b), .inl p, .inl u, .inl a, .inl y0, .inl y1, .inl (io q), .inl g, .inl h, .inl (io o), .inl (io x), .inl (bz w), .inl 0] [] t Q := by
  obtain ⟨hM, hc, hR⟩ := hV
  refine x_iload (pc' := 260) rfl rfl rfl ?_
  refine x_iconst (pc' := 261) rfl rfl ?_
  refine x_icmp (a' := 297) (pc' := 264) (z := false) rfl rfl rfl (by decide) (fun h => by cases h) (fun _ => ?_)
  refine x_iload (pc' := 266) rfl rfl rfl ?_
  refine x_iconst (pc' := 267) rfl rfl ?_
  refine x_icmp (a' := 297) (pc' := 270) (z := decide ((io q) = (-1))) rfl rfl rfl rfl (fun q2 => ?_) (fun q2 => ?_)
  · refine x_aload_n (pc' := 298) rfl rfl rfl rfl rfl ?_
    refine x_cv (ls0 := [_, sJk]) (rest := []) rfl rfl rfl rfl rfl ?_
    exact k0 (of_decide_eq_true q2)
  · refine x_aload_n (pc' := 271) rfl rfl rfl rfl rfl ?_
    refine x_iload (pc' := 273) rfl rfl rfl ?_
    refine x_iload (pc' := 275) rfl rfl rfl ?_
    refine x_iadd (pc' := 276) (z := (io (q + 0))) rfl rfl (io_add q 0) ?_
    refine x_cv (ls0 := [_, _]) (rest := []) rfl rfl rfl rfl rfl ?_
    refine x_aload_n (pc' := 1) rfl rfl rfl rfl rfl ?_
    refine x_gR (pc' := 4) (r := (some 19)) rfl rfl rfl (kR_795_0 hc) ?_
    refine x_iload_n (pc' := 5) rfl rfl rfl ?_
    refine x_iald (pc' := 6) (N := 200) (x := (mA M 19 (q + 0))) rfl rfl rfl (kN_21_19 hc) (io_in (p := (q + 0)) (N := 200) (Nat.lt_of_lt_of_le g0 (gn200 hR)) (by decide)) (Eq.trans (congrArg (sA t 21 19) (nn_io (p := (q + 0)) (Nat.lt_trans (Nat.lt_of_lt_of_le g0 (gn200 hR)) (by decide)))) (gA hM rfl)) ?_
    refine x_if (a' := 19) (pc' := 9) (z := decide ((mA M 19 (q + 0)) = 0)) rfl rfl rfl rfl (fun q3 => ?_) (fun q3 => ?_)
    · refine x_iconst (pc' := 20) rfl rfl ?_
      refine x_goto (pc' := 24) rfl rfl ?_
      refine x_retz (z := true) rfl rfl ?_
      refine sK_i (pc' := 279) rfl ?_
      refine x_if (a' := 291) (pc' := 282) (z := false) rfl rfl rfl (by decide) (fun h => by cases h) (fun _ => ?_)
      refine x_aload_n (pc' := 283) rfl rfl rfl rfl rfl ?_
      refine x_iload (pc' := 285) rfl rfl rfl ?_
      refine x_iload (pc' := 287) rfl rfl rfl ?_
      refine x_iadd (pc' := 288) (z := (io (q + 0))) rfl rfl (io_add q 0) ?_
      refine x_cv (ls0 := [_, _]) (rest := []) rfl rfl rfl rfl rfl ?_
      exact k1 (of_decide_eq_false q2) (of_decide_eq_true q3)
    · refine x_aload_n (pc' := 10) rfl rfl rfl rfl rfl ?_
      refine x_gR (pc' := 13) (r := (some 19)) rfl rfl rfl (kR_795_0 hc) ?_
      refine x_iload_n (pc' := 14) rfl rfl rfl ?_
      refine x_iald (pc' := 15) (N := 200) (x := (mA M 19 (q + 0))) rfl rfl rfl (kN_21_19 hc) (io_in (p := (q + 0)) (N := 200) (Nat.lt_of_lt_of_le g0 (gn200 hR)) (by decide)) (Eq.trans (congrArg (sA t 21 19) (nn_io (p := (q + 0)) (Nat.lt_trans (Nat.lt_of_lt_of_le g0 (gn200 hR)) (by decide)))) (gA hM rfl)) ?_
      refine x_iconst (pc' := 16) rfl rfl ?_
      refine x_icmp_n (a' := 23) (pc' := 19) (z := decide ((mA M 19 (q + 0)) = 1)) rfl rfl rfl (ik_ne _ _) (fun q5 => ?_) (fun q5 => ?_)
      · refine x_iconst (pc' := 24) rfl rfl ?_
        refine x_retz (z := false) rfl rfl ?_
        refine sK_i (pc' := 279) rfl ?_
        refine x_if (a' := 291) (pc' := 282) (z := true) rfl rfl rfl (by decide) (fun _ => ?_) (fun h => by cases h)
        refine x_iinc (pc' := 294) (y := 1) (ls' := [_, _, _, _, _, _, _, _, _, _, _, _, _, _, _]) rfl rfl rfl rfl rfl ?_
        refine x_goto (pc' := 258) rfl rfl ?_
        refine x_iload (pc' := 260) rfl rfl rfl ?_
        refine x_iconst (pc' := 261) rfl rfl ?_
        refine x_icmp (a' := 297) (pc' := 264) (z := false) rfl rfl rfl (by decide) (fun h => by cases h) (fun _ => ?_)
        refine x_iload (pc' := 266) rfl rfl rfl ?_
        refine x_iconst (pc' := 267) rfl rfl ?_
        refine x_icmp (a' := 297) (pc' := 270) (z := decide ((io q) = (-1))) rfl rfl rfl rfl (fun h => absurd (of_decide_eq_true h) (of_decide_eq_false q2)) (fun _ => ?_)
        refine x_aload_n (pc' := 271) rfl rfl rfl rfl rfl ?_
        refine x_iload (pc' := 273) rfl rfl rfl ?_
        refine x_iload (pc' := 275) rfl rfl rfl ?_
        refine x_iadd (pc' := 276) (z := (io (q + 1))) rfl rfl (io_add q 1) ?_
        refine x_cv (ls0 := [_, _]) (rest := []) rfl rfl rfl rfl rfl ?_
        refine x_aload_n (pc' := 1) rfl rfl rfl rfl rfl ?_
        refine x_gR (pc' := 4) (r := (some 19)) rfl rfl rfl (kR_795_0 hc) ?_
        refine x_iload_n (pc' := 5) rfl rfl rfl ?_
        refine x_iald (pc' := 6) (N := 200) (x := (mA M 19 (q + 1))) rfl rfl rfl (kN_21_19 hc) (io_in (p := (q + 1)) (N := 200) (Nat.lt_of_lt_of_le hq1 (gn200 hR)) (by decide)) (Eq.trans (congrArg (sA t 21 19) (nn_io (p := (q + 1)) (Nat.lt_trans (Nat.lt_of_lt_of_le hq1 (gn200 hR)) (by decide)))) (gA hM rfl)) ?_
        refine x_if (a' := 19) (pc' := 9) (z := decide ((mA M 19 (q + 1)) = 0)) rfl rfl rfl rfl (fun q9 => ?_) (fun q9 => ?_)
        · refine x_iconst (pc' := 20) rfl rfl ?_
          refine x_goto (pc' := 24) rfl rfl ?_
          refine x_retz (z := true) rfl rfl ?_
          refine sK_i (pc' := 279) rfl ?_
          refine x_if (a' := 291) (pc' := 282) (z := false) rfl rfl rfl (by decide) (fun h => by cases h) (fun _ => ?_)
          refine x_aload_n (pc' := 283) rfl rfl rfl rfl rfl ?_
          refine x_iload (pc' := 285) rfl rfl rfl ?_
          refine x_iload (pc' := 287) rfl rfl rfl ?_
          refine x_iadd (pc' := 288) (z := (io (q + 1))) rfl rfl (io_add q 1) ?_
          refine x_cv (ls0 := [_, _]) (rest := []) rfl rfl rfl rfl rfl ?_
          exact k2 (of_decide_eq_false q2) (of_decide_eq_false q3) (of_decide_eq_false q5) (of_decide_eq_true q9)
        · refine x_aload_n (pc' := 10) rfl rfl rfl rfl rfl ?_
          refine x_gR (pc' := 13) (r := (some 19)) rfl rfl rfl (kR_795_0 hc) ?_
          refine x_iload_n (pc' := 14) rfl rfl rfl ?_
          refine x_iald (pc' := 15) (N := 200) (x := (mA M 19 (q + 1))) rfl rfl rfl (kN_21_19 hc) (io_in (p := (q + 1)) (N := 200) (Nat.lt_of_lt_of_le hq1 (gn200 hR)) (by decide)) (Eq.trans (congrArg (sA t 21 19) (nn_io (p := (q + 1)) (Nat.lt_trans (Nat.lt_of_lt_of_le hq1 (gn200 hR)) (by decide)))) (gA hM rfl)) ?_
          refine x_iconst (pc' := 16) rfl rfl ?_
          refine x_icmp_n (a' := 23) (pc' := 19) (z := decide ((mA M 19 (q + 1)) = 1)) rfl rfl rfl (ik_ne _ _) (fun q11 => ?_) (fun q11 => ?_)
          · refine x_iconst (pc' := 24) rfl rfl ?_
            refine x_retz (z := false) rfl rfl ?_
            refine sK_i (pc' := 279) rfl ?_
            refine x_if (a' := 291) (pc' := 282) (z := true) rfl rfl rfl (by decide) (fun _ => ?_) (fun h => by cases h)
            refine x_iinc (pc' := 294) (y := 2) (ls' := [_, _, _, _, _, _, _, _, _, _, _, _, _, _, _]) rfl rfl rfl rfl rfl ?_
            refine x_goto (pc' := 258) rfl rfl ?_
            refine x_iload (pc' := 260) rfl rfl rfl ?_
            refine x_iconst (pc' := 261) rfl rfl ?_
            refine x_icmp (a' := 297) (pc' := 264) (z := true) rfl rfl rfl (by decide) (fun _ => ?_) (fun h => by cases h)
            refine x_aload_n (pc' := 298) rfl rfl rfl rfl rfl ?_
            refine x_cv (ls0 := [_, sJk]) (rest := []) rfl rfl rfl rfl rfl ?_
            exact k3 (of_decide_eq_false q2) (of_decide_eq_false q3) (of_decide_eq_false q5) (of_decide_eq_false q9) (of_decide_eq_false q11)
          · refine x_iconst (pc' := 20) rfl rfl ?_
            refine x_goto (pc' := 24) rfl rfl ?_
            refine x_retz (z := true) rfl rfl ?_
            refine sK_i (pc' := 279) rfl ?_
            refine x_if (a' := 291) (pc' := 282) (z := false) rfl rfl rfl (by decide) (fun h => by cases h) (fun _ => ?_)
            refine x_aload_n (pc' := 283) rfl rfl rfl rfl rfl ?_
            refine x_iload (pc' := 285) rfl rfl rfl ?_
            refine x_iload (pc' := 287) rfl rfl rfl ?_
            refine x_iadd (pc' := 288) (z := (io (q + 1))) rfl rfl (io_add q 1) ?_
            refine x_cv (ls0 := [_, _]) (rest := []) rfl rfl rfl rfl rfl ?_
            exact k4 (of_decide_eq_false q2) (of_decide_eq_false q3) (of_decide_eq_false q5) (of_decide_eq_false q9) (of_decide_eq_true q11)
      · refine x_iconst (pc' := 20) rfl rfl ?_
        refine x_goto (pc' := 24) rfl rfl ?_
        refine x_retz (z := true) rfl rfl ?_
        refine sK_i (pc' := 279) rfl ?_
        refine x_if (a' := 291) (pc' := 282) (z := false) rfl rfl rfl (by decide) (fun h => by cases h) (fun _ => ?_)
        refine x_aload_n (pc' := 283) rfl rfl rfl rfl rfl ?_
        refine x_iload (pc' := 285) rfl rfl rfl ?_
        refine x_iload (pc' := 287) rfl rfl rfl ?_
        refine x_iadd (pc' := 288) (z := (io (q + 0))) rfl rfl (io_add q 0) ?_
        refine x_cv (ls0 := [_, _]) (rest := []) rfl rfl rfl rfl rfl ?_
        exact k5 (of_decide_eq_false q2) (of_decide_eq_false q3) (of_decide_eq_true q5)
set_option maxHeartbeats 4000000 in
set_option maxRecDepth 10000 in
theorem r208_5 {t : sT} {Q : sRs → sT → Prop} {M : sM} {n : Nat} {b : Nat} {m : Nat} {p : Int32} {u : Int32} {a : Int32} {o : Nat} {x : Nat} {q : Nat} {y0 : Int32} {y1 : Int32} {g : Int32} {h : Int32} {w : Bool}
    (hV : Vr t M n)
    (hb : b < 5)
    (hm : m < 6)
    (ho : o < n)
    (hx : x < n)
    (hq1 : (q + 1) < n)
    (k0 : (io q) = (-1) → X 179 0 [.inr (.inr (12, (some 0))), sJk] [] t (sK 179 208 298 [.inr (.inr (12, (some 0))), .inl (io m), .inl (io b), .inl p, .inl u, .inl a, .inl y0, .inl y1, .inl (io q), .inl g, .inl h, .inl (io o), .inl (io x), .inl (bz w), .inl 1] [] Q))
    (k1 : ¬ ((io q) = (-1)) → (mA M 19 (q + 1)) = 0 → X 156 0 [.inr (.inr (12, (some 0))), .inl (io (q + 1))] [] t (sK 156 208 288 [.inr (.inr (12, (some 0))), .inl (io m), .inl (io b), .inl p, .inl u, .inl a, .inl y0, .inl y1, .inl (io q), .inl g, .inl h, .inl (io o), .inl (io x), .inl (bz w), .inl 1] [] Q))
    (k2 : ¬ ((io q) = (-1)) → ¬ ((mA M 19 (q + 1)) = 0) → ¬ ((mA M 19 (q + 1)) = 1) → X 179 0 [.inr (.inr (12, (some 0))), sJk] [] t (sK 179 208 298 [.inr (.inr (12, (some 0))), .inl (io m), .inl (io b), .inl p, .inl u, .inl a, .inl y0, .inl y1, .inl (io q), .inl g, .inl h, .inl (io o), .inl (io x), .inl (bz w), .inl 2] [] Q))
    (k3 : ¬ ((io q) = (-1)) → ¬ ((mA M 19 (q + 1)) = 0) → (mA M 19 (q + 1)) = 1 → X 156 0 [.inr (.inr (12, (some 0))), .inl (io (q + 1))] [] t (sK 156 208 288 [.inr (.inr (12, (some 0))), .inl (io m), .inl (io b), .inl p, .inl u, .inl a, .inl y0, .inl y1, .inl (io q), .inl g, .inl h, .inl (io o), .inl (io x), .inl (bz w), .inl 1] [] Q)) :
    X 208 291 [.inr (.inr (12, (some 0))), .inl (io m), .inl (io b), .inl p, .inl u, .inl a, .inl y0, .inl y1, .inl (io q), .inl g, .inl h, .inl (io o), .inl (io x), .inl (bz w), .inl 0] [] t Q := by
  obtain ⟨hM, hc, hR⟩ := hV
  refine x_iinc (pc' := 294) (y := 1) (ls' := [_, _, _, _, _, _, _, _, _, _, _, _, _, _, _]) rfl rfl rfl rfl rfl ?_
  refine x_goto (pc' := 258) rfl rfl ?_
  refine x_iload (pc' := 260) rfl rfl rfl ?_
  refine x_iconst (pc' := 261) rfl rfl ?_
  refine x_icmp (a' := 297) (pc' := 264) (z := false) rfl rfl rfl (by decide) (fun h => by cases h) (fun _ => ?_)
  refine x_iload (pc' := 266) rfl rfl rfl ?_
  refine x_iconst (pc' := 267) rfl rfl ?_
  refine x_icmp (a' := 297) (pc' := 270) (z := decide ((io q) = (-1))) rfl rfl rfl rfl (fun q2 => ?_) (fun q2 => ?_)
  · refine x_aload_n (pc' := 298) rfl rfl rfl rfl rfl ?_
    refine x_cv (ls0 := [_, sJk]) (rest := []) rfl rfl rfl rfl rfl ?_
    exact k0 (of_decide_eq_true q2)
  · refine x_aload_n (pc' := 271) rfl rfl rfl rfl rfl ?_
    refine x_iload (pc' := 273) rfl rfl rfl ?_
    refine x_iload (pc' := 275) rfl rfl rfl ?_
    refine x_iadd (pc' := 276) (z := (io (q + 1))) rfl rfl (io_add q 1) ?_
    refine x_cv (ls0 := [_, _]) (rest := []) rfl rfl rfl rfl rfl ?_
    refine x_aload_n (pc' := 1) rfl rfl rfl rfl rfl ?_
    refine x_gR (pc' := 4) (r := (some 19)) rfl rfl rfl (kR_795_0 hc) ?_
    refine x_iload_n (pc' := 5) rfl rfl rfl ?_
    refine x_iald (pc' := 6) (N := 200) (x := (mA M 19 (q + 1))) rfl rfl rfl (kN_21_19 hc) (io_in (p := (q + 1)) (N := 200) (Nat.lt_of_lt_of_le hq1 (gn200 hR)) (by decide)) (Eq.trans (congrArg (sA t 21 19) (nn_io (p := (q + 1)) (Nat.lt_trans (Nat.lt_of_lt_of_le hq1 (gn200 hR)) (by decide)))) (gA hM rfl)) ?_
    refine x_if (a' := 19) (pc' := 9) (z := decide ((mA M 19 (q + 1)) = 0)) rfl rfl rfl rfl (fun q3 => ?_) (fun q3 => ?_)
    · refine x_iconst (pc' := 20) rfl rfl ?_
      refine x_goto (pc' := 24) rfl rfl ?_
      refine x_retz (z := true) rfl rfl ?_
      refine sK_i (pc' := 279) rfl ?_
      refine x_if (a' := 291) (pc' := 282) (z := false) rfl rfl rfl (by decide) (fun h => by cases h) (fun _ => ?_)
      refine x_aload_n (pc' := 283) rfl rfl rfl rfl rfl ?_
      refine x_iload (pc' := 285) rfl rfl rfl ?_
      refine x_iload (pc' := 287) rfl rfl rfl ?_
      refine x_iadd (pc' := 288) (z := (io (q + 1))) rfl rfl (io_add q 1) ?_
      refine x_cv (ls0 := [_, _]) (rest := []) rfl rfl rfl rfl rfl ?_
      exact k1 (of_decide_eq_false q2) (of_decide_eq_true q3)
    · refine x_aload_n (pc' := 10) rfl rfl rfl rfl rfl ?_
      refine x_gR (pc' := 13) (r := (some 19)) rfl rfl rfl (kR_795_0 hc) ?_
      refine x_iload_n (pc' := 14) rfl rfl rfl ?_
      refine x_iald (pc' := 15) (N := 200) (x := (mA M 19 (q + 1))) rfl rfl rfl (kN_21_19 hc) (io_in (p := (q + 1)) (N := 200) (Nat.lt_of_lt_of_le hq1 (gn200 hR)) (by decide)) (Eq.trans (congrArg (sA t 21 19) (nn_io (p := (q + 1)) (Nat.lt_trans (Nat.lt_of_lt_of_le hq1 (gn200 hR)) (by decide)))) (gA hM rfl)) ?_
      refine x_iconst (pc' := 16) rfl rfl ?_
      refine x_icmp_n (a' := 23) (pc' := 19) (z := decide ((mA M 19 (q + 1)) = 1)) rfl rfl rfl (ik_ne _ _) (fun q5 => ?_) (fun q5 => ?_)
      · refine x_iconst (pc' := 24) rfl rfl ?_
        refine x_retz (z := false) rfl rfl ?_
        refine sK_i (pc' := 279) rfl ?_
        refine x_if (a' := 291) (pc' := 282) (z := true) rfl rfl rfl (by decide) (fun _ => ?_) (fun h => by cases h)
        refine x_iinc (pc' := 294) (y := 2) (ls' := [_, _, _, _, _, _, _, _, _, _, _, _, _, _, _]) rfl rfl rfl rfl rfl ?_
        refine x_goto (pc' := 258) rfl rfl ?_
        refine x_iload (pc' := 260) rfl rfl rfl ?_
        refine x_iconst (pc' := 261) rfl rfl ?_
        refine x_icmp (a' := 297) (pc' := 264) (z := true) rfl rfl rfl (by decide) (fun _ => ?_) (fun h => by cases h)
        refine x_aload_n (pc' := 298) rfl rfl rfl rfl rfl ?_
        refine x_cv (ls0 := [_, sJk]) (rest := []) rfl rfl rfl rfl rfl ?_
        exact k2 (of_decide_eq_false q2) (of_decide_eq_false q3) (of_decide_eq_false q5)
      · refine x_iconst (pc' := 20) rfl rfl ?_
        refine x_goto (pc' := 24) rfl rfl ?_
        refine x_retz (z := true) rfl rfl ?_
        refine sK_i (pc' := 279) rfl ?_
        refine x_if (a' := 291) (pc' := 282) (z := false) rfl rfl rfl (by decide) (fun h => by cases h) (fun _ => ?_)
        refine x_aload_n (pc' := 283) rfl rfl rfl rfl rfl ?_
        refine x_iload (pc' := 285) rfl rfl rfl ?_
        refine x_iload (pc' := 287) rfl rfl rfl ?_
        refine x_iadd (pc' := 288) (z := (io (q + 1))) rfl rfl (io_add q 1) ?_
        refine x_cv (ls0 := [_, _]) (rest := []) rfl rfl rfl rfl rfl ?_
        exact k3 (of_decide_eq_false q2) (of_decide_eq_false q3) (of_decide_eq_true q5)
set_option maxHeartbeats 4000000 in
set_option maxRecDepth 10000 in
theorem r208_6 {t : sT} {Q : sRs → sT → Prop} {M : sM} {n : Nat} {b : Nat} {m : Nat} {p : Int32} {u : Int32} {a : Int32} {o : Nat} {x : Nat} {q : Nat} {y0 : Int32} {y1 : Int32} {g : Int32} {h : Int32} {w : Bool}
    (hV : Vr t M n)
    (hb : b < 5)
    (hm : m < 6)
    (ho : o < n)
    (hx : x < n)
    (hq1 : (q + 1) < n)
    (k0 : X 179 0 [.inr (.inr (12, (some 0))), sJk] [] t (sK 179 208 298 [.inr (.inr (12, (some 0))), .inl (io m), .inl (io b), .inl p, .inl u, .inl a, .inl y0, .inl y1, .inl (io q), .inl g, .inl h, .inl (io o), .inl (io x), .inl (bz w), .inl 2] [] Q)) :
    X 208 291 [.inr (.inr (12, (some 0))), .inl (io m), .inl (io b), .inl p, .inl u, .inl a, .inl y0, .inl y1, .inl (io q), .inl g, .inl h, .inl (io o), .inl (io x), .inl (bz w), .inl 1] [] t Q := by
  obtain ⟨hM, hc, hR⟩ := hV
  refine x_iinc (pc' := 294) (y := 2) (ls' := [_, _, _, _, _, _, _, _, _, _, _, _, _, _, _]) rfl rfl rfl rfl rfl ?_
  refine x_goto (pc' := 258) rfl rfl ?_
  refine x_iload (pc' := 260) rfl rfl rfl ?_
  refine x_iconst (pc' := 261) rfl rfl ?_
  refine x_icmp (a' := 297) (pc' := 264) (z := true) rfl rfl rfl (by decide) (fun _ => ?_) (fun h => by cases h)
  refine x_aload_n (pc' := 298) rfl rfl rfl rfl rfl ?_
  refine x_cv (ls0 := [_, sJk]) (rest := []) rfl rfl rfl rfl rfl ?_
  exact k0
set_option maxHeartbeats 4000000 in
set_option maxRecDepth 10000 in
theorem r208_7 {t : sT} {Q : sRs → sT → Prop} {M : sM} {n : Nat} {b : Nat} {m : Nat} {p : Int32} {u : Int32} {a : Int32} {o : Nat} {x : Nat} {y0 : sV} {y1 : sV} {y2 : sV} {y3 : sV} {y4 : sV} {y5 : sV} {y6 : sV}
    (hV : Vr t M n)
    (hb : b < 5)
    (hm : m < 6)
    (ho : o < n)
    (hx : x < n)
    (g0 : ((5 * m) + b) < 30)
    (k0 : X 176 0 [.inr (.inr (12, (some 0))), .inl (io o), sJk] [] (sBw (sBw (sAw (sAw (sAw t 21 10 ((5 * m) + b) (io o)) 21 19 o 4) 21 19 x 4) 22 4 o true) 22 4 x true) (sK 176 208 348 [.inr (.inr (12, (some 0))), .inl (io m), .inl (io b), .inl p, .inl u, .inl a, y0, y1, y2, y3, y4, .inl (io o), .inl (io x), y5, y6] [] Q)) :
    X 208 301 [.inr (.inr (12, (some 0))), .inl (io m), .inl (io b), .inl p, .inl u, .inl a, y0, y1, y2, y3, y4, .inl (io o), .inl (io x), y5, y6] [] t Q := by
  obtain ⟨hM, hc, hR⟩ := hV
  refine x_aload_n (pc' := 302) rfl rfl rfl rfl rfl ?_
  refine x_gR (pc' := 305) (r := (some 10)) rfl rfl rfl (kR_782_0 hc) ?_
  refine x_iconst (pc' := 306) rfl rfl ?_
  refine x_iload_n (pc' := 307) rfl rfl rfl ?_
  refine x_imul (pc' := 308) (z := (io (5 * m))) rfl rfl (io_mul 5 m) ?_
  refine x_iload_n (pc' := 309) rfl rfl rfl ?_
  refine x_iadd (pc' := 310) (z := (io ((5 * m) + b))) rfl rfl (io_add (5 * m) b) ?_
  refine x_iload (pc' := 312) rfl rfl rfl ?_
  refine x_iast (pc' := 313) (N := 30) (p := ((5 * m) + b)) rfl rfl rfl (kN_21_10 hc) (io_in (p := ((5 * m) + b)) (N := 30) g0 (by decide)) (nn_io (p := ((5 * m) + b)) (Nat.lt_trans g0 (by decide))) ?_
  refine x_aload_n (pc' := 314) rfl rfl rfl rfl rfl ?_
  refine x_gR (pc' := 317) (r := (some 19)) rfl rfl rfl (Eq.trans (b := sR t 795 0) rfl (kR_795_0 hc)) ?_
  refine x_iload (pc' := 319) rfl rfl rfl ?_
  refine x_iconst (pc' := 320) rfl rfl ?_
  refine x_iast (pc' := 321) (N := 200) (p := o) rfl rfl rfl (Eq.trans rdNA (kN_21_19 hc)) (io_in (p := o) (N := 200) (Nat.lt_of_lt_of_le ho (gn200 hR)) (by decide)) (nn_io (p := o) (Nat.lt_trans (Nat.lt_of_lt_of_le ho (gn200 hR)) (by decide))) ?_
  refine x_aload_n (pc' := 322) rfl rfl rfl rfl rfl ?_
  refine x_gR (pc' := 325) (r := (some 19)) rfl rfl rfl (Eq.trans (b := sR t 795 0) rfl (kR_795_0 hc)) ?_
  refine x_iload (pc' := 327) rfl rfl rfl ?_
  refine x_iconst (pc' := 328) rfl rfl ?_
  refine x_iast (pc' := 329) (N := 200) (p := x) rfl rfl rfl (Eq.trans rdNA (Eq.trans rdNA (kN_21_19 hc))) (io_in (p := x) (N := 200) (Nat.lt_of_lt_of_le hx (gn200 hR)) (by decide)) (nn_io (p := x) (Nat.lt_trans (Nat.lt_of_lt_of_le hx (gn200 hR)) (by decide))) ?_
  refine x_aload_n (pc' := 330) rfl rfl rfl rfl rfl ?_
  refine x_gR (pc' := 333) (r := (some 4)) rfl rfl rfl (Eq.trans (b := sR t 796 0) rfl (kR_796_0 hc)) ?_
  refine x_iload (pc' := 335) rfl rfl rfl ?_
  refine x_iconst (pc' := 336) rfl rfl ?_
  refine x_bast (pc' := 337) (N := 200) (p := o) (z := true) rfl rfl (Eq.trans rdNA (Eq.trans rdNA (Eq.trans rdNA (kN_22_4 hc)))) (io_in (p := o) (N := 200) (Nat.lt_of_lt_of_le ho (gn200 hR)) (by decide)) (nn_io (p := o) (Nat.lt_trans (Nat.lt_of_lt_of_le ho (gn200 hR)) (by decide))) rfl ?_
  refine x_aload_n (pc' := 338) rfl rfl rfl rfl rfl ?_
  refine x_gR (pc' := 341) (r := (some 4)) rfl rfl rfl (Eq.trans (b := sR t 796 0) rfl (kR_796_0 hc)) ?_
  refine x_iload (pc' := 343) rfl rfl rfl ?_
  refine x_iconst (pc' := 344) rfl rfl ?_
  refine x_bast (pc' := 345) (N := 200) (p := x) (z := true) rfl rfl (Eq.trans rdNB (Eq.trans rdNA (Eq.trans rdNA (Eq.trans rdNA (kN_22_4 hc))))) (io_in (p := x) (N := 200) (Nat.lt_of_lt_of_le hx (gn200 hR)) (by decide)) (nn_io (p := x) (Nat.lt_trans (Nat.lt_of_lt_of_le hx (gn200 hR)) (by decide))) rfl ?_
  refine x_aload_n (pc' := 346) rfl rfl rfl rfl rfl ?_
  refine x_iload (pc' := 348) rfl rfl rfl ?_
  refine x_cv (ls0 := [_, _, sJk]) (rest := []) rfl rfl rfl rfl rfl ?_
  exact k0
set_option maxHeartbeats 4000000 in
set_option maxRecDepth 10000 in
theorem r208_8 {t : sT} {Q : sRs → sT → Prop} {M : sM} {n : Nat} {b : Nat} {m : Nat} {p : Int32} {u : Int32} {a : Int32} {o : Nat} {x : Nat} {y0 : sV} {y1 : sV} {y2 : sV} {y3 : sV} {y4 : sV} {y5 : sV} {y6 : sV}
    (hV : Vr t M n)
    (hb : b < 5)
    (hm : m < 6)
    (ho : o < n)
    (hx : x < n)
    (k0 : X 178 0 [.inr (.inr (12, (some 0))), sJk, sJk, sJk] [] t (sK 178 208 352 [.inr (.inr (12, (some 0))), .inl (io m), .inl (io b), .inl p, .inl u, .inl a, y0, y1, y2, y3, y4, .inl (io o), .inl (io x), y5, y6] [] Q)) :
    X 208 351 [.inr (.inr (12, (some 0))), .inl (io m), .inl (io b), .inl p, .inl u, .inl a, y0, y1, y2, y3, y4, .inl (io o), .inl (io x), y5, y6] [] t Q := by
  obtain ⟨hM, hc, hR⟩ := hV
  refine x_aload_n (pc' := 352) rfl rfl rfl rfl rfl ?_
  refine x_cv (ls0 := [_, sJk, sJk, sJk]) (rest := []) rfl rfl rfl rfl rfl ?_
  exact k0
set_option maxHeartbeats 4000000 in
set_option maxRecDepth 10000 in
theorem r208_9 {t : sT} {Q : sRs → sT → Prop} {M : sM} {n : Nat} {b : Nat} {m : Nat} {p : Int32} {u : Int32} {a : Int32} {o : Nat} {x : Nat} {y0 : sV} {y1 : sV} {y2 : sV} {y3 : sV} {y4 : sV} {y5 : sV} {y6 : sV}
    (hV : Vr t M n)
    (hb : b < 5)
    (hm : m < 6)
    (ho : o < n)
    (hx : x < n)
    (k0 : X 176 0 [.inr (.inr (12, (some 0))), .inl (io x), sJk] [] t (sK 176 208 358 [.inr (.inr (12, (some 0))), .inl (io m), .inl (io b), .inl p, .inl u, .inl a, y0, y1, y2, y3, y4, .inl (io o), .inl (io x), y5, y6] [] Q)) :
    X 208 355 [.inr (.inr (12, (some 0))), .inl (io m), .inl (io b), .inl p, .inl u, .inl a, y0, y1, y2, y3, y4, .inl (io o), .inl (io x), y5, y6] [] t Q := by
  obtain ⟨hM, hc, hR⟩ := hV
  refine x_aload_n (pc' := 356) rfl rfl rfl rfl rfl ?_
  refine x_iload (pc' := 358) rfl rfl rfl ?_
  refine x_cv (ls0 := [_, _, sJk]) (rest := []) rfl rfl rfl rfl rfl ?_
  exact k0
set_option maxHeartbeats 4000000 in
set_option maxRecDepth 10000 in
theorem r208_10 {t : sT} {Q : sRs → sT → Prop} {M : sM} {n : Nat} {b : Nat} {m : Nat} {p : Int32} {u : Int32} {a : Int32} {o : Nat} {x : Nat} {y0 : sV} {y1 : sV} {y2 : sV} {y3 : sV} {y4 : sV} {y5 : sV} {y6 : sV}
    (hV : Vr t M n)
    (hb : b < 5)
    (hm : m < 6)
    (ho : o < n)
    (hx : x < n)
    (k0 : X 178 0 [.inr (.inr (12, (some 0))), sJk, sJk, sJk] [] t (sK 178 208 362 [.inr (.inr (12, (some 0))), .inl (io m), .inl (io b), .inl p, .inl u, .inl a, y0, y1, y2, y3, y4, .inl (io o), .inl (io x), y5, y6] [] Q)) :
    X 208 361 [.inr (.inr (12, (some 0))), .inl (io m), .inl (io b), .inl p, .inl u, .inl a, y0, y1, y2, y3, y4, .inl (io o), .inl (io x), y5, y6] [] t Q := by
  obtain ⟨hM, hc, hR⟩ := hV
  refine x_aload_n (pc' := 362) rfl rfl rfl rfl rfl ?_
  refine x_cv (ls0 := [_, sJk, sJk, sJk]) (rest := []) rfl rfl rfl rfl rfl ?_
  exact k0
set_option maxHeartbeats 4000000 in
set_option maxRecDepth 10000 in
theorem r208_11 {t : sT} {Q : sRs → sT → Prop} {M : sM} {n : Nat} {b : Nat} {m : Nat} {p : Int32} {u : Int32} {a : Int32} {o : Nat} {x : Nat} {y0 : sV} {y1 : sV} {y2 : sV} {y3 : sV} {y4 : sV} {y5 : sV} {y6 : sV}
    (hV : Vr t M n)
    (hb : b < 5)
    (hm : m < 6)
    (ho : o < n)
    (hx : x < n)
    (k0 : Q (.inl (some (.inl (io o)))) t) :
    X 208 365 [.inr (.inr (12, (some 0))), .inl (io m), .inl (io b), .inl p, .inl u, .inl a, y0, y1, y2, y3, y4, .inl (io o), .inl (io x), y5, y6] [] t Q := by
  obtain ⟨hM, hc, hR⟩ := hV
  refine x_iload (pc' := 367) rfl rfl rfl ?_
  refine x_reti rfl rfl ?_
  exact k0
set_option maxHeartbeats 4000000 in
set_option maxRecDepth 10000 in
theorem r208c {t : sT} {Q : sRs → sT → Prop} {M : sM} {n : Nat} {m : Nat} {b : Nat} {p : Int32} {u : Int32} {a : Int32}
    (hV : Vr t M n)
    (hm : m < 6)
    (hb : b < 5)
    (k0 : (prB b p) = false → (mA M 0 b) = 0 → Q (.inl (some (.inl 0))) (sIw t 768 0 2))
    (k1 : (prB b p) = false → ¬ ((mA M 0 b) = 0) → 198 < n → Q (.inl (some (.inl 0))) (sIw t 768 0 2))
    (k2 : (prB b p) = false → ¬ ((mA M 0 b) = 0) → ¬ (198 < n) → Q (.inl (some (.inl 0))) (sIw t 768 0 2))
    (k3 : (prB b p) = true → (prB b u) = false → (mA M 0 b) = 0 → Q (.inl (some (.inl 0))) (sIw t 768 0 2))
    (k4 : (prB b p) = true → (prB b u) = false → ¬ ((mA M 0 b) = 0) → 198 < n → Q (.inl (some (.inl 0))) (sIw t 768 0 2))
    (k5 : (prB b p) = true → (prB b u) = false → ¬ ((mA M 0 b) = 0) → ¬ (198 < n) → Q (.inl (some (.inl 0))) (sIw t 768 0 2))
    (k6 : (prB b p) = true → (prB b u) = true → ¬ (p < u) → (mA M 0 b) = 0 → Q (.inl (some (.inl 0))) (sIw t 768 0 2))
    (k7 : (prB b p) = true → (prB b u) = true → ¬ (p < u) → ¬ ((mA M 0 b) = 0) → 198 < n → Q (.inl (some (.inl 0))) (sIw t 768 0 2))
    (k8 : (prB b p) = true → (prB b u) = true → ¬ (p < u) → ¬ ((mA M 0 b) = 0) → ¬ (198 < n) → Q (.inl (some (.inl 0))) (sIw t 768 0 2))
    (k9 : (prB b p) = true → (prB b u) = true → p < u → (inB a 1 100) = false → (mA M 0 b) = 0 → Q (.inl (some (.inl 0))) (sIw t 768 0 2))
    (k10 : (prB b p) = true → (prB b u) = true → p < u → (inB a 1 100) = false → ¬ ((mA M 0 b) = 0) → 198 < n → Q (.inl (some (.inl 0))) (sIw t 768 0 2))
    (k11 : (prB b p) = true → (prB b u) = true → p < u → (inB a 1 100) = false → ¬ ((mA M 0 b) = 0) → ¬ (198 < n) → Q (.inl (some (.inl 0))) (sIw t 768 0 2))
    (k12 : (prB b p) = true → (prB b u) = true → p < u → (inB a 1 100) = true → (mA M 0 b) = 0 → (mB M 2 m) = true → Q (.inl (some (.inl 0))) (sIw t 768 0 3))
    (k13 : (prB b p) = true → (prB b u) = true → p < u → (inB a 1 100) = true → (mA M 0 b) = 0 → (mB M 2 m) = false → Q (.inl (some (.inl 0))) (sIw t 768 0 3))
    (k14 : (prB b p) = true → (prB b u) = true → p < u → (inB a 1 100) = true → ¬ ((mA M 0 b) = 0) → 198 < n → (mB M 2 m) = true → Q (.inl (some (.inl 0))) (sIw t 768 0 3))
    (k15 : (prB b p) = true → (prB b u) = true → p < u → (inB a 1 100) = true → ¬ ((mA M 0 b) = 0) → 198 < n → (mB M 2 m) = false → Q (.inl (some (.inl 0))) (sIw t 768 0 3))
    (k16 : (prB b p) = true → (prB b u) = true → p < u → (inB a 1 100) = true → ¬ ((mA M 0 b) = 0) → ¬ (198 < n) → (mB M 2 m) = true → Q (.inl (some (.inl 0))) (sIw t 768 0 3))
    (k17 : (prB b p) = true → (prB b u) = true → p < u → (inB a 1 100) = true → ¬ ((mA M 0 b) = 0) → ¬ (198 < n) → (mB M 2 m) = false → X 208 100 [.inr (.inr (12, (some 0))), .inl (io m), .inl (io b), .inl p, .inl u, .inl a, .inl 1, .inl 1, sJk, sJk, sJk, sJk, sJk, sJk, sJk] [] (sIw t 768 0 0) Q) :
    X 208 0 [.inr (.inr (12, (some 0))), .inl (io m), .inl (io b), .inl p, .inl u, .inl a, sJk, sJk, sJk, sJk, sJk, sJk, sJk, sJk, sJk] [] t Q := by
  obtain ⟨hM, hc, hR⟩ := hV
  refine x_iload_n (pc' := 1) rfl rfl rfl ?_
  refine x_cs (ls0 := [_]) (rest := []) rfl rfl rfl rfl ?_
  refine x_iload_n (pc' := 1) rfl rfl rfl ?_
  refine x_iconst (pc' := 2) rfl rfl ?_
  refine x_iconst (pc' := 3) rfl rfl ?_
  refine x_cs (ls0 := [_, _, _]) (rest := []) rfl rfl rfl rfl ?_
  refine x_iload_n (pc' := 1) rfl rfl rfl ?_
  refine x_iload_n (pc' := 2) rfl rfl rfl ?_
  refine x_icmp (a' := 14) (pc' := 5) (z := decide (b < 0)) rfl rfl rfl (ic_lt (p := b) (q := 0) (gb31 hb) (by decide)) (fun h => absurd (of_decide_eq_true h) (by first | decide | omega | simp)) (fun _ => ?_)
  refine x_iload_n (pc' := 6) rfl rfl rfl ?_
  refine x_iload_n (pc' := 7) rfl rfl rfl ?_
  refine x_icmp (a' := 14) (pc' := 10) (z := decide (4 < b)) rfl rfl rfl (ic_gt (p := b) (q := 4) (gb31 hb) (by decide)) (fun h => absurd (of_decide_eq_true h) (show ¬ 4 < b by omega)) (fun _ => ?_)
  refine x_iconst (pc' := 11) rfl rfl ?_
  refine x_goto (pc' := 15) rfl rfl ?_
  refine x_retz (z := true) rfl rfl ?_
  refine sK_i (pc' := 6) rfl ?_
  refine x_retz (z := true) rfl rfl ?_
  refine sK_i (pc' := 4) rfl ?_
  refine x_if (a' := 45) (pc' := 7) (z := false) rfl rfl rfl (by decide) (fun h => by cases h) (fun _ => ?_)
  refine x_iload_n (pc' := 8) rfl rfl rfl ?_
  refine x_iload_n (pc' := 9) rfl rfl rfl ?_
  refine x_cs (ls0 := [_, _]) (rest := []) rfl rfl rfl rfl ?_
  refine r150_g hb ?_
  refine sK_i (pc' := 12) rfl ?_
  refine x_ifeq_z (a' := 45) (pc' := 15) (z := (prB b p)) rfl rfl rfl (fun q4 => ?_) (fun q4 => ?_)
  · refine x_iconst (pc' := 46) rfl rfl ?_
    refine x_istore (pc' := 48) (ls' := [_, _, _, _, _, _, _, _, _, _, _, _, _, _, _]) rfl rfl rfl rfl ?_
    refine x_iload_n (pc' := 49) rfl rfl rfl ?_
    refine x_cs (ls0 := [_]) (rest := []) rfl rfl rfl rfl ?_
    refine x_iload_n (pc' := 1) rfl rfl rfl ?_
    refine x_iconst (pc' := 2) rfl rfl ?_
    refine x_iconst (pc' := 3) rfl rfl ?_
    refine x_cs (ls0 := [_, _, _]) (rest := []) rfl rfl rfl rfl ?_
    refine x_iload_n (pc' := 1) rfl rfl rfl ?_
    refine x_iload_n (pc' := 2) rfl rfl rfl ?_
    refine x_icmp (a' := 14) (pc' := 5) (z := decide (b < 0)) rfl rfl rfl (ic_lt (p := b) (q := 0) (gb31 hb) (by decide)) (fun h => absurd (of_decide_eq_true h) (by first | decide | omega | simp)) (fun _ => ?_)
    refine x_iload_n (pc' := 6) rfl rfl rfl ?_
    refine x_iload_n (pc' := 7) rfl rfl rfl ?_
    refine x_icmp (a' := 14) (pc' := 10) (z := decide (4 < b)) rfl rfl rfl (ic_gt (p := b) (q := 4) (gb31 hb) (by decide)) (fun h => absurd (of_decide_eq_true h) (show ¬ 4 < b by omega)) (fun _ => ?_)
    refine x_iconst (pc' := 11) rfl rfl ?_
    refine x_goto (pc' := 15) rfl rfl ?_
    refine x_retz (z := true) rfl rfl ?_
    refine sK_i (pc' := 6) rfl ?_
    refine x_retz (z := true) rfl rfl ?_
    refine sK_i (pc' := 52) rfl ?_
    refine x_if (a' := 78) (pc' := 55) (z := false) rfl rfl rfl (by decide) (fun h => by cases h) (fun _ => ?_)
    refine x_aload_n (pc' := 56) rfl rfl rfl rfl rfl ?_
    refine x_gR (pc' := 59) (r := (some 0)) rfl rfl rfl (kR_769_0 hc) ?_
    refine x_iload_n (pc' := 60) rfl rfl rfl ?_
    refine x_iald (pc' := 61) (N := 5) (x := (mA M 0 b)) rfl rfl rfl (kN_21_0 hc) (io_in (p := b) (N := 5) hb (by decide)) (Eq.trans (congrArg (sA t 21 0) (nn_io (p := b) (Nat.lt_trans hb (by decide)))) (gA hM rfl)) ?_
    refine x_if (a' := 78) (pc' := 64) (z := decide ((mA M 0 b) = 0)) rfl rfl rfl rfl (fun q8 => ?_) (fun q8 => ?_)
    · refine x_iconst (pc' := 79) rfl rfl ?_
      refine x_istore (pc' := 81) (ls' := [_, _, _, _, _, _, _, _, _, _, _, _, _, _, _]) rfl rfl rfl rfl ?_
      refine x_aload_n (pc' := 82) rfl rfl rfl rfl rfl ?_
      refine x_aload_n (pc' := 83) rfl rfl rfl rfl rfl ?_
      refine x_iload_n (pc' := 84) rfl rfl rfl ?_
      refine x_iload_n (pc' := 85) rfl rfl rfl ?_
      refine x_iload (pc' := 87) rfl rfl rfl ?_
      refine x_iload (pc' := 89) rfl rfl rfl ?_
      refine x_cv (ls0 := [_, _, _, _, _, sJk]) (rest := [_]) rfl rfl rfl rfl rfl ?_
      refine x_iload_n (pc' := 1) rfl rfl rfl ?_
      refine x_cs (ls0 := [_]) (rest := []) rfl rfl rfl rfl ?_
      refine x_iload_n (pc' := 1) rfl rfl rfl ?_
      refine x_iconst (pc' := 2) rfl rfl ?_
      refine x_iconst (pc' := 3) rfl rfl ?_
      refine x_cs (ls0 := [_, _, _]) (rest := []) rfl rfl rfl rfl ?_
      refine x_iload_n (pc' := 1) rfl rfl rfl ?_
      refine x_iload_n (pc' := 2) rfl rfl rfl ?_
      refine x_icmp (a' := 14) (pc' := 5) (z := decide (m < 0)) rfl rfl rfl (ic_lt (p := m) (q := 0) (gm31 hm) (by decide)) (fun h => absurd (of_decide_eq_true h) (by first | decide | omega | simp)) (fun _ => ?_)
      refine x_iload_n (pc' := 6) rfl rfl rfl ?_
      refine x_iload_n (pc' := 7) rfl rfl rfl ?_
      refine x_icmp (a' := 14) (pc' := 10) (z := decide (5 < m)) rfl rfl rfl (ic_gt (p := m) (q := 5) (gm31 hm) (by decide)) (fun h => absurd (of_decide_eq_true h) (show ¬ 5 < m by omega)) (fun _ => ?_)
      refine x_iconst (pc' := 11) rfl rfl ?_
      refine x_goto (pc' := 15) rfl rfl ?_
      refine x_retz (z := true) rfl rfl ?_
      refine sK_i (pc' := 6) rfl ?_
      refine x_retz (z := true) rfl rfl ?_
      refine sK_i (pc' := 4) rfl ?_
      refine x_if (a' := 18) (pc' := 7) (z := false) rfl rfl rfl (by decide) (fun h => by cases h) (fun _ => ?_)
      refine x_iload_n (pc' := 8) rfl rfl rfl ?_
      refine x_cs (ls0 := [_]) (rest := []) rfl rfl rfl rfl ?_
      refine x_iload_n (pc' := 1) rfl rfl rfl ?_
      refine x_iconst (pc' := 2) rfl rfl ?_
      refine x_iconst (pc' := 3) rfl rfl ?_
      refine x_cs (ls0 := [_, _, _]) (rest := []) rfl rfl rfl rfl ?_
      refine x_iload_n (pc' := 1) rfl rfl rfl ?_
      refine x_iload_n (pc' := 2) rfl rfl rfl ?_
      refine x_icmp (a' := 14) (pc' := 5) (z := decide (b < 0)) rfl rfl rfl (ic_lt (p := b) (q := 0) (gb31 hb) (by decide)) (fun h => absurd (of_decide_eq_true h) (by first | decide | omega | simp)) (fun _ => ?_)
      refine x_iload_n (pc' := 6) rfl rfl rfl ?_
      refine x_iload_n (pc' := 7) rfl rfl rfl ?_
      refine x_icmp (a' := 14) (pc' := 10) (z := decide (4 < b)) rfl rfl rfl (ic_gt (p := b) (q := 4) (gb31 hb) (by decide)) (fun h => absurd (of_decide_eq_true h) (show ¬ 4 < b by omega)) (fun _ => ?_)
      refine x_iconst (pc' := 11) rfl rfl ?_
      refine x_goto (pc' := 15) rfl rfl ?_
      refine x_retz (z := true) rfl rfl ?_
      refine sK_i (pc' := 6) rfl ?_
      refine x_retz (z := true) rfl rfl ?_
      refine sK_i (pc' := 11) rfl ?_
      refine x_if (a' := 18) (pc' := 14) (z := false) rfl rfl rfl (by decide) (fun h => by cases h) (fun _ => ?_)
      refine x_iconst (pc' := 15) rfl rfl ?_
      refine x_goto (pc' := 19) rfl rfl ?_
      refine x_istore (pc' := 21) (ls' := [_, _, _, _, _, _]) rfl rfl rfl rfl ?_
      refine x_iload (pc' := 23) rfl rfl rfl ?_
      refine x_if (a' := 30) (pc' := 26) (z := true) rfl rfl rfl (by decide) (fun _ => ?_) (fun h => by cases h)
      refine x_iload_n (pc' := 31) rfl rfl rfl ?_
      refine x_if (a' := 38) (pc' := 34) (z := false) rfl rfl rfl (by decide) (fun h => by cases h) (fun _ => ?_)
      refine x_iconst (pc' := 35) rfl rfl ?_
      refine x_goto (pc' := 57) rfl rfl ?_
      refine x_reti rfl rfl ?_
      refine sK_i (pc' := 92) rfl ?_
      refine x_cv (ls0 := [_, _]) (rest := []) rfl rfl rfl rfl rfl ?_
      refine x_aload_n (pc' := 1) rfl rfl rfl rfl rfl ?_
      refine x_iload_n (pc' := 2) rfl rfl rfl ?_
      refine x_pI (pc' := 5) rfl rfl rfl ?_
      refine x_iload_n (pc' := 6) rfl rfl rfl ?_
      refine x_if (a' := 13) (pc' := 9) (z := true) rfl rfl rfl (by decide) (fun _ => ?_) (fun h => by cases h)
      refine x_iconst (pc' := 14) rfl rfl ?_
      refine x_retz (z := false) rfl rfl ?_
      refine sK_i (pc' := 95) rfl ?_
      refine x_if (a' := 100) (pc' := 98) (z := false) rfl rfl rfl (by decide) (fun h => by cases h) (fun _ => ?_)
      refine x_iconst (pc' := 99) rfl rfl ?_
      refine x_reti rfl rfl ?_
      exact k0 q4 (of_decide_eq_true q8)
    · refine x_aload_n (pc' := 65) rfl rfl rfl rfl rfl ?_
      refine x_gI (pc' := 68) (x := (io n)) rfl rfl rfl (gFn hM (Fr.refl _) hR) ?_
      refine x_sipush (pc' := 71) rfl rfl ?_
      refine x_icmp (a' := 78) (pc' := 74) (z := decide (198 < n)) rfl rfl rfl (ic_gt (p := n) (q := 198) (gn31 hR) (by decide)) (fun q19 => ?_) (fun q19 => ?_)
      · refine x_iconst (pc' := 79) rfl rfl ?_
        refine x_istore (pc' := 81) (ls' := [_, _, _, _, _, _, _, _, _, _, _, _, _, _, _]) rfl rfl rfl rfl ?_
        refine x_aload_n (pc' := 82) rfl rfl rfl rfl rfl ?_
        refine x_aload_n (pc' := 83) rfl rfl rfl rfl rfl ?_
        refine x_iload_n (pc' := 84) rfl rfl rfl ?_
        refine x_iload_n (pc' := 85) rfl rfl rfl ?_
        refine x_iload (pc' := 87) rfl rfl rfl ?_
        refine x_iload (pc' := 89) rfl rfl rfl ?_
        refine x_cv (ls0 := [_, _, _, _, _, sJk]) (rest := [_]) rfl rfl rfl rfl rfl ?_
        refine x_iload_n (pc' := 1) rfl rfl rfl ?_
        refine x_cs (ls0 := [_]) (rest := []) rfl rfl rfl rfl ?_
        refine x_iload_n (pc' := 1) rfl rfl rfl ?_
        refine x_iconst (pc' := 2) rfl rfl ?_
        refine x_iconst (pc' := 3) rfl rfl ?_
        refine x_cs (ls0 := [_, _, _]) (rest := []) rfl rfl rfl rfl ?_
        refine x_iload_n (pc' := 1) rfl rfl rfl ?_
        refine x_iload_n (pc' := 2) rfl rfl rfl ?_
        refine x_icmp (a' := 14) (pc' := 5) (z := decide (m < 0)) rfl rfl rfl (ic_lt (p := m) (q := 0) (gm31 hm) (by decide)) (fun h => absurd (of_decide_eq_true h) (by first | decide | omega | simp)) (fun _ => ?_)
        refine x_iload_n (pc' := 6) rfl rfl rfl ?_
        refine x_iload_n (pc' := 7) rfl rfl rfl ?_
        refine x_icmp (a' := 14) (pc' := 10) (z := decide (5 < m)) rfl rfl rfl (ic_gt (p := m) (q := 5) (gm31 hm) (by decide)) (fun h => absurd (of_decide_eq_true h) (show ¬ 5 < m by omega)) (fun _ => ?_)
        refine x_iconst (pc' := 11) rfl rfl ?_
        refine x_goto (pc' := 15) rfl rfl ?_
        refine x_retz (z := true) rfl rfl ?_
        refine sK_i (pc' := 6) rfl ?_
        refine x_retz (z := true) rfl rfl ?_
        refine sK_i (pc' := 4) rfl ?_
        refine x_if (a' := 18) (pc' := 7) (z := false) rfl rfl rfl (by decide) (fun h => by cases h) (fun _ => ?_)
        refine x_iload_n (pc' := 8) rfl rfl rfl ?_
        refine x_cs (ls0 := [_]) (rest := []) rfl rfl rfl rfl ?_
        refine x_iload_n (pc' := 1) rfl rfl rfl ?_
        refine x_iconst (pc' := 2) rfl rfl ?_
        refine x_iconst (pc' := 3) rfl rfl ?_
        refine x_cs (ls0 := [_, _, _]) (rest := []) rfl rfl rfl rfl ?_
        refine x_iload_n (pc' := 1) rfl rfl rfl ?_
        refine x_iload_n (pc' := 2) rfl rfl rfl ?_
        refine x_icmp (a' := 14) (pc' := 5) (z := decide (b < 0)) rfl rfl rfl (ic_lt (p := b) (q := 0) (gb31 hb) (by decide)) (fun h => absurd (of_decide_eq_true h) (by first | decide | omega | simp)) (fun _ => ?_)
        refine x_iload_n (pc' := 6) rfl rfl rfl ?_
        refine x_iload_n (pc' := 7) rfl rfl rfl ?_
        refine x_icmp (a' := 14) (pc' := 10) (z := decide (4 < b)) rfl rfl rfl (ic_gt (p := b) (q := 4) (gb31 hb) (by decide)) (fun h => absurd (of_decide_eq_true h) (show ¬ 4 < b by omega)) (fun _ => ?_)
        refine x_iconst (pc' := 11) rfl rfl ?_
        refine x_goto (pc' := 15) rfl rfl ?_
        refine x_retz (z := true) rfl rfl ?_
        refine sK_i (pc' := 6) rfl ?_
        refine x_retz (z := true) rfl rfl ?_
        refine sK_i (pc' := 11) rfl ?_
        refine x_if (a' := 18) (pc' := 14) (z := false) rfl rfl rfl (by decide) (fun h => by cases h) (fun _ => ?_)
        refine x_iconst (pc' := 15) rfl rfl ?_
        refine x_goto (pc' := 19) rfl rfl ?_
        refine x_istore (pc' := 21) (ls' := [_, _, _, _, _, _]) rfl rfl rfl rfl ?_
        refine x_iload (pc' := 23) rfl rfl rfl ?_
        refine x_if (a' := 30) (pc' := 26) (z := true) rfl rfl rfl (by decide) (fun _ => ?_) (fun h => by cases h)
        refine x_iload_n (pc' := 31) rfl rfl rfl ?_
        refine x_if (a' := 38) (pc' := 34) (z := false) rfl rfl rfl (by decide) (fun h => by cases h) (fun _ => ?_)
        refine x_iconst (pc' := 35) rfl rfl ?_
        refine x_goto (pc' := 57) rfl rfl ?_
        refine x_reti rfl rfl ?_
        refine sK_i (pc' := 92) rfl ?_
        refine x_cv (ls0 := [_, _]) (rest := []) rfl rfl rfl rfl rfl ?_
        refine x_aload_n (pc' := 1) rfl rfl rfl rfl rfl ?_
        refine x_iload_n (pc' := 2) rfl rfl rfl ?_
        refine x_pI (pc' := 5) rfl rfl rfl ?_
        refine x_iload_n (pc' := 6) rfl rfl rfl ?_
        refine x_if (a' := 13) (pc' := 9) (z := true) rfl rfl rfl (by decide) (fun _ => ?_) (fun h => by cases h)
        refine x_iconst (pc' := 14) rfl rfl ?_
        refine x_retz (z := false) rfl rfl ?_
        refine sK_i (pc' := 95) rfl ?_
        refine x_if (a' := 100) (pc' := 98) (z := false) rfl rfl rfl (by decide) (fun h => by cases h) (fun _ => ?_)
        refine x_iconst (pc' := 99) rfl rfl ?_
        refine x_reti rfl rfl ?_
        exact k1 q4 (of_decide_eq_false q8) (of_decide_eq_true q19)
      · refine x_iconst (pc' := 75) rfl rfl ?_
        refine x_goto (pc' := 79) rfl rfl ?_
        refine x_istore (pc' := 81) (ls' := [_, _, _, _, _, _, _, _, _, _, _, _, _, _, _]) rfl rfl rfl rfl ?_
        refine x_aload_n (pc' := 82) rfl rfl rfl rfl rfl ?_
        refine x_aload_n (pc' := 83) rfl rfl rfl rfl rfl ?_
        refine x_iload_n (pc' := 84) rfl rfl rfl ?_
        refine x_iload_n (pc' := 85) rfl rfl rfl ?_
        refine x_iload (pc' := 87) rfl rfl rfl ?_
        refine x_iload (pc' := 89) rfl rfl rfl ?_
        refine x_cv (ls0 := [_, _, _, _, _, sJk]) (rest := [_]) rfl rfl rfl rfl rfl ?_
        refine x_iload_n (pc' := 1) rfl rfl rfl ?_
        refine x_cs (ls0 := [_]) (rest := []) rfl rfl rfl rfl ?_
        refine x_iload_n (pc' := 1) rfl rfl rfl ?_
        refine x_iconst (pc' := 2) rfl rfl ?_
        refine x_iconst (pc' := 3) rfl rfl ?_
        refine x_cs (ls0 := [_, _, _]) (rest := []) rfl rfl rfl rfl ?_
        refine x_iload_n (pc' := 1) rfl rfl rfl ?_
        refine x_iload_n (pc' := 2) rfl rfl rfl ?_
        refine x_icmp (a' := 14) (pc' := 5) (z := decide (m < 0)) rfl rfl rfl (ic_lt (p := m) (q := 0) (gm31 hm) (by decide)) (fun h => absurd (of_decide_eq_true h) (by first | decide | omega | simp)) (fun _ => ?_)
        refine x_iload_n (pc' := 6) rfl rfl rfl ?_
        refine x_iload_n (pc' := 7) rfl rfl rfl ?_
        refine x_icmp (a' := 14) (pc' := 10) (z := decide (5 < m)) rfl rfl rfl (ic_gt (p := m) (q := 5) (gm31 hm) (by decide)) (fun h => absurd (of_decide_eq_true h) (show ¬ 5 < m by omega)) (fun _ => ?_)
        refine x_iconst (pc' := 11) rfl rfl ?_
        refine x_goto (pc' := 15) rfl rfl ?_
        refine x_retz (z := true) rfl rfl ?_
        refine sK_i (pc' := 6) rfl ?_
        refine x_retz (z := true) rfl rfl ?_
        refine sK_i (pc' := 4) rfl ?_
        refine x_if (a' := 18) (pc' := 7) (z := false) rfl rfl rfl (by decide) (fun h => by cases h) (fun _ => ?_)
        refine x_iload_n (pc' := 8) rfl rfl rfl ?_
        refine x_cs (ls0 := [_]) (rest := []) rfl rfl rfl rfl ?_
        refine x_iload_n (pc' := 1) rfl rfl rfl ?_
        refine x_iconst (pc' := 2) rfl rfl ?_
        refine x_iconst (pc' := 3) rfl rfl ?_
        refine x_cs (ls0 := [_, _, _]) (rest := []) rfl rfl rfl rfl ?_
        refine x_iload_n (pc' := 1) rfl rfl rfl ?_
        refine x_iload_n (pc' := 2) rfl rfl rfl ?_
        refine x_icmp (a' := 14) (pc' := 5) (z := decide (b < 0)) rfl rfl rfl (ic_lt (p := b) (q := 0) (gb31 hb) (by decide)) (fun h => absurd (of_decide_eq_true h) (by first | decide | omega | simp)) (fun _ => ?_)
        refine x_iload_n (pc' := 6) rfl rfl rfl ?_
        refine x_iload_n (pc' := 7) rfl rfl rfl ?_
        refine x_icmp (a' := 14) (pc' := 10) (z := decide (4 < b)) rfl rfl rfl (ic_gt (p := b) (q := 4) (gb31 hb) (by decide)) (fun h => absurd (of_decide_eq_true h) (show ¬ 4 < b by omega)) (fun _ => ?_)
        refine x_iconst (pc' := 11) rfl rfl ?_
        refine x_goto (pc' := 15) rfl rfl ?_
        refine x_retz (z := true) rfl rfl ?_
        refine sK_i (pc' := 6) rfl ?_
        refine x_retz (z := true) rfl rfl ?_
        refine sK_i (pc' := 11) rfl ?_
        refine x_if (a' := 18) (pc' := 14) (z := false) rfl rfl rfl (by decide) (fun h => by cases h) (fun _ => ?_)
        refine x_iconst (pc' := 15) rfl rfl ?_
        refine x_goto (pc' := 19) rfl rfl ?_
        refine x_istore (pc' := 21) (ls' := [_, _, _, _, _, _]) rfl rfl rfl rfl ?_
        refine x_iload (pc' := 23) rfl rfl rfl ?_
        refine x_if (a' := 30) (pc' := 26) (z := true) rfl rfl rfl (by decide) (fun _ => ?_) (fun h => by cases h)
        refine x_iload_n (pc' := 31) rfl rfl rfl ?_
        refine x_if (a' := 38) (pc' := 34) (z := false) rfl rfl rfl (by decide) (fun h => by cases h) (fun _ => ?_)
        refine x_iconst (pc' := 35) rfl rfl ?_
        refine x_goto (pc' := 57) rfl rfl ?_
        refine x_reti rfl rfl ?_
        refine sK_i (pc' := 92) rfl ?_
        refine x_cv (ls0 := [_, _]) (rest := []) rfl rfl rfl rfl rfl ?_
        refine x_aload_n (pc' := 1) rfl rfl rfl rfl rfl ?_
        refine x_iload_n (pc' := 2) rfl rfl rfl ?_
        refine x_pI (pc' := 5) rfl rfl rfl ?_
        refine x_iload_n (pc' := 6) rfl rfl rfl ?_
        refine x_if (a' := 13) (pc' := 9) (z := true) rfl rfl rfl (by decide) (fun _ => ?_) (fun h => by cases h)
        refine x_iconst (pc' := 14) rfl rfl ?_
        refine x_retz (z := false) rfl rfl ?_
        refine sK_i (pc' := 95) rfl ?_
        refine x_if (a' := 100) (pc' := 98) (z := false) rfl rfl rfl (by decide) (fun h => by cases h) (fun _ => ?_)
        refine x_iconst (pc' := 99) rfl rfl ?_
        refine x_reti rfl rfl ?_
        exact k2 q4 (of_decide_eq_false q8) (of_decide_eq_false q19)
  · refine x_iload_n (pc' := 16) rfl rfl rfl ?_
    refine x_iload (pc' := 18) rfl rfl rfl ?_
    refine x_cs (ls0 := [_, _]) (rest := []) rfl rfl rfl rfl ?_
    refine r150_g hb ?_
    refine sK_i (pc' := 21) rfl ?_
    refine x_ifeq_z (a' := 45) (pc' := 24) (z := (prB b u)) rfl rfl rfl (fun q40 => ?_) (fun q40 => ?_)
    · refine x_iconst (pc' := 46) rfl rfl ?_
      refine x_istore (pc' := 48) (ls' := [_, _, _, _, _, _, _, _, _, _, _, _, _, _, _]) rfl rfl rfl rfl ?_
      refine x_iload_n (pc' := 49) rfl rfl rfl ?_
      refine x_cs (ls0 := [_]) (rest := []) rfl rfl rfl rfl ?_
      refine x_iload_n (pc' := 1) rfl rfl rfl ?_
      refine x_iconst (pc' := 2) rfl rfl ?_
      refine x_iconst (pc' := 3) rfl rfl ?_
      refine x_cs (ls0 := [_, _, _]) (rest := []) rfl rfl rfl rfl ?_
      refine x_iload_n (pc' := 1) rfl rfl rfl ?_
      refine x_iload_n (pc' := 2) rfl rfl rfl ?_
      refine x_icmp (a' := 14) (pc' := 5) (z := decide (b < 0)) rfl rfl rfl (ic_lt (p := b) (q := 0) (gb31 hb) (by decide)) (fun h => absurd (of_decide_eq_true h) (by first | decide | omega | simp)) (fun _ => ?_)
      refine x_iload_n (pc' := 6) rfl rfl rfl ?_
      refine x_iload_n (pc' := 7) rfl rfl rfl ?_
      refine x_icmp (a' := 14) (pc' := 10) (z := decide (4 < b)) rfl rfl rfl (ic_gt (p := b) (q := 4) (gb31 hb) (by decide)) (fun h => absurd (of_decide_eq_true h) (show ¬ 4 < b by omega)) (fun _ => ?_)
      refine x_iconst (pc' := 11) rfl rfl ?_
      refine x_goto (pc' := 15) rfl rfl ?_
      refine x_retz (z := true) rfl rfl ?_
      refine sK_i (pc' := 6) rfl ?_
      refine x_retz (z := true) rfl rfl ?_
      refine sK_i (pc' := 52) rfl ?_
      refine x_if (a' := 78) (pc' := 55) (z := false) rfl rfl rfl (by decide) (fun h => by cases h) (fun _ => ?_)
      refine x_aload_n (pc' := 56) rfl rfl rfl rfl rfl ?_
      refine x_gR (pc' := 59) (r := (some 0)) rfl rfl rfl (kR_769_0 hc) ?_
      refine x_iload_n (pc' := 60) rfl rfl rfl ?_
      refine x_iald (pc' := 61) (N := 5) (x := (mA M 0 b)) rfl rfl rfl (kN_21_0 hc) (io_in (p := b) (N := 5) hb (by decide)) (Eq.trans (congrArg (sA t 21 0) (nn_io (p := b) (Nat.lt_trans hb (by decide)))) (gA hM rfl)) ?_
      refine x_if (a' := 78) (pc' := 64) (z := decide ((mA M 0 b) = 0)) rfl rfl rfl rfl (fun q44 => ?_) (fun q44 => ?_)
      · refine x_iconst (pc' := 79) rfl rfl ?_
        refine x_istore (pc' := 81) (ls' := [_, _, _, _, _, _, _, _, _, _, _, _, _, _, _]) rfl rfl rfl rfl ?_
        refine x_aload_n (pc' := 82) rfl rfl rfl rfl rfl ?_
        refine x_aload_n (pc' := 83) rfl rfl rfl rfl rfl ?_
        refine x_iload_n (pc' := 84) rfl rfl rfl ?_
        refine x_iload_n (pc' := 85) rfl rfl rfl ?_
        refine x_iload (pc' := 87) rfl rfl rfl ?_
        refine x_iload (pc' := 89) rfl rfl rfl ?_
        refine x_cv (ls0 := [_, _, _, _, _, sJk]) (rest := [_]) rfl rfl rfl rfl rfl ?_
        refine x_iload_n (pc' := 1) rfl rfl rfl ?_
        refine x_cs (ls0 := [_]) (rest := []) rfl rfl rfl rfl ?_
        refine x_iload_n (pc' := 1) rfl rfl rfl ?_
        refine x_iconst (pc' := 2) rfl rfl ?_
        refine x_iconst (pc' := 3) rfl rfl ?_
        refine x_cs (ls0 := [_, _, _]) (rest := []) rfl rfl rfl rfl ?_
        refine x_iload_n (pc' := 1) rfl rfl rfl ?_
        refine x_iload_n (pc' := 2) rfl rfl rfl ?_
        refine x_icmp (a' := 14) (pc' := 5) (z := decide (m < 0)) rfl rfl rfl (ic_lt (p := m) (q := 0) (gm31 hm) (by decide)) (fun h => absurd (of_decide_eq_true h) (by first | decide | omega | simp)) (fun _ => ?_)
        refine x_iload_n (pc' := 6) rfl rfl rfl ?_
        refine x_iload_n (pc' := 7) rfl rfl rfl ?_
        refine x_icmp (a' := 14) (pc' := 10) (z := decide (5 < m)) rfl rfl rfl (ic_gt (p := m) (q := 5) (gm31 hm) (by decide)) (fun h => absurd (of_decide_eq_true h) (show ¬ 5 < m by omega)) (fun _ => ?_)
        refine x_iconst (pc' := 11) rfl rfl ?_
        refine x_goto (pc' := 15) rfl rfl ?_
        refine x_retz (z := true) rfl rfl ?_
        refine sK_i (pc' := 6) rfl ?_
        refine x_retz (z := true) rfl rfl ?_
        refine sK_i (pc' := 4) rfl ?_
        refine x_if (a' := 18) (pc' := 7) (z := false) rfl rfl rfl (by decide) (fun h => by cases h) (fun _ => ?_)
        refine x_iload_n (pc' := 8) rfl rfl rfl ?_
        refine x_cs (ls0 := [_]) (rest := []) rfl rfl rfl rfl ?_
        refine x_iload_n (pc' := 1) rfl rfl rfl ?_
        refine x_iconst (pc' := 2) rfl rfl ?_
        refine x_iconst (pc' := 3) rfl rfl ?_
        refine x_cs (ls0 := [_, _, _]) (rest := []) rfl rfl rfl rfl ?_
        refine x_iload_n (pc' := 1) rfl rfl rfl ?_
        refine x_iload_n (pc' := 2) rfl rfl rfl ?_
        refine x_icmp (a' := 14) (pc' := 5) (z := decide (b < 0)) rfl rfl rfl (ic_lt (p := b) (q := 0) (gb31 hb) (by decide)) (fun h => absurd (of_decide_eq_true h) (by first | decide | omega | simp)) (fun _ => ?_)
        refine x_iload_n (pc' := 6) rfl rfl rfl ?_
        refine x_iload_n (pc' := 7) rfl rfl rfl ?_
        refine x_icmp (a' := 14) (pc' := 10) (z := decide (4 < b)) rfl rfl rfl (ic_gt (p := b) (q := 4) (gb31 hb) (by decide)) (fun h => absurd (of_decide_eq_true h) (show ¬ 4 < b by omega)) (fun _ => ?_)
        refine x_iconst (pc' := 11) rfl rfl ?_
        refine x_goto (pc' := 15) rfl rfl ?_
        refine x_retz (z := true) rfl rfl ?_
        refine sK_i (pc' := 6) rfl ?_
        refine x_retz (z := true) rfl rfl ?_
        refine sK_i (pc' := 11) rfl ?_
        refine x_if (a' := 18) (pc' := 14) (z := false) rfl rfl rfl (by decide) (fun h => by cases h) (fun _ => ?_)
        refine x_iconst (pc' := 15) rfl rfl ?_
        refine x_goto (pc' := 19) rfl rfl ?_
        refine x_istore (pc' := 21) (ls' := [_, _, _, _, _, _]) rfl rfl rfl rfl ?_
        refine x_iload (pc' := 23) rfl rfl rfl ?_
        refine x_if (a' := 30) (pc' := 26) (z := true) rfl rfl rfl (by decide) (fun _ => ?_) (fun h => by cases h)
        refine x_iload_n (pc' := 31) rfl rfl rfl ?_
        refine x_if (a' := 38) (pc' := 34) (z := false) rfl rfl rfl (by decide) (fun h => by cases h) (fun _ => ?_)
        refine x_iconst (pc' := 35) rfl rfl ?_
        refine x_goto (pc' := 57) rfl rfl ?_
        refine x_reti rfl rfl ?_
        refine sK_i (pc' := 92) rfl ?_
        refine x_cv (ls0 := [_, _]) (rest := []) rfl rfl rfl rfl rfl ?_
        refine x_aload_n (pc' := 1) rfl rfl rfl rfl rfl ?_
        refine x_iload_n (pc' := 2) rfl rfl rfl ?_
        refine x_pI (pc' := 5) rfl rfl rfl ?_
        refine x_iload_n (pc' := 6) rfl rfl rfl ?_
        refine x_if (a' := 13) (pc' := 9) (z := true) rfl rfl rfl (by decide) (fun _ => ?_) (fun h => by cases h)
        refine x_iconst (pc' := 14) rfl rfl ?_
        refine x_retz (z := false) rfl rfl ?_
        refine sK_i (pc' := 95) rfl ?_
        refine x_if (a' := 100) (pc' := 98) (z := false) rfl rfl rfl (by decide) (fun h => by cases h) (fun _ => ?_)
        refine x_iconst (pc' := 99) rfl rfl ?_
        refine x_reti rfl rfl ?_
        exact k3 q4 q40 (of_decide_eq_true q44)
      · refine x_aload_n (pc' := 65) rfl rfl rfl rfl rfl ?_
        refine x_gI (pc' := 68) (x := (io n)) rfl rfl rfl (gFn hM (Fr.refl _) hR) ?_
        refine x_sipush (pc' := 71) rfl rfl ?_
        refine x_icmp (a' := 78) (pc' := 74) (z := decide (198 < n)) rfl rfl rfl (ic_gt (p := n) (q := 198) (gn31 hR) (by decide)) (fun q55 => ?_) (fun q55 => ?_)
        · refine x_iconst (pc' := 79) rfl rfl ?_
          refine x_istore (pc' := 81) (ls' := [_, _, _, _, _, _, _, _, _, _, _, _, _, _, _]) rfl rfl rfl rfl ?_
          refine x_aload_n (pc' := 82) rfl rfl rfl rfl rfl ?_
          refine x_aload_n (pc' := 83) rfl rfl rfl rfl rfl ?_
          refine x_iload_n (pc' := 84) rfl rfl rfl ?_
          refine x_iload_n (pc' := 85) rfl rfl rfl ?_
          refine x_iload (pc' := 87) rfl rfl rfl ?_
          refine x_iload (pc' := 89) rfl rfl rfl ?_
          refine x_cv (ls0 := [_, _, _, _, _, sJk]) (rest := [_]) rfl rfl rfl rfl rfl ?_
          refine x_iload_n (pc' := 1) rfl rfl rfl ?_
          refine x_cs (ls0 := [_]) (rest := []) rfl rfl rfl rfl ?_
          refine x_iload_n (pc' := 1) rfl rfl rfl ?_
          refine x_iconst (pc' := 2) rfl rfl ?_
          refine x_iconst (pc' := 3) rfl rfl ?_
          refine x_cs (ls0 := [_, _, _]) (rest := []) rfl rfl rfl rfl ?_
          refine x_iload_n (pc' := 1) rfl rfl rfl ?_
          refine x_iload_n (pc' := 2) rfl rfl rfl ?_
          refine x_icmp (a' := 14) (pc' := 5) (z := decide (m < 0)) rfl rfl rfl (ic_lt (p := m) (q := 0) (gm31 hm) (by decide)) (fun h => absurd (of_decide_eq_true h) (by first | decide | omega | simp)) (fun _ => ?_)
          refine x_iload_n (pc' := 6) rfl rfl rfl ?_
          refine x_iload_n (pc' := 7) rfl rfl rfl ?_
          refine x_icmp (a' := 14) (pc' := 10) (z := decide (5 < m)) rfl rfl rfl (ic_gt (p := m) (q := 5) (gm31 hm) (by decide)) (fun h => absurd (of_decide_eq_true h) (show ¬ 5 < m by omega)) (fun _ => ?_)
          refine x_iconst (pc' := 11) rfl rfl ?_
          refine x_goto (pc' := 15) rfl rfl ?_
          refine x_retz (z := true) rfl rfl ?_
          refine sK_i (pc' := 6) rfl ?_
          refine x_retz (z := true) rfl rfl ?_
          refine sK_i (pc' := 4) rfl ?_
          refine x_if (a' := 18) (pc' := 7) (z := false) rfl rfl rfl (by decide) (fun h => by cases h) (fun _ => ?_)
          refine x_iload_n (pc' := 8) rfl rfl rfl ?_
          refine x_cs (ls0 := [_]) (rest := []) rfl rfl rfl rfl ?_
          refine x_iload_n (pc' := 1) rfl rfl rfl ?_
          refine x_iconst (pc' := 2) rfl rfl ?_
          refine x_iconst (pc' := 3) rfl rfl ?_
          refine x_cs (ls0 := [_, _, _]) (rest := []) rfl rfl rfl rfl ?_
          refine x_iload_n (pc' := 1) rfl rfl rfl ?_
          refine x_iload_n (pc' := 2) rfl rfl rfl ?_
          refine x_icmp (a' := 14) (pc' := 5) (z := decide (b < 0)) rfl rfl rfl (ic_lt (p := b) (q := 0) (gb31 hb) (by decide)) (fun h => absurd (of_decide_eq_true h) (by first | decide | omega | simp)) (fun _ => ?_)
          refine x_iload_n (pc' := 6) rfl rfl rfl ?_
          refine x_iload_n (pc' := 7) rfl rfl rfl ?_
          refine x_icmp (a' := 14) (pc' := 10) (z := decide (4 < b)) rfl rfl rfl (ic_gt (p := b) (q := 4) (gb31 hb) (by decide)) (fun h => absurd (of_decide_eq_true h) (show ¬ 4 < b by omega)) (fun _ => ?_)
          refine x_iconst (pc' := 11) rfl rfl ?_
          refine x_goto (pc' := 15) rfl rfl ?_
          refine x_retz (z := true) rfl rfl ?_
          refine sK_i (pc' := 6) rfl ?_
          refine x_retz (z := true) rfl rfl ?_
          refine sK_i (pc' := 11) rfl ?_
          refine x_if (a' := 18) (pc' := 14) (z := false) rfl rfl rfl (by decide) (fun h => by cases h) (fun _ => ?_)
          refine x_iconst (pc' := 15) rfl rfl ?_
          refine x_goto (pc' := 19) rfl rfl ?_
          refine x_istore (pc' := 21) (ls' := [_, _, _, _, _, _]) rfl rfl rfl rfl ?_
          refine x_iload (pc' := 23) rfl rfl rfl ?_
          refine x_if (a' := 30) (pc' := 26) (z := true) rfl rfl rfl (by decide) (fun _ => ?_) (fun h => by cases h)
          refine x_iload_n (pc' := 31) rfl rfl rfl ?_
          refine x_if (a' := 38) (pc' := 34) (z := false) rfl rfl rfl (by decide) (fun h => by cases h) (fun _ => ?_)
          refine x_iconst (pc' := 35) rfl rfl ?_
          refine x_goto (pc' := 57) rfl rfl ?_
          refine x_reti rfl rfl ?_
          refine sK_i (pc' := 92) rfl ?_
          refine x_cv (ls0 := [_, _]) (rest := []) rfl rfl rfl rfl rfl ?_
          refine x_aload_n (pc' := 1) rfl rfl rfl rfl rfl ?_
          refine x_iload_n (pc' := 2) rfl rfl rfl ?_
          refine x_pI (pc' := 5) rfl rfl rfl ?_
          refine x_iload_n (pc' := 6) rfl rfl rfl ?_
          refine x_if (a' := 13) (pc' := 9) (z := true) rfl rfl rfl (by decide) (fun _ => ?_) (fun h => by cases h)
          refine x_iconst (pc' := 14) rfl rfl ?_
          refine x_retz (z := false) rfl rfl ?_
          refine sK_i (pc' := 95) rfl ?_
          refine x_if (a' := 100) (pc' := 98) (z := false) rfl rfl rfl (by decide) (fun h => by cases h) (fun _ => ?_)
          refine x_iconst (pc' := 99) rfl rfl ?_
          refine x_reti rfl rfl ?_
          exact k4 q4 q40 (of_decide_eq_false q44) (of_decide_eq_true q55)
        · refine x_iconst (pc' := 75) rfl rfl ?_
          refine x_goto (pc' := 79) rfl rfl ?_
          refine x_istore (pc' := 81) (ls' := [_, _, _, _, _, _, _, _, _, _, _, _, _, _, _]) rfl rfl rfl rfl ?_
          refine x_aload_n (pc' := 82) rfl rfl rfl rfl rfl ?_
          refine x_aload_n (pc' := 83) rfl rfl rfl rfl rfl ?_
          refine x_iload_n (pc' := 84) rfl rfl rfl ?_
          refine x_iload_n (pc' := 85) rfl rfl rfl ?_
          refine x_iload (pc' := 87) rfl rfl rfl ?_
          refine x_iload (pc' := 89) rfl rfl rfl ?_
          refine x_cv (ls0 := [_, _, _, _, _, sJk]) (rest := [_]) rfl rfl rfl rfl rfl ?_
          refine x_iload_n (pc' := 1) rfl rfl rfl ?_
          refine x_cs (ls0 := [_]) (rest := []) rfl rfl rfl rfl ?_
          refine x_iload_n (pc' := 1) rfl rfl rfl ?_
          refine x_iconst (pc' := 2) rfl rfl ?_
          refine x_iconst (pc' := 3) rfl rfl ?_
          refine x_cs (ls0 := [_, _, _]) (rest := []) rfl rfl rfl rfl ?_
          refine x_iload_n (pc' := 1) rfl rfl rfl ?_
          refine x_iload_n (pc' := 2) rfl rfl rfl ?_
          refine x_icmp (a' := 14) (pc' := 5) (z := decide (m < 0)) rfl rfl rfl (ic_lt (p := m) (q := 0) (gm31 hm) (by decide)) (fun h => absurd (of_decide_eq_true h) (by first | decide | omega | simp)) (fun _ => ?_)
          refine x_iload_n (pc' := 6) rfl rfl rfl ?_
          refine x_iload_n (pc' := 7) rfl rfl rfl ?_
          refine x_icmp (a' := 14) (pc' := 10) (z := decide (5 < m)) rfl rfl rfl (ic_gt (p := m) (q := 5) (gm31 hm) (by decide)) (fun h => absurd (of_decide_eq_true h) (show ¬ 5 < m by omega)) (fun _ => ?_)
          refine x_iconst (pc' := 11) rfl rfl ?_
          refine x_goto (pc' := 15) rfl rfl ?_
          refine x_retz (z := true) rfl rfl ?_
          refine sK_i (pc' := 6) rfl ?_
          refine x_retz (z := true) rfl rfl ?_
          refine sK_i (pc' := 4) rfl ?_
          refine x_if (a' := 18) (pc' := 7) (z := false) rfl rfl rfl (by decide) (fun h => by cases h) (fun _ => ?_)
          refine x_iload_n (pc' := 8) rfl rfl rfl ?_
          refine x_cs (ls0 := [_]) (rest := []) rfl rfl rfl rfl ?_
          refine x_iload_n (pc' := 1) rfl rfl rfl ?_
          refine x_iconst (pc' := 2) rfl rfl ?_
          refine x_iconst (pc' := 3) rfl rfl ?_
          refine x_cs (ls0 := [_, _, _]) (rest := []) rfl rfl rfl rfl ?_
          refine x_iload_n (pc' := 1) rfl rfl rfl ?_
          refine x_iload_n (pc' := 2) rfl rfl rfl ?_
          refine x_icmp (a' := 14) (pc' := 5) (z := decide (b < 0)) rfl rfl rfl (ic_lt (p := b) (q := 0) (gb31 hb) (by decide)) (fun h => absurd (of_decide_eq_true h) (by first | decide | omega | simp)) (fun _ => ?_)
          refine x_iload_n (pc' := 6) rfl rfl rfl ?_
          refine x_iload_n (pc' := 7) rfl rfl rfl ?_
          refine x_icmp (a' := 14) (pc' := 10) (z := decide (4 < b)) rfl rfl rfl (ic_gt (p := b) (q := 4) (gb31 hb) (by decide)) (fun h => absurd (of_decide_eq_true h) (show ¬ 4 < b by omega)) (fun _ => ?_)
          refine x_iconst (pc' := 11) rfl rfl ?_
          refine x_goto (pc' := 15) rfl rfl ?_
          refine x_retz (z := true) rfl rfl ?_
          refine sK_i (pc' := 6) rfl ?_
          refine x_retz (z := true) rfl rfl ?_
          refine sK_i (pc' := 11) rfl ?_
          refine x_if (a' := 18) (pc' := 14) (z := false) rfl rfl rfl (by decide) (fun h => by cases h) (fun _ => ?_)
          refine x_iconst (pc' := 15) rfl rfl ?_
          refine x_goto (pc' := 19) rfl rfl ?_
          refine x_istore (pc' := 21) (ls' := [_, _, _, _, _, _]) rfl rfl rfl rfl ?_
          refine x_iload (pc' := 23) rfl rfl rfl ?_
          refine x_if (a' := 30) (pc' := 26) (z := true) rfl rfl rfl (by decide) (fun _ => ?_) (fun h => by cases h)
          refine x_iload_n (pc' := 31) rfl rfl rfl ?_
          refine x_if (a' := 38) (pc' := 34) (z := false) rfl rfl rfl (by decide) (fun h => by cases h) (fun _ => ?_)
          refine x_iconst (pc' := 35) rfl rfl ?_
          refine x_goto (pc' := 57) rfl rfl ?_
          refine x_reti rfl rfl ?_
          refine sK_i (pc' := 92) rfl ?_
          refine x_cv (ls0 := [_, _]) (rest := []) rfl rfl rfl rfl rfl ?_
          refine x_aload_n (pc' := 1) rfl rfl rfl rfl rfl ?_
          refine x_iload_n (pc' := 2) rfl rfl rfl ?_
          refine x_pI (pc' := 5) rfl rfl rfl ?_
          refine x_iload_n (pc' := 6) rfl rfl rfl ?_
          refine x_if (a' := 13) (pc' := 9) (z := true) rfl rfl rfl (by decide) (fun _ => ?_) (fun h => by cases h)
          refine x_iconst (pc' := 14) rfl rfl ?_
          refine x_retz (z := false) rfl rfl ?_
          refine sK_i (pc' := 95) rfl ?_
          refine x_if (a' := 100) (pc' := 98) (z := false) rfl rfl rfl (by decide) (fun h => by cases h) (fun _ => ?_)
          refine x_iconst (pc' := 99) rfl rfl ?_
          refine x_reti rfl rfl ?_
          exact k5 q4 q40 (of_decide_eq_false q44) (of_decide_eq_false q55)
    · refine x_iload (pc' := 26) rfl rfl rfl ?_
      refine x_iload_n (pc' := 27) rfl rfl rfl ?_
      refine x_icmp_n (a' := 45) (pc' := 30) (z := decide (p < u)) rfl rfl rfl (ik_le _ _) (fun q76 => ?_) (fun q76 => ?_)
      · refine x_iconst (pc' := 46) rfl rfl ?_
        refine x_istore (pc' := 48) (ls' := [_, _, _, _, _, _, _, _, _, _, _, _, _, _, _]) rfl rfl rfl rfl ?_
        refine x_iload_n (pc' := 49) rfl rfl rfl ?_
        refine x_cs (ls0 := [_]) (rest := []) rfl rfl rfl rfl ?_
        refine x_iload_n (pc' := 1) rfl rfl rfl ?_
        refine x_iconst (pc' := 2) rfl rfl ?_
        refine x_iconst (pc' := 3) rfl rfl ?_
        refine x_cs (ls0 := [_, _, _]) (rest := []) rfl rfl rfl rfl ?_
        refine x_iload_n (pc' := 1) rfl rfl rfl ?_
        refine x_iload_n (pc' := 2) rfl rfl rfl ?_
        refine x_icmp (a' := 14) (pc' := 5) (z := decide (b < 0)) rfl rfl rfl (ic_lt (p := b) (q := 0) (gb31 hb) (by decide)) (fun h => absurd (of_decide_eq_true h) (by first | decide | omega | simp)) (fun _ => ?_)
        refine x_iload_n (pc' := 6) rfl rfl rfl ?_
        refine x_iload_n (pc' := 7) rfl rfl rfl ?_
        refine x_icmp (a' := 14) (pc' := 10) (z := decide (4 < b)) rfl rfl rfl (ic_gt (p := b) (q := 4) (gb31 hb) (by decide)) (fun h => absurd (of_decide_eq_true h) (show ¬ 4 < b by omega)) (fun _ => ?_)
        refine x_iconst (pc' := 11) rfl rfl ?_
        refine x_goto (pc' := 15) rfl rfl ?_
        refine x_retz (z := true) rfl rfl ?_
        refine sK_i (pc' := 6) rfl ?_
        refine x_retz (z := true) rfl rfl ?_
        refine sK_i (pc' := 52) rfl ?_
        refine x_if (a' := 78) (pc' := 55) (z := false) rfl rfl rfl (by decide) (fun h => by cases h) (fun _ => ?_)
        refine x_aload_n (pc' := 56) rfl rfl rfl rfl rfl ?_
        refine x_gR (pc' := 59) (r := (some 0)) rfl rfl rfl (kR_769_0 hc) ?_
        refine x_iload_n (pc' := 60) rfl rfl rfl ?_
        refine x_iald (pc' := 61) (N := 5) (x := (mA M 0 b)) rfl rfl rfl (kN_21_0 hc) (io_in (p := b) (N := 5) hb (by decide)) (Eq.trans (congrArg (sA t 21 0) (nn_io (p := b) (Nat.lt_trans hb (by decide)))) (gA hM rfl)) ?_
        refine x_if (a' := 78) (pc' := 64) (z := decide ((mA M 0 b) = 0)) rfl rfl rfl rfl (fun q80 => ?_) (fun q80 => ?_)
        · refine x_iconst (pc' := 79) rfl rfl ?_
          refine x_istore (pc' := 81) (ls' := [_, _, _, _, _, _, _, _, _, _, _, _, _, _, _]) rfl rfl rfl rfl ?_
          refine x_aload_n (pc' := 82) rfl rfl rfl rfl rfl ?_
          refine x_aload_n (pc' := 83) rfl rfl rfl rfl rfl ?_
          refine x_iload_n (pc' := 84) rfl rfl rfl ?_
          refine x_iload_n (pc' := 85) rfl rfl rfl ?_
          refine x_iload (pc' := 87) rfl rfl rfl ?_
          refine x_iload (pc' := 89) rfl rfl rfl ?_
          refine x_cv (ls0 := [_, _, _, _, _, sJk]) (rest := [_]) rfl rfl rfl rfl rfl ?_
          refine x_iload_n (pc' := 1) rfl rfl rfl ?_
          refine x_cs (ls0 := [_]) (rest := []) rfl rfl rfl rfl ?_
          refine x_iload_n (pc' := 1) rfl rfl rfl ?_
          refine x_iconst (pc' := 2) rfl rfl ?_
          refine x_iconst (pc' := 3) rfl rfl ?_
          refine x_cs (ls0 := [_, _, _]) (rest := []) rfl rfl rfl rfl ?_
          refine x_iload_n (pc' := 1) rfl rfl rfl ?_
          refine x_iload_n (pc' := 2) rfl rfl rfl ?_
          refine x_icmp (a' := 14) (pc' := 5) (z := decide (m < 0)) rfl rfl rfl (ic_lt (p := m) (q := 0) (gm31 hm) (by decide)) (fun h => absurd (of_decide_eq_true h) (by first | decide | omega | simp)) (fun _ => ?_)
          refine x_iload_n (pc' := 6) rfl rfl rfl ?_
          refine x_iload_n (pc' := 7) rfl rfl rfl ?_
          refine x_icmp (a' := 14) (pc' := 10) (z := decide (5 < m)) rfl rfl rfl (ic_gt (p := m) (q := 5) (gm31 hm) (by decide)) (fun h => absurd (of_decide_eq_true h) (show ¬ 5 < m by omega)) (fun _ => ?_)
          refine x_iconst (pc' := 11) rfl rfl ?_
          refine x_goto (pc' := 15) rfl rfl ?_
          refine x_retz (z := true) rfl rfl ?_
          refine sK_i (pc' := 6) rfl ?_
          refine x_retz (z := true) rfl rfl ?_
          refine sK_i (pc' := 4) rfl ?_
          refine x_if (a' := 18) (pc' := 7) (z := false) rfl rfl rfl (by decide) (fun h => by cases h) (fun _ => ?_)
          refine x_iload_n (pc' := 8) rfl rfl rfl ?_
          refine x_cs (ls0 := [_]) (rest := []) rfl rfl rfl rfl ?_
          refine x_iload_n (pc' := 1) rfl rfl rfl ?_
          refine x_iconst (pc' := 2) rfl rfl ?_
          refine x_iconst (pc' := 3) rfl rfl ?_
          refine x_cs (ls0 := [_, _, _]) (rest := []) rfl rfl rfl rfl ?_
          refine x_iload_n (pc' := 1) rfl rfl rfl ?_
          refine x_iload_n (pc' := 2) rfl rfl rfl ?_
          refine x_icmp (a' := 14) (pc' := 5) (z := decide (b < 0)) rfl rfl rfl (ic_lt (p := b) (q := 0) (gb31 hb) (by decide)) (fun h => absurd (of_decide_eq_true h) (by first | decide | omega | simp)) (fun _ => ?_)
          refine x_iload_n (pc' := 6) rfl rfl rfl ?_
          refine x_iload_n (pc' := 7) rfl rfl rfl ?_
          refine x_icmp (a' := 14) (pc' := 10) (z := decide (4 < b)) rfl rfl rfl (ic_gt (p := b) (q := 4) (gb31 hb) (by decide)) (fun h => absurd (of_decide_eq_true h) (show ¬ 4 < b by omega)) (fun _ => ?_)
          refine x_iconst (pc' := 11) rfl rfl ?_
          refine x_goto (pc' := 15) rfl rfl ?_
          refine x_retz (z := true) rfl rfl ?_
          refine sK_i (pc' := 6) rfl ?_
          refine x_retz (z := true) rfl rfl ?_
          refine sK_i (pc' := 11) rfl ?_
          refine x_if (a' := 18) (pc' := 14) (z := false) rfl rfl rfl (by decide) (fun h => by cases h) (fun _ => ?_)
          refine x_iconst (pc' := 15) rfl rfl ?_
          refine x_goto (pc' := 19) rfl rfl ?_
          refine x_istore (pc' := 21) (ls' := [_, _, _, _, _, _]) rfl rfl rfl rfl ?_
          refine x_iload (pc' := 23) rfl rfl rfl ?_
          refine x_if (a' := 30) (pc' := 26) (z := true) rfl rfl rfl (by decide) (fun _ => ?_) (fun h => by cases h)
          refine x_iload_n (pc' := 31) rfl rfl rfl ?_
          refine x_if (a' := 38) (pc' := 34) (z := false) rfl rfl rfl (by decide) (fun h => by cases h) (fun _ => ?_)
          refine x_iconst (pc' := 35) rfl rfl ?_
          refine x_goto (pc' := 57) rfl rfl ?_
          refine x_reti rfl rfl ?_
          refine sK_i (pc' := 92) rfl ?_
          refine x_cv (ls0 := [_, _]) (rest := []) rfl rfl rfl rfl rfl ?_
          refine x_aload_n (pc' := 1) rfl rfl rfl rfl rfl ?_
          refine x_iload_n (pc' := 2) rfl rfl rfl ?_
          refine x_pI (pc' := 5) rfl rfl rfl ?_
          refine x_iload_n (pc' := 6) rfl rfl rfl ?_
          refine x_if (a' := 13) (pc' := 9) (z := true) rfl rfl rfl (by decide) (fun _ => ?_) (fun h => by cases h)
          refine x_iconst (pc' := 14) rfl rfl ?_
          refine x_retz (z := false) rfl rfl ?_
          refine sK_i (pc' := 95) rfl ?_
          refine x_if (a' := 100) (pc' := 98) (z := false) rfl rfl rfl (by decide) (fun h => by cases h) (fun _ => ?_)
          refine x_iconst (pc' := 99) rfl rfl ?_
          refine x_reti rfl rfl ?_
          exact k6 q4 q40 (of_decide_eq_false q76) (of_decide_eq_true q80)
        · refine x_aload_n (pc' := 65) rfl rfl rfl rfl rfl ?_
          refine x_gI (pc' := 68) (x := (io n)) rfl rfl rfl (gFn hM (Fr.refl _) hR) ?_
          refine x_sipush (pc' := 71) rfl rfl ?_
          refine x_icmp (a' := 78) (pc' := 74) (z := decide (198 < n)) rfl rfl rfl (ic_gt (p := n) (q := 198) (gn31 hR) (by decide)) (fun q91 => ?_) (fun q91 => ?_)
          · refine x_iconst (pc' := 79) rfl rfl ?_
            refine x_istore (pc' := 81) (ls' := [_, _, _, _, _, _, _, _, _, _, _, _, _, _, _]) rfl rfl rfl rfl ?_
            refine x_aload_n (pc' := 82) rfl rfl rfl rfl rfl ?_
            refine x_aload_n (pc' := 83) rfl rfl rfl rfl rfl ?_
            refine x_iload_n (pc' := 84) rfl rfl rfl ?_
            refine x_iload_n (pc' := 85) rfl rfl rfl ?_
            refine x_iload (pc' := 87) rfl rfl rfl ?_
            refine x_iload (pc' := 89) rfl rfl rfl ?_
            refine x_cv (ls0 := [_, _, _, _, _, sJk]) (rest := [_]) rfl rfl rfl rfl rfl ?_
            refine x_iload_n (pc' := 1) rfl rfl rfl ?_
            refine x_cs (ls0 := [_]) (rest := []) rfl rfl rfl rfl ?_
            refine x_iload_n (pc' := 1) rfl rfl rfl ?_
            refine x_iconst (pc' := 2) rfl rfl ?_
            refine x_iconst (pc' := 3) rfl rfl ?_
            refine x_cs (ls0 := [_, _, _]) (rest := []) rfl rfl rfl rfl ?_
            refine x_iload_n (pc' := 1) rfl rfl rfl ?_
            refine x_iload_n (pc' := 2) rfl rfl rfl ?_
            refine x_icmp (a' := 14) (pc' := 5) (z := decide (m < 0)) rfl rfl rfl (ic_lt (p := m) (q := 0) (gm31 hm) (by decide)) (fun h => absurd (of_decide_eq_true h) (by first | decide | omega | simp)) (fun _ => ?_)
            refine x_iload_n (pc' := 6) rfl rfl rfl ?_
            refine x_iload_n (pc' := 7) rfl rfl rfl ?_
            refine x_icmp (a' := 14) (pc' := 10) (z := decide (5 < m)) rfl rfl rfl (ic_gt (p := m) (q := 5) (gm31 hm) (by decide)) (fun h => absurd (of_decide_eq_true h) (show ¬ 5 < m by omega)) (fun _ => ?_)
            refine x_iconst (pc' := 11) rfl rfl ?_
            refine x_goto (pc' := 15) rfl rfl ?_
            refine x_retz (z := true) rfl rfl ?_
            refine sK_i (pc' := 6) rfl ?_
            refine x_retz (z := true) rfl rfl ?_
            refine sK_i (pc' := 4) rfl ?_
            refine x_if (a' := 18) (pc' := 7) (z := false) rfl rfl rfl (by decide) (fun h => by cases h) (fun _ => ?_)
            refine x_iload_n (pc' := 8) rfl rfl rfl ?_
            refine x_cs (ls0 := [_]) (rest := []) rfl rfl rfl rfl ?_
            refine x_iload_n (pc' := 1) rfl rfl rfl ?_
            refine x_iconst (pc' := 2) rfl rfl ?_
            refine x_iconst (pc' := 3) rfl rfl ?_
            refine x_cs (ls0 := [_, _, _]) (rest := []) rfl rfl rfl rfl ?_
            refine x_iload_n (pc' := 1) rfl rfl rfl ?_
            refine x_iload_n (pc' := 2) rfl rfl rfl ?_
            refine x_icmp (a' := 14) (pc' := 5) (z := decide (b < 0)) rfl rfl rfl (ic_lt (p := b) (q := 0) (gb31 hb) (by decide)) (fun h => absurd (of_decide_eq_true h) (by first | decide | omega | simp)) (fun _ => ?_)
            refine x_iload_n (pc' := 6) rfl rfl rfl ?_
            refine x_iload_n (pc' := 7) rfl rfl rfl ?_
            refine x_icmp (a' := 14) (pc' := 10) (z := decide (4 < b)) rfl rfl rfl (ic_gt (p := b) (q := 4) (gb31 hb) (by decide)) (fun h => absurd (of_decide_eq_true h) (show ¬ 4 < b by omega)) (fun _ => ?_)
            refine x_iconst (pc' := 11) rfl rfl ?_
            refine x_goto (pc' := 15) rfl rfl ?_
            refine x_retz (z := true) rfl rfl ?_
            refine sK_i (pc' := 6) rfl ?_
            refine x_retz (z := true) rfl rfl ?_
            refine sK_i (pc' := 11) rfl ?_
            refine x_if (a' := 18) (pc' := 14) (z := false) rfl rfl rfl (by decide) (fun h => by cases h) (fun _ => ?_)
            refine x_iconst (pc' := 15) rfl rfl ?_
            refine x_goto (pc' := 19) rfl rfl ?_
            refine x_istore (pc' := 21) (ls' := [_, _, _, _, _, _]) rfl rfl rfl rfl ?_
            refine x_iload (pc' := 23) rfl rfl rfl ?_
            refine x_if (a' := 30) (pc' := 26) (z := true) rfl rfl rfl (by decide) (fun _ => ?_) (fun h => by cases h)
            refine x_iload_n (pc' := 31) rfl rfl rfl ?_
            refine x_if (a' := 38) (pc' := 34) (z := false) rfl rfl rfl (by decide) (fun h => by cases h) (fun _ => ?_)
            refine x_iconst (pc' := 35) rfl rfl ?_
            refine x_goto (pc' := 57) rfl rfl ?_
            refine x_reti rfl rfl ?_
            refine sK_i (pc' := 92) rfl ?_
            refine x_cv (ls0 := [_, _]) (rest := []) rfl rfl rfl rfl rfl ?_
            refine x_aload_n (pc' := 1) rfl rfl rfl rfl rfl ?_
            refine x_iload_n (pc' := 2) rfl rfl rfl ?_
            refine x_pI (pc' := 5) rfl rfl rfl ?_
            refine x_iload_n (pc' := 6) rfl rfl rfl ?_
            refine x_if (a' := 13) (pc' := 9) (z := true) rfl rfl rfl (by decide) (fun _ => ?_) (fun h => by cases h)
            refine x_iconst (pc' := 14) rfl rfl ?_
            refine x_retz (z := false) rfl rfl ?_
            refine sK_i (pc' := 95) rfl ?_
            refine x_if (a' := 100) (pc' := 98) (z := false) rfl rfl rfl (by decide) (fun h => by cases h) (fun _ => ?_)
            refine x_iconst (pc' := 99) rfl rfl ?_
            refine x_reti rfl rfl ?_
            exact k7 q4 q40 (of_decide_eq_false q76) (of_decide_eq_false q80) (of_decide_eq_true q91)
          · refine x_iconst (pc' := 75) rfl rfl ?_
            refine x_goto (pc' := 79) rfl rfl ?_
            refine x_istore (pc' := 81) (ls' := [_, _, _, _, _, _, _, _, _, _, _, _, _, _, _]) rfl rfl rfl rfl ?_
            refine x_aload_n (pc' := 82) rfl rfl rfl rfl rfl ?_
            refine x_aload_n (pc' := 83) rfl rfl rfl rfl rfl ?_
            refine x_iload_n (pc' := 84) rfl rfl rfl ?_
            refine x_iload_n (pc' := 85) rfl rfl rfl ?_
            refine x_iload (pc' := 87) rfl rfl rfl ?_
            refine x_iload (pc' := 89) rfl rfl rfl ?_
            refine x_cv (ls0 := [_, _, _, _, _, sJk]) (rest := [_]) rfl rfl rfl rfl rfl ?_
            refine x_iload_n (pc' := 1) rfl rfl rfl ?_
            refine x_cs (ls0 := [_]) (rest := []) rfl rfl rfl rfl ?_
            refine x_iload_n (pc' := 1) rfl rfl rfl ?_
            refine x_iconst (pc' := 2) rfl rfl ?_
            refine x_iconst (pc' := 3) rfl rfl ?_
            refine x_cs (ls0 := [_, _, _]) (rest := []) rfl rfl rfl rfl ?_
            refine x_iload_n (pc' := 1) rfl rfl rfl ?_
            refine x_iload_n (pc' := 2) rfl rfl rfl ?_
            refine x_icmp (a' := 14) (pc' := 5) (z := decide (m < 0)) rfl rfl rfl (ic_lt (p := m) (q := 0) (gm31 hm) (by decide)) (fun h => absurd (of_decide_eq_true h) (by first | decide | omega | simp)) (fun _ => ?_)
            refine x_iload_n (pc' := 6) rfl rfl rfl ?_
            refine x_iload_n (pc' := 7) rfl rfl rfl ?_
            refine x_icmp (a' := 14) (pc' := 10) (z := decide (5 < m)) rfl rfl rfl (ic_gt (p := m) (q := 5) (gm31 hm) (by decide)) (fun h => absurd (of_decide_eq_true h) (show ¬ 5 < m by omega)) (fun _ => ?_)
            refine x_iconst (pc' := 11) rfl rfl ?_
            refine x_goto (pc' := 15) rfl rfl ?_
            refine x_retz (z := true) rfl rfl ?_
            refine sK_i (pc' := 6) rfl ?_
            refine x_retz (z := true) rfl rfl ?_
            refine sK_i (pc' := 4) rfl ?_
            refine x_if (a' := 18) (pc' := 7) (z := false) rfl rfl rfl (by decide) (fun h => by cases h) (fun _ => ?_)
            refine x_iload_n (pc' := 8) rfl rfl rfl ?_
            refine x_cs (ls0 := [_]) (rest := []) rfl rfl rfl rfl ?_
            refine x_iload_n (pc' := 1) rfl rfl rfl ?_
            refine x_iconst (pc' := 2) rfl rfl ?_
            refine x_iconst (pc' := 3) rfl rfl ?_
            refine x_cs (ls0 := [_, _, _]) (rest := []) rfl rfl rfl rfl ?_
            refine x_iload_n (pc' := 1) rfl rfl rfl ?_
            refine x_iload_n (pc' := 2) rfl rfl rfl ?_
            refine x_icmp (a' := 14) (pc' := 5) (z := decide (b < 0)) rfl rfl rfl (ic_lt (p := b) (q := 0) (gb31 hb) (by decide)) (fun h => absurd (of_decide_eq_true h) (by first | decide | omega | simp)) (fun _ => ?_)
            refine x_iload_n (pc' := 6) rfl rfl rfl ?_
            refine x_iload_n (pc' := 7) rfl rfl rfl ?_
            refine x_icmp (a' := 14) (pc' := 10) (z := decide (4 < b)) rfl rfl rfl (ic_gt (p := b) (q := 4) (gb31 hb) (by decide)) (fun h => absurd (of_decide_eq_true h) (show ¬ 4 < b by omega)) (fun _ => ?_)
            refine x_iconst (pc' := 11) rfl rfl ?_
            refine x_goto (pc' := 15) rfl rfl ?_
            refine x_retz (z := true) rfl rfl ?_
            refine sK_i (pc' := 6) rfl ?_
            refine x_retz (z := true) rfl rfl ?_
            refine sK_i (pc' := 11) rfl ?_
            refine x_if (a' := 18) (pc' := 14) (z := false) rfl rfl rfl (by decide) (fun h => by cases h) (fun _ => ?_)
            refine x_iconst (pc' := 15) rfl rfl ?_
            refine x_goto (pc' := 19) rfl rfl ?_
            refine x_istore (pc' := 21) (ls' := [_, _, _, _, _, _]) rfl rfl rfl rfl ?_
            refine x_iload (pc' := 23) rfl rfl rfl ?_
            refine x_if (a' := 30) (pc' := 26) (z := true) rfl rfl rfl (by decide) (fun _ => ?_) (fun h => by cases h)
            refine x_iload_n (pc' := 31) rfl rfl rfl ?_
            refine x_if (a' := 38) (pc' := 34) (z := false) rfl rfl rfl (by decide) (fun h => by cases h) (fun _ => ?_)
            refine x_iconst (pc' := 35) rfl rfl ?_
            refine x_goto (pc' := 57) rfl rfl ?_
            refine x_reti rfl rfl ?_
            refine sK_i (pc' := 92) rfl ?_
            refine x_cv (ls0 := [_, _]) (rest := []) rfl rfl rfl rfl rfl ?_
            refine x_aload_n (pc' := 1) rfl rfl rfl rfl rfl ?_
            refine x_iload_n (pc' := 2) rfl rfl rfl ?_
            refine x_pI (pc' := 5) rfl rfl rfl ?_
            refine x_iload_n (pc' := 6) rfl rfl rfl ?_
            refine x_if (a' := 13) (pc' := 9) (z := true) rfl rfl rfl (by decide) (fun _ => ?_) (fun h => by cases h)
            refine x_iconst (pc' := 14) rfl rfl ?_
            refine x_retz (z := false) rfl rfl ?_
            refine sK_i (pc' := 95) rfl ?_
            refine x_if (a' := 100) (pc' := 98) (z := false) rfl rfl rfl (by decide) (fun h => by cases h) (fun _ => ?_)
            refine x_iconst (pc' := 99) rfl rfl ?_
            refine x_reti rfl rfl ?_
            exact k8 q4 q40 (of_decide_eq_false q76) (of_decide_eq_false q80) (of_decide_eq_false q91)
      · refine x_iload (pc' := 32) rfl rfl rfl ?_
        refine x_iconst (pc' := 33) rfl rfl ?_
        refine x_bipush (pc' := 35) rfl rfl ?_
        refine x_cs (ls0 := [_, _, _]) (rest := []) rfl rfl rfl rfl ?_
        refine r145_g ?_
        refine sK_i (pc' := 38) rfl ?_
        refine x_ifeq_z (a' := 45) (pc' := 41) (z := (inB a 1 100)) rfl rfl rfl (fun q112 => ?_) (fun q112 => ?_)
        · refine x_iconst (pc' := 46) rfl rfl ?_
          refine x_istore (pc' := 48) (ls' := [_, _, _, _, _, _, _, _, _, _, _, _, _, _, _]) rfl rfl rfl rfl ?_
          refine x_iload_n (pc' := 49) rfl rfl rfl ?_
          refine x_cs (ls0 := [_]) (rest := []) rfl rfl rfl rfl ?_
          refine x_iload_n (pc' := 1) rfl rfl rfl ?_
          refine x_iconst (pc' := 2) rfl rfl ?_
          refine x_iconst (pc' := 3) rfl rfl ?_
          refine x_cs (ls0 := [_, _, _]) (rest := []) rfl rfl rfl rfl ?_
          refine x_iload_n (pc' := 1) rfl rfl rfl ?_
          refine x_iload_n (pc' := 2) rfl rfl rfl ?_
          refine x_icmp (a' := 14) (pc' := 5) (z := decide (b < 0)) rfl rfl rfl (ic_lt (p := b) (q := 0) (gb31 hb) (by decide)) (fun h => absurd (of_decide_eq_true h) (by first | decide | omega | simp)) (fun _ => ?_)
          refine x_iload_n (pc' := 6) rfl rfl rfl ?_
          refine x_iload_n (pc' := 7) rfl rfl rfl ?_
          refine x_icmp (a' := 14) (pc' := 10) (z := decide (4 < b)) rfl rfl rfl (ic_gt (p := b) (q := 4) (gb31 hb) (by decide)) (fun h => absurd (of_decide_eq_true h) (show ¬ 4 < b by omega)) (fun _ => ?_)
          refine x_iconst (pc' := 11) rfl rfl ?_
          refine x_goto (pc' := 15) rfl rfl ?_
          refine x_retz (z := true) rfl rfl ?_
          refine sK_i (pc' := 6) rfl ?_
          refine x_retz (z := true) rfl rfl ?_
          refine sK_i (pc' := 52) rfl ?_
          refine x_if (a' := 78) (pc' := 55) (z := false) rfl rfl rfl (by decide) (fun h => by cases h) (fun _ => ?_)
          refine x_aload_n (pc' := 56) rfl rfl rfl rfl rfl ?_
          refine x_gR (pc' := 59) (r := (some 0)) rfl rfl rfl (kR_769_0 hc) ?_
          refine x_iload_n (pc' := 60) rfl rfl rfl ?_
          refine x_iald (pc' := 61) (N := 5) (x := (mA M 0 b)) rfl rfl rfl (kN_21_0 hc) (io_in (p := b) (N := 5) hb (by decide)) (Eq.trans (congrArg (sA t 21 0) (nn_io (p := b) (Nat.lt_trans hb (by decide)))) (gA hM rfl)) ?_
          refine x_if (a' := 78) (pc' := 64) (z := decide ((mA M 0 b) = 0)) rfl rfl rfl rfl (fun q116 => ?_) (fun q116 => ?_)
          · refine x_iconst (pc' := 79) rfl rfl ?_
            refine x_istore (pc' := 81) (ls' := [_, _, _, _, _, _, _, _, _, _, _, _, _, _, _]) rfl rfl rfl rfl ?_
            refine x_aload_n (pc' := 82) rfl rfl rfl rfl rfl ?_
            refine x_aload_n (pc' := 83) rfl rfl rfl rfl rfl ?_
            refine x_iload_n (pc' := 84) rfl rfl rfl ?_
            refine x_iload_n (pc' := 85) rfl rfl rfl ?_
            refine x_iload (pc' := 87) rfl rfl rfl ?_
            refine x_iload (pc' := 89) rfl rfl rfl ?_
            refine x_cv (ls0 := [_, _, _, _, _, sJk]) (rest := [_]) rfl rfl rfl rfl rfl ?_
            refine x_iload_n (pc' := 1) rfl rfl rfl ?_
            refine x_cs (ls0 := [_]) (rest := []) rfl rfl rfl rfl ?_
            refine x_iload_n (pc' := 1) rfl rfl rfl ?_
            refine x_iconst (pc' := 2) rfl rfl ?_
            refine x_iconst (pc' := 3) rfl rfl ?_
            refine x_cs (ls0 := [_, _, _]) (rest := []) rfl rfl rfl rfl ?_
            refine x_iload_n (pc' := 1) rfl rfl rfl ?_
            refine x_iload_n (pc' := 2) rfl rfl rfl ?_
            refine x_icmp (a' := 14) (pc' := 5) (z := decide (m < 0)) rfl rfl rfl (ic_lt (p := m) (q := 0) (gm31 hm) (by decide)) (fun h => absurd (of_decide_eq_true h) (by first | decide | omega | simp)) (fun _ => ?_)
            refine x_iload_n (pc' := 6) rfl rfl rfl ?_
            refine x_iload_n (pc' := 7) rfl rfl rfl ?_
            refine x_icmp (a' := 14) (pc' := 10) (z := decide (5 < m)) rfl rfl rfl (ic_gt (p := m) (q := 5) (gm31 hm) (by decide)) (fun h => absurd (of_decide_eq_true h) (show ¬ 5 < m by omega)) (fun _ => ?_)
            refine x_iconst (pc' := 11) rfl rfl ?_
            refine x_goto (pc' := 15) rfl rfl ?_
            refine x_retz (z := true) rfl rfl ?_
            refine sK_i (pc' := 6) rfl ?_
            refine x_retz (z := true) rfl rfl ?_
            refine sK_i (pc' := 4) rfl ?_
            refine x_if (a' := 18) (pc' := 7) (z := false) rfl rfl rfl (by decide) (fun h => by cases h) (fun _ => ?_)
            refine x_iload_n (pc' := 8) rfl rfl rfl ?_
            refine x_cs (ls0 := [_]) (rest := []) rfl rfl rfl rfl ?_
            refine x_iload_n (pc' := 1) rfl rfl rfl ?_
            refine x_iconst (pc' := 2) rfl rfl ?_
            refine x_iconst (pc' := 3) rfl rfl ?_
            refine x_cs (ls0 := [_, _, _]) (rest := []) rfl rfl rfl rfl ?_
            refine x_iload_n (pc' := 1) rfl rfl rfl ?_
            refine x_iload_n (pc' := 2) rfl rfl rfl ?_
            refine x_icmp (a' := 14) (pc' := 5) (z := decide (b < 0)) rfl rfl rfl (ic_lt (p := b) (q := 0) (gb31 hb) (by decide)) (fun h => absurd (of_decide_eq_true h) (by first | decide | omega | simp)) (fun _ => ?_)
            refine x_iload_n (pc' := 6) rfl rfl rfl ?_
            refine x_iload_n (pc' := 7) rfl rfl rfl ?_
            refine x_icmp (a' := 14) (pc' := 10) (z := decide (4 < b)) rfl rfl rfl (ic_gt (p := b) (q := 4) (gb31 hb) (by decide)) (fun h => absurd (of_decide_eq_true h) (show ¬ 4 < b by omega)) (fun _ => ?_)
            refine x_iconst (pc' := 11) rfl rfl ?_
            refine x_goto (pc' := 15) rfl rfl ?_
            refine x_retz (z := true) rfl rfl ?_
            refine sK_i (pc' := 6) rfl ?_
            refine x_retz (z := true) rfl rfl ?_
            refine sK_i (pc' := 11) rfl ?_
            refine x_if (a' := 18) (pc' := 14) (z := false) rfl rfl rfl (by decide) (fun h => by cases h) (fun _ => ?_)
            refine x_iconst (pc' := 15) rfl rfl ?_
            refine x_goto (pc' := 19) rfl rfl ?_
            refine x_istore (pc' := 21) (ls' := [_, _, _, _, _, _]) rfl rfl rfl rfl ?_
            refine x_iload (pc' := 23) rfl rfl rfl ?_
            refine x_if (a' := 30) (pc' := 26) (z := true) rfl rfl rfl (by decide) (fun _ => ?_) (fun h => by cases h)
            refine x_iload_n (pc' := 31) rfl rfl rfl ?_
            refine x_if (a' := 38) (pc' := 34) (z := false) rfl rfl rfl (by decide) (fun h => by cases h) (fun _ => ?_)
            refine x_iconst (pc' := 35) rfl rfl ?_
            refine x_goto (pc' := 57) rfl rfl ?_
            refine x_reti rfl rfl ?_
            refine sK_i (pc' := 92) rfl ?_
            refine x_cv (ls0 := [_, _]) (rest := []) rfl rfl rfl rfl rfl ?_
            refine x_aload_n (pc' := 1) rfl rfl rfl rfl rfl ?_
            refine x_iload_n (pc' := 2) rfl rfl rfl ?_
            refine x_pI (pc' := 5) rfl rfl rfl ?_
            refine x_iload_n (pc' := 6) rfl rfl rfl ?_
            refine x_if (a' := 13) (pc' := 9) (z := true) rfl rfl rfl (by decide) (fun _ => ?_) (fun h => by cases h)
            refine x_iconst (pc' := 14) rfl rfl ?_
            refine x_retz (z := false) rfl rfl ?_
            refine sK_i (pc' := 95) rfl ?_
            refine x_if (a' := 100) (pc' := 98) (z := false) rfl rfl rfl (by decide) (fun h => by cases h) (fun _ => ?_)
            refine x_iconst (pc' := 99) rfl rfl ?_
            refine x_reti rfl rfl ?_
            exact k9 q4 q40 (of_decide_eq_true q76) q112 (of_decide_eq_true q116)
          · refine x_aload_n (pc' := 65) rfl rfl rfl rfl rfl ?_
            refine x_gI (pc' := 68) (x := (io n)) rfl rfl rfl (gFn hM (Fr.refl _) hR) ?_
            refine x_sipush (pc' := 71) rfl rfl ?_
            refine x_icmp (a' := 78) (pc' := 74) (z := decide (198 < n)) rfl rfl rfl (ic_gt (p := n) (q := 198) (gn31 hR) (by decide)) (fun q127 => ?_) (fun q127 => ?_)
            · refine x_iconst (pc' := 79) rfl rfl ?_
              refine x_istore (pc' := 81) (ls' := [_, _, _, _, _, _, _, _, _, _, _, _, _, _, _]) rfl rfl rfl rfl ?_
              refine x_aload_n (pc' := 82) rfl rfl rfl rfl rfl ?_
              refine x_aload_n (pc' := 83) rfl rfl rfl rfl rfl ?_
              refine x_iload_n (pc' := 84) rfl rfl rfl ?_
              refine x_iload_n (pc' := 85) rfl rfl rfl ?_
              refine x_iload (pc' := 87) rfl rfl rfl ?_
              refine x_iload (pc' := 89) rfl rfl rfl ?_
              refine x_cv (ls0 := [_, _, _, _, _, sJk]) (rest := [_]) rfl rfl rfl rfl rfl ?_
              refine x_iload_n (pc' := 1) rfl rfl rfl ?_
              refine x_cs (ls0 := [_]) (rest := []) rfl rfl rfl rfl ?_
              refine x_iload_n (pc' := 1) rfl rfl rfl ?_
              refine x_iconst (pc' := 2) rfl rfl ?_
              refine x_iconst (pc' := 3) rfl rfl ?_
              refine x_cs (ls0 := [_, _, _]) (rest := []) rfl rfl rfl rfl ?_
              refine x_iload_n (pc' := 1) rfl rfl rfl ?_
              refine x_iload_n (pc' := 2) rfl rfl rfl ?_
              refine x_icmp (a' := 14) (pc' := 5) (z := decide (m < 0)) rfl rfl rfl (ic_lt (p := m) (q := 0) (gm31 hm) (by decide)) (fun h => absurd (of_decide_eq_true h) (by first | decide | omega | simp)) (fun _ => ?_)
              refine x_iload_n (pc' := 6) rfl rfl rfl ?_
              refine x_iload_n (pc' := 7) rfl rfl rfl ?_
              refine x_icmp (a' := 14) (pc' := 10) (z := decide (5 < m)) rfl rfl rfl (ic_gt (p := m) (q := 5) (gm31 hm) (by decide)) (fun h => absurd (of_decide_eq_true h) (show ¬ 5 < m by omega)) (fun _ => ?_)
              refine x_iconst (pc' := 11) rfl rfl ?_
              refine x_goto (pc' := 15) rfl rfl ?_
              refine x_retz (z := true) rfl rfl ?_
              refine sK_i (pc' := 6) rfl ?_
              refine x_retz (z := true) rfl rfl ?_
              refine sK_i (pc' := 4) rfl ?_
              refine x_if (a' := 18) (pc' := 7) (z := false) rfl rfl rfl (by decide) (fun h => by cases h) (fun _ => ?_)
              refine x_iload_n (pc' := 8) rfl rfl rfl ?_
              refine x_cs (ls0 := [_]) (rest := []) rfl rfl rfl rfl ?_
              refine x_iload_n (pc' := 1) rfl rfl rfl ?_
              refine x_iconst (pc' := 2) rfl rfl ?_
              refine x_iconst (pc' := 3) rfl rfl ?_
              refine x_cs (ls0 := [_, _, _]) (rest := []) rfl rfl rfl rfl ?_
              refine x_iload_n (pc' := 1) rfl rfl rfl ?_
              refine x_iload_n (pc' := 2) rfl rfl rfl ?_
              refine x_icmp (a' := 14) (pc' := 5) (z := decide (b < 0)) rfl rfl rfl (ic_lt (p := b) (q := 0) (gb31 hb) (by decide)) (fun h => absurd (of_decide_eq_true h) (by first | decide | omega | simp)) (fun _ => ?_)
              refine x_iload_n (pc' := 6) rfl rfl rfl ?_
              refine x_iload_n (pc' := 7) rfl rfl rfl ?_
              refine x_icmp (a' := 14) (pc' := 10) (z := decide (4 < b)) rfl rfl rfl (ic_gt (p := b) (q := 4) (gb31 hb) (by decide)) (fun h => absurd (of_decide_eq_true h) (show ¬ 4 < b by omega)) (fun _ => ?_)
              refine x_iconst (pc' := 11) rfl rfl ?_
              refine x_goto (pc' := 15) rfl rfl ?_
              refine x_retz (z := true) rfl rfl ?_
              refine sK_i (pc' := 6) rfl ?_
              refine x_retz (z := true) rfl rfl ?_
              refine sK_i (pc' := 11) rfl ?_
              refine x_if (a' := 18) (pc' := 14) (z := false) rfl rfl rfl (by decide) (fun h => by cases h) (fun _ => ?_)
              refine x_iconst (pc' := 15) rfl rfl ?_
              refine x_goto (pc' := 19) rfl rfl ?_
              refine x_istore (pc' := 21) (ls' := [_, _, _, _, _, _]) rfl rfl rfl rfl ?_
              refine x_iload (pc' := 23) rfl rfl rfl ?_
              refine x_if (a' := 30) (pc' := 26) (z := true) rfl rfl rfl (by decide) (fun _ => ?_) (fun h => by cases h)
              refine x_iload_n (pc' := 31) rfl rfl rfl ?_
              refine x_if (a' := 38) (pc' := 34) (z := false) rfl rfl rfl (by decide) (fun h => by cases h) (fun _ => ?_)
              refine x_iconst (pc' := 35) rfl rfl ?_
              refine x_goto (pc' := 57) rfl rfl ?_
              refine x_reti rfl rfl ?_
              refine sK_i (pc' := 92) rfl ?_
              refine x_cv (ls0 := [_, _]) (rest := []) rfl rfl rfl rfl rfl ?_
              refine x_aload_n (pc' := 1) rfl rfl rfl rfl rfl ?_
              refine x_iload_n (pc' := 2) rfl rfl rfl ?_
              refine x_pI (pc' := 5) rfl rfl rfl ?_
              refine x_iload_n (pc' := 6) rfl rfl rfl ?_
              refine x_if (a' := 13) (pc' := 9) (z := true) rfl rfl rfl (by decide) (fun _ => ?_) (fun h => by cases h)
              refine x_iconst (pc' := 14) rfl rfl ?_
              refine x_retz (z := false) rfl rfl ?_
              refine sK_i (pc' := 95) rfl ?_
              refine x_if (a' := 100) (pc' := 98) (z := false) rfl rfl rfl (by decide) (fun h => by cases h) (fun _ => ?_)
              refine x_iconst (pc' := 99) rfl rfl ?_
              refine x_reti rfl rfl ?_
              exact k10 q4 q40 (of_decide_eq_true q76) q112 (of_decide_eq_false q116) (of_decide_eq_true q127)
            · refine x_iconst (pc' := 75) rfl rfl ?_
              refine x_goto (pc' := 79) rfl rfl ?_
              refine x_istore (pc' := 81) (ls' := [_, _, _, _, _, _, _, _, _, _, _, _, _, _, _]) rfl rfl rfl rfl ?_
              refine x_aload_n (pc' := 82) rfl rfl rfl rfl rfl ?_
              refine x_aload_n (pc' := 83) rfl rfl rfl rfl rfl ?_
              refine x_iload_n (pc' := 84) rfl rfl rfl ?_
              refine x_iload_n (pc' := 85) rfl rfl rfl ?_
              refine x_iload (pc' := 87) rfl rfl rfl ?_
              refine x_iload (pc' := 89) rfl rfl rfl ?_
              refine x_cv (ls0 := [_, _, _, _, _, sJk]) (rest := [_]) rfl rfl rfl rfl rfl ?_
              refine x_iload_n (pc' := 1) rfl rfl rfl ?_
              refine x_cs (ls0 := [_]) (rest := []) rfl rfl rfl rfl ?_
              refine x_iload_n (pc' := 1) rfl rfl rfl ?_
              refine x_iconst (pc' := 2) rfl rfl ?_
              refine x_iconst (pc' := 3) rfl rfl ?_
              refine x_cs (ls0 := [_, _, _]) (rest := []) rfl rfl rfl rfl ?_
              refine x_iload_n (pc' := 1) rfl rfl rfl ?_
              refine x_iload_n (pc' := 2) rfl rfl rfl ?_
              refine x_icmp (a' := 14) (pc' := 5) (z := decide (m < 0)) rfl rfl rfl (ic_lt (p := m) (q := 0) (gm31 hm) (by decide)) (fun h => absurd (of_decide_eq_true h) (by first | decide | omega | simp)) (fun _ => ?_)
              refine x_iload_n (pc' := 6) rfl rfl rfl ?_
              refine x_iload_n (pc' := 7) rfl rfl rfl ?_
              refine x_icmp (a' := 14) (pc' := 10) (z := decide (5 < m)) rfl rfl rfl (ic_gt (p := m) (q := 5) (gm31 hm) (by decide)) (fun h => absurd (of_decide_eq_true h) (show ¬ 5 < m by omega)) (fun _ => ?_)
              refine x_iconst (pc' := 11) rfl rfl ?_
              refine x_goto (pc' := 15) rfl rfl ?_
              refine x_retz (z := true) rfl rfl ?_
              refine sK_i (pc' := 6) rfl ?_
              refine x_retz (z := true) rfl rfl ?_
              refine sK_i (pc' := 4) rfl ?_
              refine x_if (a' := 18) (pc' := 7) (z := false) rfl rfl rfl (by decide) (fun h => by cases h) (fun _ => ?_)
              refine x_iload_n (pc' := 8) rfl rfl rfl ?_
              refine x_cs (ls0 := [_]) (rest := []) rfl rfl rfl rfl ?_
              refine x_iload_n (pc' := 1) rfl rfl rfl ?_
              refine x_iconst (pc' := 2) rfl rfl ?_
              refine x_iconst (pc' := 3) rfl rfl ?_
              refine x_cs (ls0 := [_, _, _]) (rest := []) rfl rfl rfl rfl ?_
              refine x_iload_n (pc' := 1) rfl rfl rfl ?_
              refine x_iload_n (pc' := 2) rfl rfl rfl ?_
              refine x_icmp (a' := 14) (pc' := 5) (z := decide (b < 0)) rfl rfl rfl (ic_lt (p := b) (q := 0) (gb31 hb) (by decide)) (fun h => absurd (of_decide_eq_true h) (by first | decide | omega | simp)) (fun _ => ?_)
              refine x_iload_n (pc' := 6) rfl rfl rfl ?_
              refine x_iload_n (pc' := 7) rfl rfl rfl ?_
              refine x_icmp (a' := 14) (pc' := 10) (z := decide (4 < b)) rfl rfl rfl (ic_gt (p := b) (q := 4) (gb31 hb) (by decide)) (fun h => absurd (of_decide_eq_true h) (show ¬ 4 < b by omega)) (fun _ => ?_)
              refine x_iconst (pc' := 11) rfl rfl ?_
              refine x_goto (pc' := 15) rfl rfl ?_
              refine x_retz (z := true) rfl rfl ?_
              refine sK_i (pc' := 6) rfl ?_
              refine x_retz (z := true) rfl rfl ?_
              refine sK_i (pc' := 11) rfl ?_
              refine x_if (a' := 18) (pc' := 14) (z := false) rfl rfl rfl (by decide) (fun h => by cases h) (fun _ => ?_)
              refine x_iconst (pc' := 15) rfl rfl ?_
              refine x_goto (pc' := 19) rfl rfl ?_
              refine x_istore (pc' := 21) (ls' := [_, _, _, _, _, _]) rfl rfl rfl rfl ?_
              refine x_iload (pc' := 23) rfl rfl rfl ?_
              refine x_if (a' := 30) (pc' := 26) (z := true) rfl rfl rfl (by decide) (fun _ => ?_) (fun h => by cases h)
              refine x_iload_n (pc' := 31) rfl rfl rfl ?_
              refine x_if (a' := 38) (pc' := 34) (z := false) rfl rfl rfl (by decide) (fun h => by cases h) (fun _ => ?_)
              refine x_iconst (pc' := 35) rfl rfl ?_
              refine x_goto (pc' := 57) rfl rfl ?_
              refine x_reti rfl rfl ?_
              refine sK_i (pc' := 92) rfl ?_
              refine x_cv (ls0 := [_, _]) (rest := []) rfl rfl rfl rfl rfl ?_
              refine x_aload_n (pc' := 1) rfl rfl rfl rfl rfl ?_
              refine x_iload_n (pc' := 2) rfl rfl rfl ?_
              refine x_pI (pc' := 5) rfl rfl rfl ?_
              refine x_iload_n (pc' := 6) rfl rfl rfl ?_
              refine x_if (a' := 13) (pc' := 9) (z := true) rfl rfl rfl (by decide) (fun _ => ?_) (fun h => by cases h)
              refine x_iconst (pc' := 14) rfl rfl ?_
              refine x_retz (z := false) rfl rfl ?_
              refine sK_i (pc' := 95) rfl ?_
              refine x_if (a' := 100) (pc' := 98) (z := false) rfl rfl rfl (by decide) (fun h => by cases h) (fun _ => ?_)
              refine x_iconst (pc' := 99) rfl rfl ?_
              refine x_reti rfl rfl ?_
              exact k11 q4 q40 (of_decide_eq_true q76) q112 (of_decide_eq_false q116) (of_decide_eq_false q127)
        · refine x_iconst (pc' := 42) rfl rfl ?_
          refine x_goto (pc' := 46) rfl rfl ?_
          refine x_istore (pc' := 48) (ls' := [_, _, _, _, _, _, _, _, _, _, _, _, _, _, _]) rfl rfl rfl rfl ?_
          refine x_iload_n (pc' := 49) rfl rfl rfl ?_
          refine x_cs (ls0 := [_]) (rest := []) rfl rfl rfl rfl ?_
          refine x_iload_n (pc' := 1) rfl rfl rfl ?_
          refine x_iconst (pc' := 2) rfl rfl ?_
          refine x_iconst (pc' := 3) rfl rfl ?_
          refine x_cs (ls0 := [_, _, _]) (rest := []) rfl rfl rfl rfl ?_
          refine x_iload_n (pc' := 1) rfl rfl rfl ?_
          refine x_iload_n (pc' := 2) rfl rfl rfl ?_
          refine x_icmp (a' := 14) (pc' := 5) (z := decide (b < 0)) rfl rfl rfl (ic_lt (p := b) (q := 0) (gb31 hb) (by decide)) (fun h => absurd (of_decide_eq_true h) (by first | decide | omega | simp)) (fun _ => ?_)
          refine x_iload_n (pc' := 6) rfl rfl rfl ?_
          refine x_iload_n (pc' := 7) rfl rfl rfl ?_
          refine x_icmp (a' := 14) (pc' := 10) (z := decide (4 < b)) rfl rfl rfl (ic_gt (p := b) (q := 4) (gb31 hb) (by decide)) (fun h => absurd (of_decide_eq_true h) (show ¬ 4 < b by omega)) (fun _ => ?_)
          refine x_iconst (pc' := 11) rfl rfl ?_
          refine x_goto (pc' := 15) rfl rfl ?_
          refine x_retz (z := true) rfl rfl ?_
          refine sK_i (pc' := 6) rfl ?_
          refine x_retz (z := true) rfl rfl ?_
          refine sK_i (pc' := 52) rfl ?_
          refine x_if (a' := 78) (pc' := 55) (z := false) rfl rfl rfl (by decide) (fun h => by cases h) (fun _ => ?_)
          refine x_aload_n (pc' := 56) rfl rfl rfl rfl rfl ?_
          refine x_gR (pc' := 59) (r := (some 0)) rfl rfl rfl (kR_769_0 hc) ?_
          refine x_iload_n (pc' := 60) rfl rfl rfl ?_
          refine x_iald (pc' := 61) (N := 5) (x := (mA M 0 b)) rfl rfl rfl (kN_21_0 hc) (io_in (p := b) (N := 5) hb (by decide)) (Eq.trans (congrArg (sA t 21 0) (nn_io (p := b) (Nat.lt_trans hb (by decide)))) (gA hM rfl)) ?_
          refine x_if (a' := 78) (pc' := 64) (z := decide ((mA M 0 b) = 0)) rfl rfl rfl rfl (fun q151 => ?_) (fun q151 => ?_)
          · refine x_iconst (pc' := 79) rfl rfl ?_
            refine x_istore (pc' := 81) (ls' := [_, _, _, _, _, _, _, _, _, _, _, _, _, _, _]) rfl rfl rfl rfl ?_
            refine x_aload_n (pc' := 82) rfl rfl rfl rfl rfl ?_
            refine x_aload_n (pc' := 83) rfl rfl rfl rfl rfl ?_
            refine x_iload_n (pc' := 84) rfl rfl rfl ?_
            refine x_iload_n (pc' := 85) rfl rfl rfl ?_
            refine x_iload (pc' := 87) rfl rfl rfl ?_
            refine x_iload (pc' := 89) rfl rfl rfl ?_
            refine x_cv (ls0 := [_, _, _, _, _, sJk]) (rest := [_]) rfl rfl rfl rfl rfl ?_
            refine x_iload_n (pc' := 1) rfl rfl rfl ?_
            refine x_cs (ls0 := [_]) (rest := []) rfl rfl rfl rfl ?_
            refine x_iload_n (pc' := 1) rfl rfl rfl ?_
            refine x_iconst (pc' := 2) rfl rfl ?_
            refine x_iconst (pc' := 3) rfl rfl ?_
            refine x_cs (ls0 := [_, _, _]) (rest := []) rfl rfl rfl rfl ?_
            refine x_iload_n (pc' := 1) rfl rfl rfl ?_
            refine x_iload_n (pc' := 2) rfl rfl rfl ?_
            refine x_icmp (a' := 14) (pc' := 5) (z := decide (m < 0)) rfl rfl rfl (ic_lt (p := m) (q := 0) (gm31 hm) (by decide)) (fun h => absurd (of_decide_eq_true h) (by first | decide | omega | simp)) (fun _ => ?_)
            refine x_iload_n (pc' := 6) rfl rfl rfl ?_
            refine x_iload_n (pc' := 7) rfl rfl rfl ?_
            refine x_icmp (a' := 14) (pc' := 10) (z := decide (5 < m)) rfl rfl rfl (ic_gt (p := m) (q := 5) (gm31 hm) (by decide)) (fun h => absurd (of_decide_eq_true h) (show ¬ 5 < m by omega)) (fun _ => ?_)
            refine x_iconst (pc' := 11) rfl rfl ?_
            refine x_goto (pc' := 15) rfl rfl ?_
            refine x_retz (z := true) rfl rfl ?_
            refine sK_i (pc' := 6) rfl ?_
            refine x_retz (z := true) rfl rfl ?_
            refine sK_i (pc' := 4) rfl ?_
            refine x_if (a' := 18) (pc' := 7) (z := false) rfl rfl rfl (by decide) (fun h => by cases h) (fun _ => ?_)
            refine x_iload_n (pc' := 8) rfl rfl rfl ?_
            refine x_cs (ls0 := [_]) (rest := []) rfl rfl rfl rfl ?_
            refine x_iload_n (pc' := 1) rfl rfl rfl ?_
            refine x_iconst (pc' := 2) rfl rfl ?_
            refine x_iconst (pc' := 3) rfl rfl ?_
            refine x_cs (ls0 := [_, _, _]) (rest := []) rfl rfl rfl rfl ?_
            refine x_iload_n (pc' := 1) rfl rfl rfl ?_
            refine x_iload_n (pc' := 2) rfl rfl rfl ?_
            refine x_icmp (a' := 14) (pc' := 5) (z := decide (b < 0)) rfl rfl rfl (ic_lt (p := b) (q := 0) (gb31 hb) (by decide)) (fun h => absurd (of_decide_eq_true h) (by first | decide | omega | simp)) (fun _ => ?_)
            refine x_iload_n (pc' := 6) rfl rfl rfl ?_
            refine x_iload_n (pc' := 7) rfl rfl rfl ?_
            refine x_icmp (a' := 14) (pc' := 10) (z := decide (4 < b)) rfl rfl rfl (ic_gt (p := b) (q := 4) (gb31 hb) (by decide)) (fun h => absurd (of_decide_eq_true h) (show ¬ 4 < b by omega)) (fun _ => ?_)
            refine x_iconst (pc' := 11) rfl rfl ?_
            refine x_goto (pc' := 15) rfl rfl ?_
            refine x_retz (z := true) rfl rfl ?_
            refine sK_i (pc' := 6) rfl ?_
            refine x_retz (z := true) rfl rfl ?_
            refine sK_i (pc' := 11) rfl ?_
            refine x_if (a' := 18) (pc' := 14) (z := false) rfl rfl rfl (by decide) (fun h => by cases h) (fun _ => ?_)
            refine x_iconst (pc' := 15) rfl rfl ?_
            refine x_goto (pc' := 19) rfl rfl ?_
            refine x_istore (pc' := 21) (ls' := [_, _, _, _, _, _]) rfl rfl rfl rfl ?_
            refine x_iload (pc' := 23) rfl rfl rfl ?_
            refine x_if (a' := 30) (pc' := 26) (z := true) rfl rfl rfl (by decide) (fun _ => ?_) (fun h => by cases h)
            refine x_iload_n (pc' := 31) rfl rfl rfl ?_
            refine x_if (a' := 38) (pc' := 34) (z := true) rfl rfl rfl (by decide) (fun _ => ?_) (fun h => by cases h)
            refine x_aload_n (pc' := 39) rfl rfl rfl rfl rfl ?_
            refine x_gR (pc' := 42) (r := (some 2)) rfl rfl rfl (kR_781_0 hc) ?_
            refine x_iload_n (pc' := 43) rfl rfl rfl ?_
            refine x_bald (pc' := 44) (N := 6) (z := (mB M 2 m)) rfl rfl (kN_22_2 hc) (io_in (p := m) (N := 6) hm (by decide)) (Eq.trans (congrArg (sB t 22 2) (nn_io (p := m) (Nat.lt_trans hm (by decide)))) (gB hM)) ?_
            refine x_ifne_z (a' := 52) (pc' := 47) (z := (mB M 2 m)) rfl rfl rfl (fun q160 => ?_) (fun q160 => ?_)
            · refine x_iconst (pc' := 53) rfl rfl ?_
              refine x_goto (pc' := 57) rfl rfl ?_
              refine x_reti rfl rfl ?_
              refine sK_i (pc' := 92) rfl ?_
              refine x_cv (ls0 := [_, _]) (rest := []) rfl rfl rfl rfl rfl ?_
              refine x_aload_n (pc' := 1) rfl rfl rfl rfl rfl ?_
              refine x_iload_n (pc' := 2) rfl rfl rfl ?_
              refine x_pI (pc' := 5) rfl rfl rfl ?_
              refine x_iload_n (pc' := 6) rfl rfl rfl ?_
              refine x_if (a' := 13) (pc' := 9) (z := true) rfl rfl rfl (by decide) (fun _ => ?_) (fun h => by cases h)
              refine x_iconst (pc' := 14) rfl rfl ?_
              refine x_retz (z := false) rfl rfl ?_
              refine sK_i (pc' := 95) rfl ?_
              refine x_if (a' := 100) (pc' := 98) (z := false) rfl rfl rfl (by decide) (fun h => by cases h) (fun _ => ?_)
              refine x_iconst (pc' := 99) rfl rfl ?_
              refine x_reti rfl rfl ?_
              exact k12 q4 q40 (of_decide_eq_true q76) q112 (of_decide_eq_true q151) q160
            · refine x_iload (pc' := 49) rfl rfl rfl ?_
              refine x_if (a' := 56) (pc' := 52) (z := false) rfl rfl rfl (by decide) (fun h => by cases h) (fun _ => ?_)
              refine x_iconst (pc' := 53) rfl rfl ?_
              refine x_goto (pc' := 57) rfl rfl ?_
              refine x_reti rfl rfl ?_
              refine sK_i (pc' := 92) rfl ?_
              refine x_cv (ls0 := [_, _]) (rest := []) rfl rfl rfl rfl rfl ?_
              refine x_aload_n (pc' := 1) rfl rfl rfl rfl rfl ?_
              refine x_iload_n (pc' := 2) rfl rfl rfl ?_
              refine x_pI (pc' := 5) rfl rfl rfl ?_
              refine x_iload_n (pc' := 6) rfl rfl rfl ?_
              refine x_if (a' := 13) (pc' := 9) (z := true) rfl rfl rfl (by decide) (fun _ => ?_) (fun h => by cases h)
              refine x_iconst (pc' := 14) rfl rfl ?_
              refine x_retz (z := false) rfl rfl ?_
              refine sK_i (pc' := 95) rfl ?_
              refine x_if (a' := 100) (pc' := 98) (z := false) rfl rfl rfl (by decide) (fun h => by cases h) (fun _ => ?_)
              refine x_iconst (pc' := 99) rfl rfl ?_
              refine x_reti rfl rfl ?_
              exact k13 q4 q40 (of_decide_eq_true q76) q112 (of_decide_eq_true q151) q160
          · refine x_aload_n (pc' := 65) rfl rfl rfl rfl rfl ?_
            refine x_gI (pc' := 68) (x := (io n)) rfl rfl rfl (gFn hM (Fr.refl _) hR) ?_
            refine x_sipush (pc' := 71) rfl rfl ?_
            refine x_icmp (a' := 78) (pc' := 74) (z := decide (198 < n)) rfl rfl rfl (ic_gt (p := n) (q := 198) (gn31 hR) (by decide)) (fun q166 => ?_) (fun q166 => ?_)
            · refine x_iconst (pc' := 79) rfl rfl ?_
              refine x_istore (pc' := 81) (ls' := [_, _, _, _, _, _, _, _, _, _, _, _, _, _, _]) rfl rfl rfl rfl ?_
              refine x_aload_n (pc' := 82) rfl rfl rfl rfl rfl ?_
              refine x_aload_n (pc' := 83) rfl rfl rfl rfl rfl ?_
              refine x_iload_n (pc' := 84) rfl rfl rfl ?_
              refine x_iload_n (pc' := 85) rfl rfl rfl ?_
              refine x_iload (pc' := 87) rfl rfl rfl ?_
              refine x_iload (pc' := 89) rfl rfl rfl ?_
              refine x_cv (ls0 := [_, _, _, _, _, sJk]) (rest := [_]) rfl rfl rfl rfl rfl ?_
              refine x_iload_n (pc' := 1) rfl rfl rfl ?_
              refine x_cs (ls0 := [_]) (rest := []) rfl rfl rfl rfl ?_
              refine x_iload_n (pc' := 1) rfl rfl rfl ?_
              refine x_iconst (pc' := 2) rfl rfl ?_
              refine x_iconst (pc' := 3) rfl rfl ?_
              refine x_cs (ls0 := [_, _, _]) (rest := []) rfl rfl rfl rfl ?_
              refine x_iload_n (pc' := 1) rfl rfl rfl ?_
              refine x_iload_n (pc' := 2) rfl rfl rfl ?_
              refine x_icmp (a' := 14) (pc' := 5) (z := decide (m < 0)) rfl rfl rfl (ic_lt (p := m) (q := 0) (gm31 hm) (by decide)) (fun h => absurd (of_decide_eq_true h) (by first | decide | omega | simp)) (fun _ => ?_)
              refine x_iload_n (pc' := 6) rfl rfl rfl ?_
              refine x_iload_n (pc' := 7) rfl rfl rfl ?_
              refine x_icmp (a' := 14) (pc' := 10) (z := decide (5 < m)) rfl rfl rfl (ic_gt (p := m) (q := 5) (gm31 hm) (by decide)) (fun h => absurd (of_decide_eq_true h) (show ¬ 5 < m by omega)) (fun _ => ?_)
              refine x_iconst (pc' := 11) rfl rfl ?_
              refine x_goto (pc' := 15) rfl rfl ?_
              refine x_retz (z := true) rfl rfl ?_
              refine sK_i (pc' := 6) rfl ?_
              refine x_retz (z := true) rfl rfl ?_
              refine sK_i (pc' := 4) rfl ?_
              refine x_if (a' := 18) (pc' := 7) (z := false) rfl rfl rfl (by decide) (fun h => by cases h) (fun _ => ?_)
              refine x_iload_n (pc' := 8) rfl rfl rfl ?_
              refine x_cs (ls0 := [_]) (rest := []) rfl rfl rfl rfl ?_
              refine x_iload_n (pc' := 1) rfl rfl rfl ?_
              refine x_iconst (pc' := 2) rfl rfl ?_
              refine x_iconst (pc' := 3) rfl rfl ?_
              refine x_cs (ls0 := [_, _, _]) (rest := []) rfl rfl rfl rfl ?_
              refine x_iload_n (pc' := 1) rfl rfl rfl ?_
              refine x_iload_n (pc' := 2) rfl rfl rfl ?_
              refine x_icmp (a' := 14) (pc' := 5) (z := decide (b < 0)) rfl rfl rfl (ic_lt (p := b) (q := 0) (gb31 hb) (by decide)) (fun h => absurd (of_decide_eq_true h) (by first | decide | omega | simp)) (fun _ => ?_)
              refine x_iload_n (pc' := 6) rfl rfl rfl ?_
              refine x_iload_n (pc' := 7) rfl rfl rfl ?_
              refine x_icmp (a' := 14) (pc' := 10) (z := decide (4 < b)) rfl rfl rfl (ic_gt (p := b) (q := 4) (gb31 hb) (by decide)) (fun h => absurd (of_decide_eq_true h) (show ¬ 4 < b by omega)) (fun _ => ?_)
              refine x_iconst (pc' := 11) rfl rfl ?_
              refine x_goto (pc' := 15) rfl rfl ?_
              refine x_retz (z := true) rfl rfl ?_
              refine sK_i (pc' := 6) rfl ?_
              refine x_retz (z := true) rfl rfl ?_
              refine sK_i (pc' := 11) rfl ?_
              refine x_if (a' := 18) (pc' := 14) (z := false) rfl rfl rfl (by decide) (fun h => by cases h) (fun _ => ?_)
              refine x_iconst (pc' := 15) rfl rfl ?_
              refine x_goto (pc' := 19) rfl rfl ?_
              refine x_istore (pc' := 21) (ls' := [_, _, _, _, _, _]) rfl rfl rfl rfl ?_
              refine x_iload (pc' := 23) rfl rfl rfl ?_
              refine x_if (a' := 30) (pc' := 26) (z := true) rfl rfl rfl (by decide) (fun _ => ?_) (fun h => by cases h)
              refine x_iload_n (pc' := 31) rfl rfl rfl ?_
              refine x_if (a' := 38) (pc' := 34) (z := true) rfl rfl rfl (by decide) (fun _ => ?_) (fun h => by cases h)
              refine x_aload_n (pc' := 39) rfl rfl rfl rfl rfl ?_
              refine x_gR (pc' := 42) (r := (some 2)) rfl rfl rfl (kR_781_0 hc) ?_
              refine x_iload_n (pc' := 43) rfl rfl rfl ?_
              refine x_bald (pc' := 44) (N := 6) (z := (mB M 2 m)) rfl rfl (kN_22_2 hc) (io_in (p := m) (N := 6) hm (by decide)) (Eq.trans (congrArg (sB t 22 2) (nn_io (p := m) (Nat.lt_trans hm (by decide)))) (gB hM)) ?_
              refine x_ifne_z (a' := 52) (pc' := 47) (z := (mB M 2 m)) rfl rfl rfl (fun q175 => ?_) (fun q175 => ?_)
              · refine x_iconst (pc' := 53) rfl rfl ?_
                refine x_goto (pc' := 57) rfl rfl ?_
                refine x_reti rfl rfl ?_
                refine sK_i (pc' := 92) rfl ?_
                refine x_cv (ls0 := [_, _]) (rest := []) rfl rfl rfl rfl rfl ?_
                refine x_aload_n (pc' := 1) rfl rfl rfl rfl rfl ?_
                refine x_iload_n (pc' := 2) rfl rfl rfl ?_
                refine x_pI (pc' := 5) rfl rfl rfl ?_
                refine x_iload_n (pc' := 6) rfl rfl rfl ?_
                refine x_if (a' := 13) (pc' := 9) (z := true) rfl rfl rfl (by decide) (fun _ => ?_) (fun h => by cases h)
                refine x_iconst (pc' := 14) rfl rfl ?_
                refine x_retz (z := false) rfl rfl ?_
                refine sK_i (pc' := 95) rfl ?_
                refine x_if (a' := 100) (pc' := 98) (z := false) rfl rfl rfl (by decide) (fun h => by cases h) (fun _ => ?_)
                refine x_iconst (pc' := 99) rfl rfl ?_
                refine x_reti rfl rfl ?_
                exact k14 q4 q40 (of_decide_eq_true q76) q112 (of_decide_eq_false q151) (of_decide_eq_true q166) q175
              · refine x_iload (pc' := 49) rfl rfl rfl ?_
                refine x_if (a' := 56) (pc' := 52) (z := false) rfl rfl rfl (by decide) (fun h => by cases h) (fun _ => ?_)
                refine x_iconst (pc' := 53) rfl rfl ?_
                refine x_goto (pc' := 57) rfl rfl ?_
                refine x_reti rfl rfl ?_
                refine sK_i (pc' := 92) rfl ?_
                refine x_cv (ls0 := [_, _]) (rest := []) rfl rfl rfl rfl rfl ?_
                refine x_aload_n (pc' := 1) rfl rfl rfl rfl rfl ?_
                refine x_iload_n (pc' := 2) rfl rfl rfl ?_
                refine x_pI (pc' := 5) rfl rfl rfl ?_
                refine x_iload_n (pc' := 6) rfl rfl rfl ?_
                refine x_if (a' := 13) (pc' := 9) (z := true) rfl rfl rfl (by decide) (fun _ => ?_) (fun h => by cases h)
                refine x_iconst (pc' := 14) rfl rfl ?_
                refine x_retz (z := false) rfl rfl ?_
                refine sK_i (pc' := 95) rfl ?_
                refine x_if (a' := 100) (pc' := 98) (z := false) rfl rfl rfl (by decide) (fun h => by cases h) (fun _ => ?_)
                refine x_iconst (pc' := 99) rfl rfl ?_
                refine x_reti rfl rfl ?_
                exact k15 q4 q40 (of_decide_eq_true q76) q112 (of_decide_eq_false q151) (of_decide_eq_true q166) q175
            · refine x_iconst (pc' := 75) rfl rfl ?_
              refine x_goto (pc' := 79) rfl rfl ?_
              refine x_istore (pc' := 81) (ls' := [_, _, _, _, _, _, _, _, _, _, _, _, _, _, _]) rfl rfl rfl rfl ?_
              refine x_aload_n (pc' := 82) rfl rfl rfl rfl rfl ?_
              refine x_aload_n (pc' := 83) rfl rfl rfl rfl rfl ?_
              refine x_iload_n (pc' := 84) rfl rfl rfl ?_
              refine x_iload_n (pc' := 85) rfl rfl rfl ?_
              refine x_iload (pc' := 87) rfl rfl rfl ?_
              refine x_iload (pc' := 89) rfl rfl rfl ?_
              refine x_cv (ls0 := [_, _, _, _, _, sJk]) (rest := [_]) rfl rfl rfl rfl rfl ?_
              refine x_iload_n (pc' := 1) rfl rfl rfl ?_
              refine x_cs (ls0 := [_]) (rest := []) rfl rfl rfl rfl ?_
              refine x_iload_n (pc' := 1) rfl rfl rfl ?_
              refine x_iconst (pc' := 2) rfl rfl ?_
              refine x_iconst (pc' := 3) rfl rfl ?_
              refine x_cs (ls0 := [_, _, _]) (rest := []) rfl rfl rfl rfl ?_
              refine x_iload_n (pc' := 1) rfl rfl rfl ?_
              refine x_iload_n (pc' := 2) rfl rfl rfl ?_
              refine x_icmp (a' := 14) (pc' := 5) (z := decide (m < 0)) rfl rfl rfl (ic_lt (p := m) (q := 0) (gm31 hm) (by decide)) (fun h => absurd (of_decide_eq_true h) (by first | decide | omega | simp)) (fun _ => ?_)
              refine x_iload_n (pc' := 6) rfl rfl rfl ?_
              refine x_iload_n (pc' := 7) rfl rfl rfl ?_
              refine x_icmp (a' := 14) (pc' := 10) (z := decide (5 < m)) rfl rfl rfl (ic_gt (p := m) (q := 5) (gm31 hm) (by decide)) (fun h => absurd (of_decide_eq_true h) (show ¬ 5 < m by omega)) (fun _ => ?_)
              refine x_iconst (pc' := 11) rfl rfl ?_
              refine x_goto (pc' := 15) rfl rfl ?_
              refine x_retz (z := true) rfl rfl ?_
              refine sK_i (pc' := 6) rfl ?_
              refine x_retz (z := true) rfl rfl ?_
              refine sK_i (pc' := 4) rfl ?_
              refine x_if (a' := 18) (pc' := 7) (z := false) rfl rfl rfl (by decide) (fun h => by cases h) (fun _ => ?_)
              refine x_iload_n (pc' := 8) rfl rfl rfl ?_
              refine x_cs (ls0 := [_]) (rest := []) rfl rfl rfl rfl ?_
              refine x_iload_n (pc' := 1) rfl rfl rfl ?_
              refine x_iconst (pc' := 2) rfl rfl ?_
              refine x_iconst (pc' := 3) rfl rfl ?_
              refine x_cs (ls0 := [_, _, _]) (rest := []) rfl rfl rfl rfl ?_
              refine x_iload_n (pc' := 1) rfl rfl rfl ?_
              refine x_iload_n (pc' := 2) rfl rfl rfl ?_
              refine x_icmp (a' := 14) (pc' := 5) (z := decide (b < 0)) rfl rfl rfl (ic_lt (p := b) (q := 0) (gb31 hb) (by decide)) (fun h => absurd (of_decide_eq_true h) (by first | decide | omega | simp)) (fun _ => ?_)
              refine x_iload_n (pc' := 6) rfl rfl rfl ?_
              refine x_iload_n (pc' := 7) rfl rfl rfl ?_
              refine x_icmp (a' := 14) (pc' := 10) (z := decide (4 < b)) rfl rfl rfl (ic_gt (p := b) (q := 4) (gb31 hb) (by decide)) (fun h => absurd (of_decide_eq_true h) (show ¬ 4 < b by omega)) (fun _ => ?_)
              refine x_iconst (pc' := 11) rfl rfl ?_
              refine x_goto (pc' := 15) rfl rfl ?_
              refine x_retz (z := true) rfl rfl ?_
              refine sK_i (pc' := 6) rfl ?_
              refine x_retz (z := true) rfl rfl ?_
              refine sK_i (pc' := 11) rfl ?_
              refine x_if (a' := 18) (pc' := 14) (z := false) rfl rfl rfl (by decide) (fun h => by cases h) (fun _ => ?_)
              refine x_iconst (pc' := 15) rfl rfl ?_
              refine x_goto (pc' := 19) rfl rfl ?_
              refine x_istore (pc' := 21) (ls' := [_, _, _, _, _, _]) rfl rfl rfl rfl ?_
              refine x_iload (pc' := 23) rfl rfl rfl ?_
              refine x_if (a' := 30) (pc' := 26) (z := true) rfl rfl rfl (by decide) (fun _ => ?_) (fun h => by cases h)
              refine x_iload_n (pc' := 31) rfl rfl rfl ?_
              refine x_if (a' := 38) (pc' := 34) (z := true) rfl rfl rfl (by decide) (fun _ => ?_) (fun h => by cases h)
              refine x_aload_n (pc' := 39) rfl rfl rfl rfl rfl ?_
              refine x_gR (pc' := 42) (r := (some 2)) rfl rfl rfl (kR_781_0 hc) ?_
              refine x_iload_n (pc' := 43) rfl rfl rfl ?_
              refine x_bald (pc' := 44) (N := 6) (z := (mB M 2 m)) rfl rfl (kN_22_2 hc) (io_in (p := m) (N := 6) hm (by decide)) (Eq.trans (congrArg (sB t 22 2) (nn_io (p := m) (Nat.lt_trans hm (by decide)))) (gB hM)) ?_
              refine x_ifne_z (a' := 52) (pc' := 47) (z := (mB M 2 m)) rfl rfl rfl (fun q189 => ?_) (fun q189 => ?_)
              · refine x_iconst (pc' := 53) rfl rfl ?_
                refine x_goto (pc' := 57) rfl rfl ?_
                refine x_reti rfl rfl ?_
                refine sK_i (pc' := 92) rfl ?_
                refine x_cv (ls0 := [_, _]) (rest := []) rfl rfl rfl rfl rfl ?_
                refine x_aload_n (pc' := 1) rfl rfl rfl rfl rfl ?_
                refine x_iload_n (pc' := 2) rfl rfl rfl ?_
                refine x_pI (pc' := 5) rfl rfl rfl ?_
                refine x_iload_n (pc' := 6) rfl rfl rfl ?_
                refine x_if (a' := 13) (pc' := 9) (z := true) rfl rfl rfl (by decide) (fun _ => ?_) (fun h => by cases h)
                refine x_iconst (pc' := 14) rfl rfl ?_
                refine x_retz (z := false) rfl rfl ?_
                refine sK_i (pc' := 95) rfl ?_
                refine x_if (a' := 100) (pc' := 98) (z := false) rfl rfl rfl (by decide) (fun h => by cases h) (fun _ => ?_)
                refine x_iconst (pc' := 99) rfl rfl ?_
                refine x_reti rfl rfl ?_
                exact k16 q4 q40 (of_decide_eq_true q76) q112 (of_decide_eq_false q151) (of_decide_eq_false q166) q189
              · refine x_iload (pc' := 49) rfl rfl rfl ?_
                refine x_if (a' := 56) (pc' := 52) (z := true) rfl rfl rfl (by decide) (fun _ => ?_) (fun h => by cases h)
                refine x_iconst (pc' := 57) rfl rfl ?_
                refine x_reti rfl rfl ?_
                refine sK_i (pc' := 92) rfl ?_
                refine x_cv (ls0 := [_, _]) (rest := []) rfl rfl rfl rfl rfl ?_
                refine x_aload_n (pc' := 1) rfl rfl rfl rfl rfl ?_
                refine x_iload_n (pc' := 2) rfl rfl rfl ?_
                refine x_pI (pc' := 5) rfl rfl rfl ?_
                refine x_iload_n (pc' := 6) rfl rfl rfl ?_
                refine x_if (a' := 13) (pc' := 9) (z := false) rfl rfl rfl (by decide) (fun h => by cases h) (fun _ => ?_)
                refine x_iconst (pc' := 10) rfl rfl ?_
                refine x_goto (pc' := 14) rfl rfl ?_
                refine x_retz (z := true) rfl rfl ?_
                refine sK_i (pc' := 95) rfl ?_
                refine x_if (a' := 100) (pc' := 98) (z := true) rfl rfl rfl (by decide) (fun _ => ?_) (fun h => by cases h)
                exact k17 q4 q40 (of_decide_eq_true q76) q112 (of_decide_eq_false q151) (of_decide_eq_false q166) q189
set_option maxHeartbeats 4000000 in
set_option maxRecDepth 10000 in
theorem r208_b {t : sT} {Q : sRs → sT → Prop} {M : sM} {n : Nat} {b : Nat} {m : Nat} {p : Int32} {u : Int32} {a : Int32} {y0 : Int32} {y1 : Int32}
    (hV : Vr t M n)
    (hb : b < 5)
    (hm : m < 6)
    (g0 : ((5 * m) + b) < 30)
    (k0 : X 208 112 [.inr (.inr (12, (some 0))), .inl (io m), .inl (io b), .inl p, .inl u, .inl a, .inl y0, .inl y1, .inl (mA M 10 ((5 * m) + b)), sJk, sJk, sJk, sJk, sJk, sJk] [] t Q) :
    X 208 100 [.inr (.inr (12, (some 0))), .inl (io m), .inl (io b), .inl p, .inl u, .inl a, .inl y0, .inl y1, sJk, sJk, sJk, sJk, sJk, sJk, sJk] [] t Q := by
  obtain ⟨hM, hc, hR⟩ := hV
  refine x_aload_n (pc' := 101) rfl rfl rfl rfl rfl ?_
  refine x_gR (pc' := 104) (r := (some 10)) rfl rfl rfl (kR_782_0 hc) ?_
  refine x_iconst (pc' := 105) rfl rfl ?_
  refine x_iload_n (pc' := 106) rfl rfl rfl ?_
  refine x_imul (pc' := 107) (z := (io (5 * m))) rfl rfl (io_mul 5 m) ?_
  refine x_iload_n (pc' := 108) rfl rfl rfl ?_
  refine x_iadd (pc' := 109) (z := (io ((5 * m) + b))) rfl rfl (io_add (5 * m) b) ?_
  refine x_iald (pc' := 110) (N := 30) (x := (mA M 10 ((5 * m) + b))) rfl rfl rfl (kN_21_10 hc) (io_in (p := ((5 * m) + b)) (N := 30) g0 (by decide)) (Eq.trans (congrArg (sA t 21 10) (nn_io (p := ((5 * m) + b)) (Nat.lt_trans g0 (by decide)))) (gA hM rfl)) ?_
  refine x_istore (pc' := 112) (ls' := [_, _, _, _, _, _, _, _, _, _, _, _, _, _, _]) rfl rfl rfl rfl ?_
  exact k0
set_option maxHeartbeats 4000000 in
set_option maxRecDepth 10000 in
theorem r208_cn {t : sT} {Q : sRs → sT → Prop} {M : sM} {n : Nat} {b : Nat} {m : Nat} {p : Int32} {u : Int32} {a : Int32} {y0 : Int32} {y1 : Int32}
    (hV : Vr t M n)
    (hb : b < 5)
    (hm : m < 6)
    (k0 : X 200 0 [.inr (.inr (12, (some 0))), .inl (io m), .inl (io b), .inl 1, .inl p, .inl a, .inl a] [] t (sK 200 208 185 [.inr (.inr (12, (some 0))), .inl (io m), .inl (io b), .inl p, .inl u, .inl a, .inl y0, .inl y1, .inl (-1), .inl 3, .inl 3, sJk, sJk, sJk, sJk] [] Q)) :
    X 208 112 [.inr (.inr (12, (some 0))), .inl (io m), .inl (io b), .inl p, .inl u, .inl a, .inl y0, .inl y1, .inl (-1), sJk, sJk, sJk, sJk, sJk, sJk] [] t Q := by
  obtain ⟨hM, hc, hR⟩ := hV
  refine x_iload (pc' := 114) rfl rfl rfl ?_
  refine x_iconst (pc' := 115) rfl rfl ?_
  refine x_icmp (a' := 122) (pc' := 118) (z := false) rfl rfl rfl (by decide) (fun h => by cases h) (fun _ => ?_)
  refine x_iconst (pc' := 119) rfl rfl ?_
  refine x_goto (pc' := 129) rfl rfl ?_
  refine x_istore (pc' := 131) (ls' := [_, _, _, _, _, _, _, _, _, _, _, _, _, _, _]) rfl rfl rfl rfl ?_
  refine x_iload (pc' := 133) rfl rfl rfl ?_
  refine x_iconst (pc' := 134) rfl rfl ?_
  refine x_icmp (a' := 141) (pc' := 137) (z := false) rfl rfl rfl (by decide) (fun h => by cases h) (fun _ => ?_)
  refine x_iconst (pc' := 138) rfl rfl ?_
  refine x_goto (pc' := 150) rfl rfl ?_
  refine x_istore (pc' := 152) (ls' := [_, _, _, _, _, _, _, _, _, _, _, _, _, _, _]) rfl rfl rfl rfl ?_
  refine x_iload (pc' := 154) rfl rfl rfl ?_
  refine x_iconst (pc' := 155) rfl rfl ?_
  refine x_icmp (a' := 176) (pc' := 158) (z := true) rfl rfl rfl (by decide) (fun _ => ?_) (fun h => by cases h)
  refine x_aload_n (pc' := 177) rfl rfl rfl rfl rfl ?_
  refine x_iload_n (pc' := 178) rfl rfl rfl ?_
  refine x_iload_n (pc' := 179) rfl rfl rfl ?_
  refine x_iconst (pc' := 180) rfl rfl ?_
  refine x_iload_n (pc' := 181) rfl rfl rfl ?_
  refine x_iload (pc' := 183) rfl rfl rfl ?_
  refine x_iload (pc' := 185) rfl rfl rfl ?_
  refine x_cv (ls0 := [_, _, _, _, _, _, _]) (rest := []) rfl rfl rfl rfl rfl ?_
  exact k0
set_option maxHeartbeats 4000000 in
set_option maxRecDepth 10000 in
theorem r208_cq {t : sT} {Q : sRs → sT → Prop} {M : sM} {n : Nat} {b : Nat} {m : Nat} {p : Int32} {u : Int32} {a : Int32} {q : Nat} {y0 : Int32} {y1 : Int32}
    (hV : Vr t M n)
    (hb : b < 5)
    (hm : m < 6)
    (hq1 : (q + 1) < n)
    (k0 : ¬ ((io q) = (-1)) → X 200 0 [.inr (.inr (12, (some 0))), .inl (io m), .inl (io b), .inl 1, .inl p, .inl a, .inl a] [] (sAw (sAw t 21 19 q 3) 21 19 (q + 1) 3) (sK 200 208 185 [.inr (.inr (12, (some 0))), .inl (io m), .inl (io b), .inl p, .inl u, .inl a, .inl y0, .inl y1, .inl (io q), .inl (mA M 19 q), .inl (mA M 19 (q + 1)), sJk, sJk, sJk, sJk] [] Q))
    (k1 : (io q) = (-1) → X 200 0 [.inr (.inr (12, (some 0))), .inl (io m), .inl (io b), .inl 1, .inl p, .inl a, .inl a] [] t (sK 200 208 185 [.inr (.inr (12, (some 0))), .inl (io m), .inl (io b), .inl p, .inl u, .inl a, .inl y0, .inl y1, .inl (io q), .inl 3, .inl 3, sJk, sJk, sJk, sJk] [] Q)) :
    X 208 112 [.inr (.inr (12, (some 0))), .inl (io m), .inl (io b), .inl p, .inl u, .inl a, .inl y0, .inl y1, .inl (io q), sJk, sJk, sJk, sJk, sJk, sJk] [] t Q := by
  obtain ⟨hM, hc, hR⟩ := hV
  refine x_iload (pc' := 114) rfl rfl rfl ?_
  refine x_iconst (pc' := 115) rfl rfl ?_
  refine x_icmp_n (a' := 122) (pc' := 118) (z := decide ((io q) = (-1))) rfl rfl rfl (ik_ne _ _) (fun q1 => ?_) (fun q1 => ?_)
  · refine x_aload_n (pc' := 123) rfl rfl rfl rfl rfl ?_
    refine x_gR (pc' := 126) (r := (some 19)) rfl rfl rfl (kR_795_0 hc) ?_
    refine x_iload (pc' := 128) rfl rfl rfl ?_
    refine x_iald (pc' := 129) (N := 200) (x := (mA M 19 q)) rfl rfl rfl (kN_21_19 hc) (io_in (p := q) (N := 200) (Nat.lt_of_lt_of_le (Nat.lt_of_succ_lt hq1) (gn200 hR)) (by decide)) (Eq.trans (congrArg (sA t 21 19) (nn_io (p := q) (Nat.lt_trans (Nat.lt_of_lt_of_le (Nat.lt_of_succ_lt hq1) (gn200 hR)) (by decide)))) (gA hM rfl)) ?_
    refine x_istore (pc' := 131) (ls' := [_, _, _, _, _, _, _, _, _, _, _, _, _, _, _]) rfl rfl rfl rfl ?_
    refine x_iload (pc' := 133) rfl rfl rfl ?_
    refine x_iconst (pc' := 134) rfl rfl ?_
    refine x_icmp_n (a' := 141) (pc' := 137) (z := decide ((io q) = (-1))) rfl rfl rfl (ik_ne _ _) (fun _ => ?_) (fun h => absurd (of_decide_eq_true h) (of_decide_eq_false q1))
    refine x_aload_n (pc' := 142) rfl rfl rfl rfl rfl ?_
    refine x_gR (pc' := 145) (r := (some 19)) rfl rfl rfl (kR_795_0 hc) ?_
    refine x_iload (pc' := 147) rfl rfl rfl ?_
    refine x_iconst (pc' := 148) rfl rfl ?_
    refine x_iadd (pc' := 149) (z := (io (q + 1))) rfl rfl (io_add q 1) ?_
    refine x_iald (pc' := 150) (N := 200) (x := (mA M 19 (q + 1))) rfl rfl rfl (kN_21_19 hc) (io_in (p := (q + 1)) (N := 200) (Nat.lt_of_lt_of_le hq1 (gn200 hR)) (by decide)) (Eq.trans (congrArg (sA t 21 19) (nn_io (p := (q + 1)) (Nat.lt_trans (Nat.lt_of_lt_of_le hq1 (gn200 hR)) (by decide)))) (gA hM rfl)) ?_
    refine x_istore (pc' := 152) (ls' := [_, _, _, _, _, _, _, _, _, _, _, _, _, _, _]) rfl rfl rfl rfl ?_
    refine x_iload (pc' := 154) rfl rfl rfl ?_
    refine x_iconst (pc' := 155) rfl rfl ?_
    refine x_icmp (a' := 176) (pc' := 158) (z := decide ((io q) = (-1))) rfl rfl rfl rfl (fun h => absurd (of_decide_eq_true h) (of_decide_eq_false q1)) (fun _ => ?_)
    refine x_aload_n (pc' := 159) rfl rfl rfl rfl rfl ?_
    refine x_gR (pc' := 162) (r := (some 19)) rfl rfl rfl (kR_795_0 hc) ?_
    refine x_iload (pc' := 164) rfl rfl rfl ?_
    refine x_iconst (pc' := 165) rfl rfl ?_
    refine x_iast (pc' := 166) (N := 200) (p := q) rfl rfl rfl (kN_21_19 hc) (io_in (p := q) (N := 200) (Nat.lt_of_lt_of_le (Nat.lt_of_succ_lt hq1) (gn200 hR)) (by decide)) (nn_io (p := q) (Nat.lt_trans (Nat.lt_of_lt_of_le (Nat.lt_of_succ_lt hq1) (gn200 hR)) (by decide))) ?_
    refine x_aload_n (pc' := 167) rfl rfl rfl rfl rfl ?_
    refine x_gR (pc' := 170) (r := (some 19)) rfl rfl rfl (Eq.trans (b := sR t 795 0) rfl (kR_795_0 hc)) ?_
    refine x_iload (pc' := 172) rfl rfl rfl ?_
    refine x_iconst (pc' := 173) rfl rfl ?_
    refine x_iadd (pc' := 174) (z := (io (q + 1))) rfl rfl (io_add q 1) ?_
    refine x_iconst (pc' := 175) rfl rfl ?_
    refine x_iast (pc' := 176) (N := 200) (p := (q + 1)) rfl rfl rfl (Eq.trans rdNA (kN_21_19 hc)) (io_in (p := (q + 1)) (N := 200) (Nat.lt_of_lt_of_le hq1 (gn200 hR)) (by decide)) (nn_io (p := (q + 1)) (Nat.lt_trans (Nat.lt_of_lt_of_le hq1 (gn200 hR)) (by decide))) ?_
    refine x_aload_n (pc' := 177) rfl rfl rfl rfl rfl ?_
    refine x_iload_n (pc' := 178) rfl rfl rfl ?_
    refine x_iload_n (pc' := 179) rfl rfl rfl ?_
    refine x_iconst (pc' := 180) rfl rfl ?_
    refine x_iload_n (pc' := 181) rfl rfl rfl ?_
    refine x_iload (pc' := 183) rfl rfl rfl ?_
    refine x_iload (pc' := 185) rfl rfl rfl ?_
    refine x_cv (ls0 := [_, _, _, _, _, _, _]) (rest := []) rfl rfl rfl rfl rfl ?_
    exact k0 (of_decide_eq_false q1)
  · refine x_iconst (pc' := 119) rfl rfl ?_
    refine x_goto (pc' := 129) rfl rfl ?_
    refine x_istore (pc' := 131) (ls' := [_, _, _, _, _, _, _, _, _, _, _, _, _, _, _]) rfl rfl rfl rfl ?_
    refine x_iload (pc' := 133) rfl rfl rfl ?_
    refine x_iconst (pc' := 134) rfl rfl ?_
    refine x_icmp_n (a' := 141) (pc' := 137) (z := decide ((io q) = (-1))) rfl rfl rfl (ik_ne _ _) (fun h => absurd (of_decide_eq_true q1) (of_decide_eq_false h)) (fun _ => ?_)
    refine x_iconst (pc' := 138) rfl rfl ?_
    refine x_goto (pc' := 150) rfl rfl ?_
    refine x_istore (pc' := 152) (ls' := [_, _, _, _, _, _, _, _, _, _, _, _, _, _, _]) rfl rfl rfl rfl ?_
    refine x_iload (pc' := 154) rfl rfl rfl ?_
    refine x_iconst (pc' := 155) rfl rfl ?_
    refine x_icmp (a' := 176) (pc' := 158) (z := decide ((io q) = (-1))) rfl rfl rfl rfl (fun _ => ?_) (fun h => absurd (of_decide_eq_true q1) (of_decide_eq_false h))
    refine x_aload_n (pc' := 177) rfl rfl rfl rfl rfl ?_
    refine x_iload_n (pc' := 178) rfl rfl rfl ?_
    refine x_iload_n (pc' := 179) rfl rfl rfl ?_
    refine x_iconst (pc' := 180) rfl rfl ?_
    refine x_iload_n (pc' := 181) rfl rfl rfl ?_
    refine x_iload (pc' := 183) rfl rfl rfl ?_
    refine x_iload (pc' := 185) rfl rfl rfl ?_
    refine x_cv (ls0 := [_, _, _, _, _, _, _]) (rest := []) rfl rfl rfl rfl rfl ?_
    exact k1 (of_decide_eq_true q1)
