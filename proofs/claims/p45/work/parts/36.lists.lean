def mx (a b : Int32) : Int32 := if a < b then b else a
def mn (a b : Int32) : Int32 := if b < a then b else a
def ab (a : Int32) : Int32 := if 0 ≤ a then a else 0 - a
theorem io_s1 (n : Nat) : io (n + 1) - io n = io 1 := by
  show Int32.ofNat (n + 1) - Int32.ofNat n = Int32.ofNat 1
  rw [Int32.ofNat_add]
  rw [Int32.add_comm, Int32.add_sub_cancel]
theorem io_h {n : Nat} (h : n < 2 ^ 31) : io n >>> ((1 : Int32) &&& 31) = io (n / 2) := (pk_shrN h (1 &&& 31) 1 (by decide)).trans rfl
theorem io_mx {p q : Nat} (hp : p < 2 ^ 31) (hq : q < 2 ^ 31) : (if io p < io q then io q else io p) = io (max p q) := by
  by_cases h : p < q
  · rw [if_pos ((io_lt hp hq).mpr h), Nat.max_eq_right (Nat.le_of_lt h)]
  · rw [if_neg (fun z => h ((io_lt hp hq).mp z)), Nat.max_eq_left (by omega)]
theorem gw_lt {n : Nat} (h : n < 20000) : n + max 1 (n / 2) < 2 ^ 31 := by omega
theorem gw_0 (n : Nat) : 0 < n + max 1 (n / 2) := by omega
theorem gw_s {n : Nat} (h : n < 20000) : n + max 1 (n / 2) ≤ 2147483639 := by omega
theorem gw_h {n : Nat} (h : n < 20000) : n / 2 < 2 ^ 31 := by omega
theorem gw_z {n : Nat} (h : n < 20000) : Nat.ble (n + max 1 (n / 2)) 100000 = true := by rw [Nat.ble_eq]; omega
theorem gw_n (n : Nat) : n ≤ n + max 1 (n / 2) := by omega
theorem gw_l (n : Nat) : n < n + max 1 (n / 2) := by omega
theorem sN_cpy {t : sT} {i n c : Nat} (h : sC t 27 = c) : sN (sCpy t i n) 27 c = n := by subst h; exact sU2_s _ _ _ _
/-! the lists of the JDK (printed by dcp.py) -/
theorem y_get8 {t : sT} {Q : sRs → sT → Prop} {l : Nat} {i : Nat} {n : Nat} {d : Nat} {w : Nat} {x : Nat}
    (hn : n < 2 ^ 31)
    (hi : i < n)
    (hs : sI t 834 l = io n)
    (hd : sR t 833 l = some d)
    (hw : sN t 27 d = w)
    (hiw : i < w)
    (hw31 : w < 2 ^ 31)
    (hx : sE t 27 d i = (8, some x))
    (k0 : Q (.inl (some (.inr (.inr (8, (some x)))))) t) :
    X 252 0 [.inr (.inr (13, (some l))), .inl (io i)] [] t Q := by
  refine x_iload_n (pc' := 1) rfl rfl rfl ?_
  refine x_aload_n (pc' := 2) rfl rfl rfl rfl rfl ?_
  refine x_gI (pc' := 5) (x := (io n)) rfl rfl rfl hs ?_
  refine x_cs (ls0 := [_, _]) (rest := []) rfl rfl rfl rfl ?_
  refine x_iload_n (pc' := 1) rfl rfl rfl ?_
  refine x_iload_n (pc' := 2) rfl rfl rfl ?_
  refine x_null (pc' := 3) rfl rfl rfl ?_
  refine x_cs (ls0 := [_, _, _]) (rest := []) rfl rfl rfl rfl ?_
  refine x_iload_n (pc' := 1) rfl rfl rfl ?_
  refine x_if (a' := 9) (pc' := 4) (z := decide (i < 0)) rfl rfl rfl (ic_lt (p := i) (q := 0) (Nat.lt_trans hi hn) (by decide)) (fun h => absurd (of_decide_eq_true h) (by first | decide | omega | simp)) (fun _ => ?_)
  refine x_iload_n (pc' := 5) rfl rfl rfl ?_
  refine x_iload_n (pc' := 6) rfl rfl rfl ?_
  refine x_icmp (a' := 16) (pc' := 9) (z := decide (i < n)) rfl rfl rfl (ic_lt (p := i) (q := n) (Nat.lt_trans hi hn) hn) (fun _ => ?_) (fun h => absurd hi (of_decide_eq_false h))
  refine x_iload_n (pc' := 17) rfl rfl rfl ?_
  refine x_reti rfl rfl ?_
  refine sK_i (pc' := 6) rfl ?_
  refine x_reti rfl rfl ?_
  refine sK_i (pc' := 8) rfl ?_
  refine x_pop (pc' := 9) rfl rfl rfl ?_
  refine x_aload_n (pc' := 10) rfl rfl rfl rfl rfl ?_
  refine x_iload_n (pc' := 11) rfl rfl rfl ?_
  refine x_cv (ls0 := [_, _]) (rest := []) rfl rfl rfl rfl rfl ?_
  refine x_aload_n (pc' := 1) rfl rfl rfl rfl rfl ?_
  refine x_gR (pc' := 4) (r := (some d)) rfl rfl rfl hd ?_
  refine x_iload_n (pc' := 5) rfl rfl rfl ?_
  refine x_aald (pc' := 6) (N := w) (k' := 8) (r := (some x)) rfl rfl rfl hw (io_in (p := i) (N := w) hiw hw31) (Eq.trans (congrArg (sE t 27 d) (nn_io (p := i) (Nat.lt_trans hiw hw31))) hx) ?_
  refine x_reta rfl rfl ?_
  refine sK_i (pc' := 14) rfl ?_
  refine x_reta rfl rfl ?_
  exact k0
theorem y_addA8 {t : sT} {Q : sRs → sT → Prop} {l : Nat} {x : Nat} {n : Nat} {d : Nat} {w : Nat}
    (hw31 : w < 2 ^ 31)
    (hs : sI t 834 l = io n)
    (hd : sR t 833 l = some d)
    (hw : sN t 27 d = w)
    (hiw : n < w)
    (k0 : Q (.inl (some (.inl (bz true)))) (sIw (sEw (sIw t 832 l ((sI t 832 l) + 1)) 27 d n (8, (some x))) 834 l (io (n + 1)))) :
    X 254 0 [.inr (.inr (13, (some l))), .inr (.inr (8, (some x)))] [] t Q := by
  refine x_aload_n (pc' := 1) rfl rfl rfl rfl rfl ?_
  refine x_dup (pc' := 2) rfl rfl rfl ?_
  refine x_gI (pc' := 5) (x := (sI t 832 l)) rfl rfl rfl rfl ?_
  refine x_iconst (pc' := 6) rfl rfl ?_
  refine x_iadd (pc' := 7) (z := ((sI t 832 l) + 1)) rfl rfl rfl ?_
  refine x_pI (pc' := 10) rfl rfl rfl ?_
  refine x_aload_n (pc' := 11) rfl rfl rfl rfl rfl ?_
  refine x_aload_n (pc' := 12) rfl rfl rfl rfl rfl ?_
  refine x_aload_n (pc' := 13) rfl rfl rfl rfl rfl ?_
  refine x_gR (pc' := 16) (r := (some d)) rfl rfl rfl hd ?_
  refine x_aload_n (pc' := 17) rfl rfl rfl rfl rfl ?_
  refine x_gI (pc' := 20) (x := (io n)) rfl rfl rfl hs ?_
  refine x_cv (ls0 := [_, _, _, _]) (rest := []) rfl rfl rfl rfl rfl ?_
  refine x_iload_n (pc' := 1) rfl rfl rfl ?_
  refine x_aload_n (pc' := 2) rfl rfl rfl rfl rfl ?_
  refine x_alen (pc' := 3) (N := w) rfl rfl rfl hw ?_
  refine x_icmp_n (a' := 11) (pc' := 6) (z := decide (n = w)) rfl rfl rfl (ic_nen (p := n) (q := w) (Nat.lt_trans hiw hw31) hw31) (fun _ => ?_) (fun h => absurd (of_decide_eq_true h) (Nat.ne_of_lt hiw))
  refine x_aload_n (pc' := 12) rfl rfl rfl rfl rfl ?_
  refine x_iload_n (pc' := 13) rfl rfl rfl ?_
  refine x_aload_n (pc' := 14) rfl rfl rfl rfl rfl ?_
  refine x_aast (pc' := 15) (N := w) (p := n) rfl rfl rfl hw (io_in (p := n) (N := w) hiw hw31) (nn_io (p := n) (Nat.lt_trans hiw hw31)) ?_
  refine x_aload_n (pc' := 16) rfl rfl rfl rfl rfl ?_
  refine x_iload_n (pc' := 17) rfl rfl rfl ?_
  refine x_iconst (pc' := 18) rfl rfl ?_
  refine x_iadd (pc' := 19) (z := (io (n + 1))) rfl rfl (io_add n 1) ?_
  refine x_pI (pc' := 22) rfl rfl rfl ?_
  refine x_ret rfl ?_
  refine sK_v (pc' := 23) rfl ?_
  refine x_iconst (pc' := 24) rfl rfl ?_
  refine x_retz (z := true) rfl rfl ?_
  exact k0
theorem y_addB8 {t : sT} {Q : sRs → sT → Prop} {l : Nat} {x : Nat} {c : Nat}
    (hs : sI t 834 l = 0)
    (hd : sR t 833 l = some 0)
    (hw : sN t 27 0 = 0)
    (hC : sC t 27 = c)
    (hc0 : 0 < c)
    (k0 : Q (.inl (some (.inl (bz true)))) (sIw (sEw (sRw (sNwA (sIw t 832 l ((sI t 832 l) + 1)) 27 10) 833 l (some c)) 27 c 0 (8, (some x))) 834 l 1)) :
    X 254 0 [.inr (.inr (13, (some l))), .inr (.inr (8, (some x)))] [] t Q := by
  refine x_aload_n (pc' := 1) rfl rfl rfl rfl rfl ?_
  refine x_dup (pc' := 2) rfl rfl rfl ?_
  refine x_gI (pc' := 5) (x := (sI t 832 l)) rfl rfl rfl rfl ?_
  refine x_iconst (pc' := 6) rfl rfl ?_
  refine x_iadd (pc' := 7) (z := ((sI t 832 l) + 1)) rfl rfl rfl ?_
  refine x_pI (pc' := 10) rfl rfl rfl ?_
  refine x_aload_n (pc' := 11) rfl rfl rfl rfl rfl ?_
  refine x_aload_n (pc' := 12) rfl rfl rfl rfl rfl ?_
  refine x_aload_n (pc' := 13) rfl rfl rfl rfl rfl ?_
  refine x_gR (pc' := 16) (r := (some 0)) rfl rfl rfl hd ?_
  refine x_aload_n (pc' := 17) rfl rfl rfl rfl rfl ?_
  refine x_gI (pc' := 20) (x := 0) rfl rfl rfl hs ?_
  refine x_cv (ls0 := [_, _, _, _]) (rest := []) rfl rfl rfl rfl rfl ?_
  refine x_iload_n (pc' := 1) rfl rfl rfl ?_
  refine x_aload_n (pc' := 2) rfl rfl rfl rfl rfl ?_
  refine x_alen (pc' := 3) (N := 0) rfl rfl rfl hw (?_ : X _ _ _ (.inl 0 :: _) _ _)
  refine x_icmp (a' := 11) (pc' := 6) (z := false) rfl rfl rfl (by decide) (fun h => by cases h) (fun _ => ?_)
  refine x_aload_n (pc' := 7) rfl rfl rfl rfl rfl ?_
  refine x_cv (ls0 := [_]) (rest := []) rfl rfl rfl rfl rfl ?_
  refine x_aload_n (pc' := 1) rfl rfl rfl rfl rfl ?_
  refine x_aload_n (pc' := 2) rfl rfl rfl rfl rfl ?_
  refine x_gI (pc' := 5) (x := 0) rfl rfl rfl hs ?_
  refine x_iconst (pc' := 6) rfl rfl ?_
  refine x_iadd (pc' := 7) (z := 1) rfl rfl (by decide) ?_
  refine x_cv (ls0 := [_, _, sJk, sJk]) (rest := []) rfl rfl rfl rfl rfl ?_
  refine x_aload_n (pc' := 1) rfl rfl rfl rfl rfl ?_
  refine x_gR (pc' := 4) (r := (some 0)) rfl rfl rfl hd ?_
  refine x_alen (pc' := 5) (N := 0) rfl rfl rfl hw (?_ : X _ _ _ (.inl 0 :: _) _ _)
  refine x_istore_n (pc' := 6) (ls' := [_, _, _, _]) rfl rfl rfl rfl ?_
  refine x_iload_n (pc' := 7) rfl rfl rfl ?_
  refine x_if (a' := 20) (pc' := 10) (z := false) rfl rfl rfl (by decide) (fun h => by cases h) (fun _ => ?_)
  refine x_aload_n (pc' := 11) rfl rfl rfl rfl rfl ?_
  refine x_gR (pc' := 14) (r := (some 0)) rfl rfl rfl hd ?_
  refine x_getstatic (pc' := 17) rfl rfl (show 0 < sC t 27 from hC.symm ▸ hc0) ?_
  refine x_acmp_eq (a' := 45) (pc' := 20) (z := decide (0 = 0)) rfl rfl rfl rfl dec_some (fun _ => ?_) (fun h => absurd (of_decide_eq_false h) (by first | decide | omega | simp))
  refine x_aload_n (pc' := 46) rfl rfl rfl rfl rfl ?_
  refine x_bipush (pc' := 48) rfl rfl ?_
  refine x_iload_n (pc' := 49) rfl rfl rfl ?_
  refine x_max (pc' := 52) (z := 10) rfl rfl rfl (by decide) ?_
  refine x_anewarray (pc' := 55) (N := 10) (i := c) rfl rfl rfl rfl hC ?_
  refine x_dup_x1 (pc' := 56) rfl rfl rfl rfl ?_
  refine x_pR (pc' := 59) rfl rfl rfl ?_
  refine x_reta rfl rfl ?_
  refine sK_i (pc' := 10) rfl ?_
  refine x_reta rfl rfl ?_
  refine sK_i (pc' := 10) rfl ?_
  refine x_astore_n (pc' := 11) (ls' := [_, _, _, _]) rfl rfl rfl rfl rfl ?_
  refine x_aload_n (pc' := 12) rfl rfl rfl rfl rfl ?_
  refine x_iload_n (pc' := 13) rfl rfl rfl ?_
  refine x_aload_n (pc' := 14) rfl rfl rfl rfl rfl ?_
  refine x_aast (pc' := 15) (N := 10) (p := 0) rfl rfl rfl (Eq.trans (b := sN (sNwA (sIw t 832 l ((sI t 832 l) + 1)) 27 10) 27 c) rfl (sN_new hC)) (io_in (p := 0) (N := 10) (by decide) (by decide)) (nn_io (p := 0) (by decide)) ?_
  refine x_aload_n (pc' := 16) rfl rfl rfl rfl rfl ?_
  refine x_iload_n (pc' := 17) rfl rfl rfl ?_
  refine x_iconst (pc' := 18) rfl rfl ?_
  refine x_iadd (pc' := 19) (z := 1) rfl rfl (by decide) ?_
  refine x_pI (pc' := 22) rfl rfl rfl ?_
  refine x_ret rfl ?_
  refine sK_v (pc' := 23) rfl ?_
  refine x_iconst (pc' := 24) rfl rfl ?_
  refine x_retz (z := true) rfl rfl ?_
  exact k0
theorem y_addC8 {t : sT} {Q : sRs → sT → Prop} {l : Nat} {x : Nat} {n : Nat} {d : Nat} {c : Nat}
    (hn0 : 0 < n)
    (hnb : n < 20000)
    (hd0 : ¬ d = 0)
    (hs : sI t 834 l = io n)
    (hd : sR t 833 l = some d)
    (hw : sN t 27 d = n)
    (hC : sC t 27 = c)
    (hc0 : 0 < c)
    (k0 : Q (.inl (some (.inl (bz true)))) (sIw (sEw (sRw (sCpy (sIw t 832 l ((sI t 832 l) + 1)) d (n + (max 1 (n / 2)))) 833 l (some c)) 27 c n (8, (some x))) 834 l (io (n + 1)))) :
    X 254 0 [.inr (.inr (13, (some l))), .inr (.inr (8, (some x)))] [] t Q := by
  refine x_aload_n (pc' := 1) rfl rfl rfl rfl rfl ?_
  refine x_dup (pc' := 2) rfl rfl rfl ?_
  refine x_gI (pc' := 5) (x := (sI t 832 l)) rfl rfl rfl rfl ?_
  refine x_iconst (pc' := 6) rfl rfl ?_
  refine x_iadd (pc' := 7) (z := ((sI t 832 l) + 1)) rfl rfl rfl ?_
  refine x_pI (pc' := 10) rfl rfl rfl ?_
  refine x_aload_n (pc' := 11) rfl rfl rfl rfl rfl ?_
  refine x_aload_n (pc' := 12) rfl rfl rfl rfl rfl ?_
  refine x_aload_n (pc' := 13) rfl rfl rfl rfl rfl ?_
  refine x_gR (pc' := 16) (r := (some d)) rfl rfl rfl hd ?_
  refine x_aload_n (pc' := 17) rfl rfl rfl rfl rfl ?_
  refine x_gI (pc' := 20) (x := (io n)) rfl rfl rfl hs ?_
  refine x_cv (ls0 := [_, _, _, _]) (rest := []) rfl rfl rfl rfl rfl ?_
  refine x_iload_n (pc' := 1) rfl rfl rfl ?_
  refine x_aload_n (pc' := 2) rfl rfl rfl rfl rfl ?_
  refine x_alen (pc' := 3) (N := n) rfl rfl rfl hw ?_
  refine x_icmp_n (a' := 11) (pc' := 6) (z := decide (n = n)) rfl rfl rfl (ic_nen (p := n) (q := n) (Nat.lt_trans hnb (by decide)) (Nat.lt_trans hnb (by decide))) (fun h => absurd (of_decide_eq_false h) (by first | decide | omega | simp)) (fun _ => ?_)
  refine x_aload_n (pc' := 7) rfl rfl rfl rfl rfl ?_
  refine x_cv (ls0 := [_]) (rest := []) rfl rfl rfl rfl rfl ?_
  refine x_aload_n (pc' := 1) rfl rfl rfl rfl rfl ?_
  refine x_aload_n (pc' := 2) rfl rfl rfl rfl rfl ?_
  refine x_gI (pc' := 5) (x := (io n)) rfl rfl rfl hs ?_
  refine x_iconst (pc' := 6) rfl rfl ?_
  refine x_iadd (pc' := 7) (z := (io (n + 1))) rfl rfl (io_add n 1) ?_
  refine x_cv (ls0 := [_, _, sJk, sJk]) (rest := []) rfl rfl rfl rfl rfl ?_
  refine x_aload_n (pc' := 1) rfl rfl rfl rfl rfl ?_
  refine x_gR (pc' := 4) (r := (some d)) rfl rfl rfl hd ?_
  refine x_alen (pc' := 5) (N := n) rfl rfl rfl hw ?_
  refine x_istore_n (pc' := 6) (ls' := [_, _, _, _]) rfl rfl rfl rfl ?_
  refine x_iload_n (pc' := 7) rfl rfl rfl ?_
  refine x_if (a' := 20) (pc' := 10) (z := decide (0 < n)) rfl rfl rfl (ic_gt (p := n) (q := 0) (Nat.lt_trans hnb (by decide)) (by decide)) (fun _ => ?_) (fun h => absurd hn0 (of_decide_eq_false h))
  refine x_iload_n (pc' := 21) rfl rfl rfl ?_
  refine x_iload_n (pc' := 22) rfl rfl rfl ?_
  refine x_iload_n (pc' := 23) rfl rfl rfl ?_
  refine x_isub (pc' := 24) (z := (io 1)) rfl rfl (io_s1 n) ?_
  refine x_iload_n (pc' := 25) rfl rfl rfl ?_
  refine x_iconst (pc' := 26) rfl rfl ?_
  refine x_ishr (pc' := 27) (z := (io (n / 2))) rfl rfl (io_h (Nat.lt_trans hnb (by decide))) ?_
  refine x_cs (ls0 := [_, _, _, sJk]) (rest := []) rfl rfl rfl rfl ?_
  refine x_iload_n (pc' := 1) rfl rfl rfl ?_
  refine x_iload_n (pc' := 2) rfl rfl rfl ?_
  refine x_iload_n (pc' := 3) rfl rfl rfl ?_
  refine x_max (pc' := 6) (z := (io (max 1 (n / 2)))) rfl rfl rfl (io_mx (by decide) (gw_h hnb)) ?_
  refine x_iadd (pc' := 7) (z := (io (n + (max 1 (n / 2))))) rfl rfl (io_add n (max 1 (n / 2))) ?_
  refine x_istore_n (pc' := 8) (ls' := [_, _, _, _]) rfl rfl rfl rfl ?_
  refine x_iconst (pc' := 9) rfl rfl ?_
  refine x_iload_n (pc' := 10) rfl rfl rfl ?_
  refine x_icmp_n (a' := 21) (pc' := 13) (z := decide (0 < (n + (max 1 (n / 2))))) rfl rfl rfl (ic_gen (p := 0) (q := (n + (max 1 (n / 2)))) (by decide) (gw_lt hnb)) (fun h => absurd (gw_0 n) (of_decide_eq_false h)) (fun _ => ?_)
  refine x_iload_n (pc' := 14) rfl rfl rfl ?_
  refine x_ldc (pc' := 16) rfl rfl ?_
  refine x_icmp (a' := 21) (pc' := 19) (z := decide (2147483639 < (n + (max 1 (n / 2))))) rfl rfl rfl (ic_gt (p := (n + (max 1 (n / 2)))) (q := 2147483639) (gw_lt hnb) (by decide)) (fun h => absurd (of_decide_eq_true h) (Nat.not_lt_of_le (gw_s hnb))) (fun _ => ?_)
  refine x_iload_n (pc' := 20) rfl rfl rfl ?_
  refine x_reti rfl rfl ?_
  refine sK_i (pc' := 30) rfl ?_
  refine x_istore_n (pc' := 31) (ls' := [_, _, _, _]) rfl rfl rfl rfl ?_
  refine x_aload_n (pc' := 32) rfl rfl rfl rfl rfl ?_
  refine x_aload_n (pc' := 33) rfl rfl rfl rfl rfl ?_
  refine x_gR (pc' := 36) (r := (some d)) rfl rfl rfl hd ?_
  refine x_iload_n (pc' := 37) rfl rfl rfl ?_
  refine x_copy (pc' := 40) (N := (n + (max 1 (n / 2)))) rfl rfl rfl rfl (gw_z hnb) (by rw [show sN (sIw t 832 l ((sI t 832 l) + 1)) 27 d = n from hw]; exact gw_n n) (by rw [show sN (sIw t 832 l ((sI t 832 l) + 1)) 27 d = n from hw]; exact hn0) (?_ : X _ _ _ (.inr (.inr (27, some (sC (sIw t 832 l ((sI t 832 l) + 1)) 27))) :: _) _ _)
  rw [show sC (sIw t 832 l ((sI t 832 l) + 1)) 27 = c from hC]
  refine x_dup_x1 (pc' := 41) rfl rfl rfl rfl ?_
  refine x_pR (pc' := 44) rfl rfl rfl ?_
  refine x_reta rfl rfl ?_
  refine sK_i (pc' := 10) rfl ?_
  refine x_reta rfl rfl ?_
  refine sK_i (pc' := 10) rfl ?_
  refine x_astore_n (pc' := 11) (ls' := [_, _, _, _]) rfl rfl rfl rfl rfl ?_
  refine x_aload_n (pc' := 12) rfl rfl rfl rfl rfl ?_
  refine x_iload_n (pc' := 13) rfl rfl rfl ?_
  refine x_aload_n (pc' := 14) rfl rfl rfl rfl rfl ?_
  refine x_aast (pc' := 15) (N := (n + (max 1 (n / 2)))) (p := n) rfl rfl rfl (Eq.trans (b := sN (sCpy (sIw t 832 l ((sI t 832 l) + 1)) d (n + (max 1 (n / 2)))) 27 c) rfl (sN_cpy hC)) (io_in (p := n) (N := (n + (max 1 (n / 2)))) (gw_l n) (gw_lt hnb)) (nn_io (p := n) (Nat.lt_trans (gw_l n) (gw_lt hnb))) ?_
  refine x_aload_n (pc' := 16) rfl rfl rfl rfl rfl ?_
  refine x_iload_n (pc' := 17) rfl rfl rfl ?_
  refine x_iconst (pc' := 18) rfl rfl ?_
  refine x_iadd (pc' := 19) (z := (io (n + 1))) rfl rfl (io_add n 1) ?_
  refine x_pI (pc' := 22) rfl rfl rfl ?_
  refine x_ret rfl ?_
  refine sK_v (pc' := 23) rfl ?_
  refine x_iconst (pc' := 24) rfl rfl ?_
  refine x_retz (z := true) rfl rfl ?_
  exact k0
theorem y_get9 {t : sT} {Q : sRs → sT → Prop} {l : Nat} {i : Nat} {n : Nat} {d : Nat} {w : Nat} {x : Nat}
    (hn : n < 2 ^ 31)
    (hi : i < n)
    (hs : sI t 834 l = io n)
    (hd : sR t 833 l = some d)
    (hw : sN t 27 d = w)
    (hiw : i < w)
    (hw31 : w < 2 ^ 31)
    (hx : sE t 27 d i = (9, some x))
    (k0 : Q (.inl (some (.inr (.inr (9, (some x)))))) t) :
    X 252 0 [.inr (.inr (13, (some l))), .inl (io i)] [] t Q := by
  refine x_iload_n (pc' := 1) rfl rfl rfl ?_
  refine x_aload_n (pc' := 2) rfl rfl rfl rfl rfl ?_
  refine x_gI (pc' := 5) (x := (io n)) rfl rfl rfl hs ?_
  refine x_cs (ls0 := [_, _]) (rest := []) rfl rfl rfl rfl ?_
  refine x_iload_n (pc' := 1) rfl rfl rfl ?_
  refine x_iload_n (pc' := 2) rfl rfl rfl ?_
  refine x_null (pc' := 3) rfl rfl rfl ?_
  refine x_cs (ls0 := [_, _, _]) (rest := []) rfl rfl rfl rfl ?_
  refine x_iload_n (pc' := 1) rfl rfl rfl ?_
  refine x_if (a' := 9) (pc' := 4) (z := decide (i < 0)) rfl rfl rfl (ic_lt (p := i) (q := 0) (Nat.lt_trans hi hn) (by decide)) (fun h => absurd (of_decide_eq_true h) (by first | decide | omega | simp)) (fun _ => ?_)
  refine x_iload_n (pc' := 5) rfl rfl rfl ?_
  refine x_iload_n (pc' := 6) rfl rfl rfl ?_
  refine x_icmp (a' := 16) (pc' := 9) (z := decide (i < n)) rfl rfl rfl (ic_lt (p := i) (q := n) (Nat.lt_trans hi hn) hn) (fun _ => ?_) (fun h => absurd hi (of_decide_eq_false h))
  refine x_iload_n (pc' := 17) rfl rfl rfl ?_
  refine x_reti rfl rfl ?_
  refine sK_i (pc' := 6) rfl ?_
  refine x_reti rfl rfl ?_
  refine sK_i (pc' := 8) rfl ?_
  refine x_pop (pc' := 9) rfl rfl rfl ?_
  refine x_aload_n (pc' := 10) rfl rfl rfl rfl rfl ?_
  refine x_iload_n (pc' := 11) rfl rfl rfl ?_
  refine x_cv (ls0 := [_, _]) (rest := []) rfl rfl rfl rfl rfl ?_
  refine x_aload_n (pc' := 1) rfl rfl rfl rfl rfl ?_
  refine x_gR (pc' := 4) (r := (some d)) rfl rfl rfl hd ?_
  refine x_iload_n (pc' := 5) rfl rfl rfl ?_
  refine x_aald (pc' := 6) (N := w) (k' := 9) (r := (some x)) rfl rfl rfl hw (io_in (p := i) (N := w) hiw hw31) (Eq.trans (congrArg (sE t 27 d) (nn_io (p := i) (Nat.lt_trans hiw hw31))) hx) ?_
  refine x_reta rfl rfl ?_
  refine sK_i (pc' := 14) rfl ?_
  refine x_reta rfl rfl ?_
  exact k0
theorem y_addA9 {t : sT} {Q : sRs → sT → Prop} {l : Nat} {x : Nat} {n : Nat} {d : Nat} {w : Nat}
    (hw31 : w < 2 ^ 31)
    (hs : sI t 834 l = io n)
    (hd : sR t 833 l = some d)
    (hw : sN t 27 d = w)
    (hiw : n < w)
    (k0 : Q (.inl (some (.inl (bz true)))) (sIw (sEw (sIw t 832 l ((sI t 832 l) + 1)) 27 d n (9, (some x))) 834 l (io (n + 1)))) :
    X 254 0 [.inr (.inr (13, (some l))), .inr (.inr (9, (some x)))] [] t Q := by
  refine x_aload_n (pc' := 1) rfl rfl rfl rfl rfl ?_
  refine x_dup (pc' := 2) rfl rfl rfl ?_
  refine x_gI (pc' := 5) (x := (sI t 832 l)) rfl rfl rfl rfl ?_
  refine x_iconst (pc' := 6) rfl rfl ?_
  refine x_iadd (pc' := 7) (z := ((sI t 832 l) + 1)) rfl rfl rfl ?_
  refine x_pI (pc' := 10) rfl rfl rfl ?_
  refine x_aload_n (pc' := 11) rfl rfl rfl rfl rfl ?_
  refine x_aload_n (pc' := 12) rfl rfl rfl rfl rfl ?_
  refine x_aload_n (pc' := 13) rfl rfl rfl rfl rfl ?_
  refine x_gR (pc' := 16) (r := (some d)) rfl rfl rfl hd ?_
  refine x_aload_n (pc' := 17) rfl rfl rfl rfl rfl ?_
  refine x_gI (pc' := 20) (x := (io n)) rfl rfl rfl hs ?_
  refine x_cv (ls0 := [_, _, _, _]) (rest := []) rfl rfl rfl rfl rfl ?_
  refine x_iload_n (pc' := 1) rfl rfl rfl ?_
  refine x_aload_n (pc' := 2) rfl rfl rfl rfl rfl ?_
  refine x_alen (pc' := 3) (N := w) rfl rfl rfl hw ?_
  refine x_icmp_n (a' := 11) (pc' := 6) (z := decide (n = w)) rfl rfl rfl (ic_nen (p := n) (q := w) (Nat.lt_trans hiw hw31) hw31) (fun _ => ?_) (fun h => absurd (of_decide_eq_true h) (Nat.ne_of_lt hiw))
  refine x_aload_n (pc' := 12) rfl rfl rfl rfl rfl ?_
  refine x_iload_n (pc' := 13) rfl rfl rfl ?_
  refine x_aload_n (pc' := 14) rfl rfl rfl rfl rfl ?_
  refine x_aast (pc' := 15) (N := w) (p := n) rfl rfl rfl hw (io_in (p := n) (N := w) hiw hw31) (nn_io (p := n) (Nat.lt_trans hiw hw31)) ?_
  refine x_aload_n (pc' := 16) rfl rfl rfl rfl rfl ?_
  refine x_iload_n (pc' := 17) rfl rfl rfl ?_
  refine x_iconst (pc' := 18) rfl rfl ?_
  refine x_iadd (pc' := 19) (z := (io (n + 1))) rfl rfl (io_add n 1) ?_
  refine x_pI (pc' := 22) rfl rfl rfl ?_
  refine x_ret rfl ?_
  refine sK_v (pc' := 23) rfl ?_
  refine x_iconst (pc' := 24) rfl rfl ?_
  refine x_retz (z := true) rfl rfl ?_
  exact k0
theorem y_addB9 {t : sT} {Q : sRs → sT → Prop} {l : Nat} {x : Nat} {c : Nat}
    (hs : sI t 834 l = 0)
    (hd : sR t 833 l = some 0)
    (hw : sN t 27 0 = 0)
    (hC : sC t 27 = c)
    (hc0 : 0 < c)
    (k0 : Q (.inl (some (.inl (bz true)))) (sIw (sEw (sRw (sNwA (sIw t 832 l ((sI t 832 l) + 1)) 27 10) 833 l (some c)) 27 c 0 (9, (some x))) 834 l 1)) :
    X 254 0 [.inr (.inr (13, (some l))), .inr (.inr (9, (some x)))] [] t Q := by
  refine x_aload_n (pc' := 1) rfl rfl rfl rfl rfl ?_
  refine x_dup (pc' := 2) rfl rfl rfl ?_
  refine x_gI (pc' := 5) (x := (sI t 832 l)) rfl rfl rfl rfl ?_
  refine x_iconst (pc' := 6) rfl rfl ?_
  refine x_iadd (pc' := 7) (z := ((sI t 832 l) + 1)) rfl rfl rfl ?_
  refine x_pI (pc' := 10) rfl rfl rfl ?_
  refine x_aload_n (pc' := 11) rfl rfl rfl rfl rfl ?_
  refine x_aload_n (pc' := 12) rfl rfl rfl rfl rfl ?_
  refine x_aload_n (pc' := 13) rfl rfl rfl rfl rfl ?_
  refine x_gR (pc' := 16) (r := (some 0)) rfl rfl rfl hd ?_
  refine x_aload_n (pc' := 17) rfl rfl rfl rfl rfl ?_
  refine x_gI (pc' := 20) (x := 0) rfl rfl rfl hs ?_
  refine x_cv (ls0 := [_, _, _, _]) (rest := []) rfl rfl rfl rfl rfl ?_
  refine x_iload_n (pc' := 1) rfl rfl rfl ?_
  refine x_aload_n (pc' := 2) rfl rfl rfl rfl rfl ?_
  refine x_alen (pc' := 3) (N := 0) rfl rfl rfl hw (?_ : X _ _ _ (.inl 0 :: _) _ _)
  refine x_icmp (a' := 11) (pc' := 6) (z := false) rfl rfl rfl (by decide) (fun h => by cases h) (fun _ => ?_)
  refine x_aload_n (pc' := 7) rfl rfl rfl rfl rfl ?_
  refine x_cv (ls0 := [_]) (rest := []) rfl rfl rfl rfl rfl ?_
  refine x_aload_n (pc' := 1) rfl rfl rfl rfl rfl ?_
  refine x_aload_n (pc' := 2) rfl rfl rfl rfl rfl ?_
  refine x_gI (pc' := 5) (x := 0) rfl rfl rfl hs ?_
  refine x_iconst (pc' := 6) rfl rfl ?_
  refine x_iadd (pc' := 7) (z := 1) rfl rfl (by decide) ?_
  refine x_cv (ls0 := [_, _, sJk, sJk]) (rest := []) rfl rfl rfl rfl rfl ?_
  refine x_aload_n (pc' := 1) rfl rfl rfl rfl rfl ?_
  refine x_gR (pc' := 4) (r := (some 0)) rfl rfl rfl hd ?_
  refine x_alen (pc' := 5) (N := 0) rfl rfl rfl hw (?_ : X _ _ _ (.inl 0 :: _) _ _)
  refine x_istore_n (pc' := 6) (ls' := [_, _, _, _]) rfl rfl rfl rfl ?_
  refine x_iload_n (pc' := 7) rfl rfl rfl ?_
  refine x_if (a' := 20) (pc' := 10) (z := false) rfl rfl rfl (by decide) (fun h => by cases h) (fun _ => ?_)
  refine x_aload_n (pc' := 11) rfl rfl rfl rfl rfl ?_
  refine x_gR (pc' := 14) (r := (some 0)) rfl rfl rfl hd ?_
  refine x_getstatic (pc' := 17) rfl rfl (show 0 < sC t 27 from hC.symm ▸ hc0) ?_
  refine x_acmp_eq (a' := 45) (pc' := 20) (z := decide (0 = 0)) rfl rfl rfl rfl dec_some (fun _ => ?_) (fun h => absurd (of_decide_eq_false h) (by first | decide | omega | simp))
  refine x_aload_n (pc' := 46) rfl rfl rfl rfl rfl ?_
  refine x_bipush (pc' := 48) rfl rfl ?_
  refine x_iload_n (pc' := 49) rfl rfl rfl ?_
  refine x_max (pc' := 52) (z := 10) rfl rfl rfl (by decide) ?_
  refine x_anewarray (pc' := 55) (N := 10) (i := c) rfl rfl rfl rfl hC ?_
  refine x_dup_x1 (pc' := 56) rfl rfl rfl rfl ?_
  refine x_pR (pc' := 59) rfl rfl rfl ?_
  refine x_reta rfl rfl ?_
  refine sK_i (pc' := 10) rfl ?_
  refine x_reta rfl rfl ?_
  refine sK_i (pc' := 10) rfl ?_
  refine x_astore_n (pc' := 11) (ls' := [_, _, _, _]) rfl rfl rfl rfl rfl ?_
  refine x_aload_n (pc' := 12) rfl rfl rfl rfl rfl ?_
  refine x_iload_n (pc' := 13) rfl rfl rfl ?_
  refine x_aload_n (pc' := 14) rfl rfl rfl rfl rfl ?_
  refine x_aast (pc' := 15) (N := 10) (p := 0) rfl rfl rfl (Eq.trans (b := sN (sNwA (sIw t 832 l ((sI t 832 l) + 1)) 27 10) 27 c) rfl (sN_new hC)) (io_in (p := 0) (N := 10) (by decide) (by decide)) (nn_io (p := 0) (by decide)) ?_
  refine x_aload_n (pc' := 16) rfl rfl rfl rfl rfl ?_
  refine x_iload_n (pc' := 17) rfl rfl rfl ?_
  refine x_iconst (pc' := 18) rfl rfl ?_
  refine x_iadd (pc' := 19) (z := 1) rfl rfl (by decide) ?_
  refine x_pI (pc' := 22) rfl rfl rfl ?_
  refine x_ret rfl ?_
  refine sK_v (pc' := 23) rfl ?_
  refine x_iconst (pc' := 24) rfl rfl ?_
  refine x_retz (z := true) rfl rfl ?_
  exact k0
theorem y_addC9 {t : sT} {Q : sRs → sT → Prop} {l : Nat} {x : Nat} {n : Nat} {d : Nat} {c : Nat}
    (hn0 : 0 < n)
    (hnb : n < 20000)
    (hd0 : ¬ d = 0)
    (hs : sI t 834 l = io n)
    (hd : sR t 833 l = some d)
    (hw : sN t 27 d = n)
    (hC : sC t 27 = c)
    (hc0 : 0 < c)
    (k0 : Q (.inl (some (.inl (bz true)))) (sIw (sEw (sRw (sCpy (sIw t 832 l ((sI t 832 l) + 1)) d (n + (max 1 (n / 2)))) 833 l (some c)) 27 c n (9, (some x))) 834 l (io (n + 1)))) :
    X 254 0 [.inr (.inr (13, (some l))), .inr (.inr (9, (some x)))] [] t Q := by
  refine x_aload_n (pc' := 1) rfl rfl rfl rfl rfl ?_
  refine x_dup (pc' := 2) rfl rfl rfl ?_
  refine x_gI (pc' := 5) (x := (sI t 832 l)) rfl rfl rfl rfl ?_
  refine x_iconst (pc' := 6) rfl rfl ?_
  refine x_iadd (pc' := 7) (z := ((sI t 832 l) + 1)) rfl rfl rfl ?_
  refine x_pI (pc' := 10) rfl rfl rfl ?_
  refine x_aload_n (pc' := 11) rfl rfl rfl rfl rfl ?_
  refine x_aload_n (pc' := 12) rfl rfl rfl rfl rfl ?_
  refine x_aload_n (pc' := 13) rfl rfl rfl rfl rfl ?_
  refine x_gR (pc' := 16) (r := (some d)) rfl rfl rfl hd ?_
  refine x_aload_n (pc' := 17) rfl rfl rfl rfl rfl ?_
  refine x_gI (pc' := 20) (x := (io n)) rfl rfl rfl hs ?_
  refine x_cv (ls0 := [_, _, _, _]) (rest := []) rfl rfl rfl rfl rfl ?_
  refine x_iload_n (pc' := 1) rfl rfl rfl ?_
  refine x_aload_n (pc' := 2) rfl rfl rfl rfl rfl ?_
  refine x_alen (pc' := 3) (N := n) rfl rfl rfl hw ?_
  refine x_icmp_n (a' := 11) (pc' := 6) (z := decide (n = n)) rfl rfl rfl (ic_nen (p := n) (q := n) (Nat.lt_trans hnb (by decide)) (Nat.lt_trans hnb (by decide))) (fun h => absurd (of_decide_eq_false h) (by first | decide | omega | simp)) (fun _ => ?_)
  refine x_aload_n (pc' := 7) rfl rfl rfl rfl rfl ?_
  refine x_cv (ls0 := [_]) (rest := []) rfl rfl rfl rfl rfl ?_
  refine x_aload_n (pc' := 1) rfl rfl rfl rfl rfl ?_
  refine x_aload_n (pc' := 2) rfl rfl rfl rfl rfl ?_
  refine x_gI (pc' := 5) (x := (io n)) rfl rfl rfl hs ?_
  refine x_iconst (pc' := 6) rfl rfl ?_
  refine x_iadd (pc' := 7) (z := (io (n + 1))) rfl rfl (io_add n 1) ?_
  refine x_cv (ls0 := [_, _, sJk, sJk]) (rest := []) rfl rfl rfl rfl rfl ?_
  refine x_aload_n (pc' := 1) rfl rfl rfl rfl rfl ?_
  refine x_gR (pc' := 4) (r := (some d)) rfl rfl rfl hd ?_
  refine x_alen (pc' := 5) (N := n) rfl rfl rfl hw ?_
  refine x_istore_n (pc' := 6) (ls' := [_, _, _, _]) rfl rfl rfl rfl ?_
  refine x_iload_n (pc' := 7) rfl rfl rfl ?_
  refine x_if (a' := 20) (pc' := 10) (z := decide (0 < n)) rfl rfl rfl (ic_gt (p := n) (q := 0) (Nat.lt_trans hnb (by decide)) (by decide)) (fun _ => ?_) (fun h => absurd hn0 (of_decide_eq_false h))
  refine x_iload_n (pc' := 21) rfl rfl rfl ?_
  refine x_iload_n (pc' := 22) rfl rfl rfl ?_
  refine x_iload_n (pc' := 23) rfl rfl rfl ?_
  refine x_isub (pc' := 24) (z := (io 1)) rfl rfl (io_s1 n) ?_
  refine x_iload_n (pc' := 25) rfl rfl rfl ?_
  refine x_iconst (pc' := 26) rfl rfl ?_
  refine x_ishr (pc' := 27) (z := (io (n / 2))) rfl rfl (io_h (Nat.lt_trans hnb (by decide))) ?_
  refine x_cs (ls0 := [_, _, _, sJk]) (rest := []) rfl rfl rfl rfl ?_
  refine x_iload_n (pc' := 1) rfl rfl rfl ?_
  refine x_iload_n (pc' := 2) rfl rfl rfl ?_
  refine x_iload_n (pc' := 3) rfl rfl rfl ?_
  refine x_max (pc' := 6) (z := (io (max 1 (n / 2)))) rfl rfl rfl (io_mx (by decide) (gw_h hnb)) ?_
  refine x_iadd (pc' := 7) (z := (io (n + (max 1 (n / 2))))) rfl rfl (io_add n (max 1 (n / 2))) ?_
  refine x_istore_n (pc' := 8) (ls' := [_, _, _, _]) rfl rfl rfl rfl ?_
  refine x_iconst (pc' := 9) rfl rfl ?_
  refine x_iload_n (pc' := 10) rfl rfl rfl ?_
  refine x_icmp_n (a' := 21) (pc' := 13) (z := decide (0 < (n + (max 1 (n / 2))))) rfl rfl rfl (ic_gen (p := 0) (q := (n + (max 1 (n / 2)))) (by decide) (gw_lt hnb)) (fun h => absurd (gw_0 n) (of_decide_eq_false h)) (fun _ => ?_)
  refine x_iload_n (pc' := 14) rfl rfl rfl ?_
  refine x_ldc (pc' := 16) rfl rfl ?_
  refine x_icmp (a' := 21) (pc' := 19) (z := decide (2147483639 < (n + (max 1 (n / 2))))) rfl rfl rfl (ic_gt (p := (n + (max 1 (n / 2)))) (q := 2147483639) (gw_lt hnb) (by decide)) (fun h => absurd (of_decide_eq_true h) (Nat.not_lt_of_le (gw_s hnb))) (fun _ => ?_)
  refine x_iload_n (pc' := 20) rfl rfl rfl ?_
  refine x_reti rfl rfl ?_
  refine sK_i (pc' := 30) rfl ?_
  refine x_istore_n (pc' := 31) (ls' := [_, _, _, _]) rfl rfl rfl rfl ?_
  refine x_aload_n (pc' := 32) rfl rfl rfl rfl rfl ?_
  refine x_aload_n (pc' := 33) rfl rfl rfl rfl rfl ?_
  refine x_gR (pc' := 36) (r := (some d)) rfl rfl rfl hd ?_
  refine x_iload_n (pc' := 37) rfl rfl rfl ?_
  refine x_copy (pc' := 40) (N := (n + (max 1 (n / 2)))) rfl rfl rfl rfl (gw_z hnb) (by rw [show sN (sIw t 832 l ((sI t 832 l) + 1)) 27 d = n from hw]; exact gw_n n) (by rw [show sN (sIw t 832 l ((sI t 832 l) + 1)) 27 d = n from hw]; exact hn0) (?_ : X _ _ _ (.inr (.inr (27, some (sC (sIw t 832 l ((sI t 832 l) + 1)) 27))) :: _) _ _)
  rw [show sC (sIw t 832 l ((sI t 832 l) + 1)) 27 = c from hC]
  refine x_dup_x1 (pc' := 41) rfl rfl rfl rfl ?_
  refine x_pR (pc' := 44) rfl rfl rfl ?_
  refine x_reta rfl rfl ?_
  refine sK_i (pc' := 10) rfl ?_
  refine x_reta rfl rfl ?_
  refine sK_i (pc' := 10) rfl ?_
  refine x_astore_n (pc' := 11) (ls' := [_, _, _, _]) rfl rfl rfl rfl rfl ?_
  refine x_aload_n (pc' := 12) rfl rfl rfl rfl rfl ?_
  refine x_iload_n (pc' := 13) rfl rfl rfl ?_
  refine x_aload_n (pc' := 14) rfl rfl rfl rfl rfl ?_
  refine x_aast (pc' := 15) (N := (n + (max 1 (n / 2)))) (p := n) rfl rfl rfl (Eq.trans (b := sN (sCpy (sIw t 832 l ((sI t 832 l) + 1)) d (n + (max 1 (n / 2)))) 27 c) rfl (sN_cpy hC)) (io_in (p := n) (N := (n + (max 1 (n / 2)))) (gw_l n) (gw_lt hnb)) (nn_io (p := n) (Nat.lt_trans (gw_l n) (gw_lt hnb))) ?_
  refine x_aload_n (pc' := 16) rfl rfl rfl rfl rfl ?_
  refine x_iload_n (pc' := 17) rfl rfl rfl ?_
  refine x_iconst (pc' := 18) rfl rfl ?_
  refine x_iadd (pc' := 19) (z := (io (n + 1))) rfl rfl (io_add n 1) ?_
  refine x_pI (pc' := 22) rfl rfl rfl ?_
  refine x_ret rfl ?_
  refine sK_v (pc' := 23) rfl ?_
  refine x_iconst (pc' := 24) rfl rfl ?_
  refine x_retz (z := true) rfl rfl ?_
  exact k0
