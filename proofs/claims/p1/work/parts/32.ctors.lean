/-! the constructors, run (printed by dcp.py) -/
def T1 (L : Nat) (xs : Nat → Int32) : sT := (sNew (sT0 L xs) 11 6)
def T3 (L : Nat) (xs : Nat → Int32) : sT := (sNew (T1 L xs) 5 6)
def T5 (L : Nat) (xs : Nat → Int32) : sT := (sEw (sIw (sRw (sNwA (sNew (sEw (sIw (sRw (sNwA (sNew (sEw (sIw (sRw (sNwA (sNew (sEw (sIw (sRw (sNwA (sNew (sEw (sIw (sRw (sNwA (sNew (sEw (sIw (sRw (sNwA (sNew (sEw (sIw (sIw (sIw (sIw (sNew (sEw (sIw (sIw (sIw (sIw (sNew (sEw (sIw (sIw (sIw (sIw (sNew (sRw (sNwA (sRw (sRw (sIw (sNew (sRw (sNwA (sRw (sNwA (T3 L xs) 25 3) 320 0 (some 0)) 26 6) 321 0 (some 0)) 13 3) 832 0 0) 833 0 (some 0)) 322 0 (some 0)) 20 18) 323 0 (some 0)) 2 4) 129 0 100) 130 0 100) 131 0 999) 128 0 0) 25 0 0 (2, (some 0))) 2 4) 129 1 100) 130 1 100) 131 1 999) 128 1 1) 25 0 1 (2, (some 1))) 2 4) 129 2 100) 130 2 100) 131 2 999) 128 2 2) 25 0 2 (2, (some 2))) 7 11) 20 3) 449 0 (some 1)) 448 0 0) 26 0 0 (7, (some 0))) 7 11) 20 3) 449 1 (some 2)) 448 1 1) 26 0 1 (7, (some 1))) 7 11) 20 3) 449 2 (some 3)) 448 2 2) 26 0 2 (7, (some 2))) 7 11) 20 3) 449 3 (some 4)) 448 3 3) 26 0 3 (7, (some 3))) 7 11) 20 3) 449 4 (some 5)) 448 4 4) 26 0 4 (7, (some 4))) 7 11) 20 3) 449 5 (some 6)) 448 5 5) 26 0 5 (7, (some 5)))
set_option maxRecDepth 10000 in
theorem sub4_42 {Q : sRs → sT → Prop} {L : Nat} {xs : Nat → Int32}
    (k0 : Q (.inl none) (T5 L xs)) :
    X 42 0 [.inr (.inr (5, (some 0))), sJk] [] (T3 L xs) Q := by
  refine x_aload_n (pc' := 1) rfl rfl rfl rfl rfl ?_
  refine x_obj (pc' := 4) rfl rfl rfl rfl ?_
  refine x_aload_n (pc' := 5) rfl rfl rfl rfl rfl ?_
  refine x_iconst (pc' := 6) rfl rfl ?_
  refine x_anewarray (pc' := 9) (N := 3) (i := 0) rfl rfl rfl rfl rfl ?_
  refine x_pR (pc' := 12) rfl rfl rfl ?_
  refine x_aload_n (pc' := 13) rfl rfl rfl rfl rfl ?_
  refine x_bipush (pc' := 15) rfl rfl ?_
  refine x_anewarray (pc' := 18) (N := 6) (i := 0) rfl rfl rfl rfl rfl ?_
  refine x_pR (pc' := 21) rfl rfl rfl ?_
  refine x_aload_n (pc' := 22) rfl rfl rfl rfl rfl ?_
  refine x_new (pc' := 25) (i := 0) rfl rfl rfl ?_
  refine x_dup (pc' := 26) rfl rfl rfl ?_
  refine x_ci (ls0 := [_]) (rest := [_, _]) rfl rfl rfl rfl rfl ?_
  refine x_aload_n (pc' := 1) rfl rfl rfl rfl rfl ?_
  refine x_ci (ls0 := [_]) (rest := []) rfl rfl rfl rfl rfl ?_
  refine x_aload_n (pc' := 1) rfl rfl rfl rfl rfl ?_
  refine x_ci (ls0 := [_]) (rest := []) rfl rfl rfl rfl rfl ?_
  refine x_aload_n (pc' := 1) rfl rfl rfl rfl rfl ?_
  refine x_obj (pc' := 4) rfl rfl rfl rfl ?_
  refine x_ret rfl ?_
  refine sK_v (pc' := 4) rfl ?_
  refine x_aload_n (pc' := 5) rfl rfl rfl rfl rfl ?_
  refine x_iconst (pc' := 6) rfl rfl ?_
  refine x_pI (pc' := 9) rfl rfl rfl ?_
  refine x_ret rfl ?_
  refine sK_v (pc' := 4) rfl ?_
  refine x_aload_n (pc' := 5) rfl rfl rfl rfl rfl ?_
  refine x_getstatic (pc' := 8) rfl rfl (Nat.le_of_ble_eq_true rfl) ?_
  refine x_pR (pc' := 11) rfl rfl rfl ?_
  refine x_ret rfl ?_
  refine sK_v (pc' := 29) rfl ?_
  refine x_pR (pc' := 32) rfl rfl rfl ?_
  refine x_aload_n (pc' := 33) rfl rfl rfl rfl rfl ?_
  refine x_bipush (pc' := 35) rfl rfl ?_
  refine x_newarray (pc' := 37) (N := 18) (i := 0) rfl rfl rfl rfl rfl ?_
  refine x_pR (pc' := 40) rfl rfl rfl ?_
  refine x_iconst (pc' := 41) rfl rfl ?_
  refine x_istore_n (pc' := 42) (ls' := [_, _]) rfl rfl rfl rfl ?_
  refine x_iload_n (pc' := 43) rfl rfl rfl ?_
  refine x_iconst (pc' := 44) rfl rfl ?_
  refine x_icmp (a' := 67) (pc' := 47) (z := false) rfl rfl rfl (by decide) (fun h => by cases h) (fun _ => ?_)
  refine x_aload_n (pc' := 48) rfl rfl rfl rfl rfl ?_
  refine x_gR (pc' := 51) (r := (some 0)) rfl rfl rfl rfl ?_
  refine x_iload_n (pc' := 52) rfl rfl rfl ?_
  refine x_new (pc' := 55) (i := 0) rfl rfl rfl ?_
  refine x_dup (pc' := 56) rfl rfl rfl ?_
  refine x_iload_n (pc' := 57) rfl rfl rfl ?_
  refine x_ci (ls0 := [_, _]) (rest := [_, _, _]) rfl rfl rfl rfl rfl ?_
  refine x_aload_n (pc' := 1) rfl rfl rfl rfl rfl ?_
  refine x_obj (pc' := 4) rfl rfl rfl rfl ?_
  refine x_aload_n (pc' := 5) rfl rfl rfl rfl rfl ?_
  refine x_bipush (pc' := 7) rfl rfl ?_
  refine x_pI (pc' := 10) rfl rfl rfl ?_
  refine x_aload_n (pc' := 11) rfl rfl rfl rfl rfl ?_
  refine x_bipush (pc' := 13) rfl rfl ?_
  refine x_pI (pc' := 16) rfl rfl rfl ?_
  refine x_aload_n (pc' := 17) rfl rfl rfl rfl rfl ?_
  refine x_sipush (pc' := 20) rfl rfl ?_
  refine x_pI (pc' := 23) rfl rfl rfl ?_
  refine x_aload_n (pc' := 24) rfl rfl rfl rfl rfl ?_
  refine x_iload_n (pc' := 25) rfl rfl rfl ?_
  refine x_pI (pc' := 28) rfl rfl rfl ?_
  refine x_ret rfl ?_
  refine sK_v (pc' := 60) rfl ?_
  refine x_aast (pc' := 61) (N := 3) (p := 0) rfl rfl rfl rfl (io_in (p := 0) (N := 3) (by decide) (by decide)) (nn_io (p := 0) (by decide)) ?_
  refine x_iinc (pc' := 64) (y := 1) (ls' := [_, _]) rfl rfl rfl rfl rfl ?_
  refine x_goto (pc' := 42) rfl rfl ?_
  refine x_iload_n (pc' := 43) rfl rfl rfl ?_
  refine x_iconst (pc' := 44) rfl rfl ?_
  refine x_icmp (a' := 67) (pc' := 47) (z := false) rfl rfl rfl (by decide) (fun h => by cases h) (fun _ => ?_)
  refine x_aload_n (pc' := 48) rfl rfl rfl rfl rfl ?_
  refine x_gR (pc' := 51) (r := (some 0)) rfl rfl rfl rfl ?_
  refine x_iload_n (pc' := 52) rfl rfl rfl ?_
  refine x_new (pc' := 55) (i := 1) rfl rfl rfl ?_
  refine x_dup (pc' := 56) rfl rfl rfl ?_
  refine x_iload_n (pc' := 57) rfl rfl rfl ?_
  refine x_ci (ls0 := [_, _]) (rest := [_, _, _]) rfl rfl rfl rfl rfl ?_
  refine x_aload_n (pc' := 1) rfl rfl rfl rfl rfl ?_
  refine x_obj (pc' := 4) rfl rfl rfl rfl ?_
  refine x_aload_n (pc' := 5) rfl rfl rfl rfl rfl ?_
  refine x_bipush (pc' := 7) rfl rfl ?_
  refine x_pI (pc' := 10) rfl rfl rfl ?_
  refine x_aload_n (pc' := 11) rfl rfl rfl rfl rfl ?_
  refine x_bipush (pc' := 13) rfl rfl ?_
  refine x_pI (pc' := 16) rfl rfl rfl ?_
  refine x_aload_n (pc' := 17) rfl rfl rfl rfl rfl ?_
  refine x_sipush (pc' := 20) rfl rfl ?_
  refine x_pI (pc' := 23) rfl rfl rfl ?_
  refine x_aload_n (pc' := 24) rfl rfl rfl rfl rfl ?_
  refine x_iload_n (pc' := 25) rfl rfl rfl ?_
  refine x_pI (pc' := 28) rfl rfl rfl ?_
  refine x_ret rfl ?_
  refine sK_v (pc' := 60) rfl ?_
  refine x_aast (pc' := 61) (N := 3) (p := 1) rfl rfl rfl rfl (io_in (p := 1) (N := 3) (by decide) (by decide)) (nn_io (p := 1) (by decide)) ?_
  refine x_iinc (pc' := 64) (y := 2) (ls' := [_, _]) rfl rfl rfl rfl rfl ?_
  refine x_goto (pc' := 42) rfl rfl ?_
  refine x_iload_n (pc' := 43) rfl rfl rfl ?_
  refine x_iconst (pc' := 44) rfl rfl ?_
  refine x_icmp (a' := 67) (pc' := 47) (z := false) rfl rfl rfl (by decide) (fun h => by cases h) (fun _ => ?_)
  refine x_aload_n (pc' := 48) rfl rfl rfl rfl rfl ?_
  refine x_gR (pc' := 51) (r := (some 0)) rfl rfl rfl rfl ?_
  refine x_iload_n (pc' := 52) rfl rfl rfl ?_
  refine x_new (pc' := 55) (i := 2) rfl rfl rfl ?_
  refine x_dup (pc' := 56) rfl rfl rfl ?_
  refine x_iload_n (pc' := 57) rfl rfl rfl ?_
  refine x_ci (ls0 := [_, _]) (rest := [_, _, _]) rfl rfl rfl rfl rfl ?_
  refine x_aload_n (pc' := 1) rfl rfl rfl rfl rfl ?_
  refine x_obj (pc' := 4) rfl rfl rfl rfl ?_
  refine x_aload_n (pc' := 5) rfl rfl rfl rfl rfl ?_
  refine x_bipush (pc' := 7) rfl rfl ?_
  refine x_pI (pc' := 10) rfl rfl rfl ?_
  refine x_aload_n (pc' := 11) rfl rfl rfl rfl rfl ?_
  refine x_bipush (pc' := 13) rfl rfl ?_
  refine x_pI (pc' := 16) rfl rfl rfl ?_
  refine x_aload_n (pc' := 17) rfl rfl rfl rfl rfl ?_
  refine x_sipush (pc' := 20) rfl rfl ?_
  refine x_pI (pc' := 23) rfl rfl rfl ?_
  refine x_aload_n (pc' := 24) rfl rfl rfl rfl rfl ?_
  refine x_iload_n (pc' := 25) rfl rfl rfl ?_
  refine x_pI (pc' := 28) rfl rfl rfl ?_
  refine x_ret rfl ?_
  refine sK_v (pc' := 60) rfl ?_
  refine x_aast (pc' := 61) (N := 3) (p := 2) rfl rfl rfl rfl (io_in (p := 2) (N := 3) (by decide) (by decide)) (nn_io (p := 2) (by decide)) ?_
  refine x_iinc (pc' := 64) (y := 3) (ls' := [_, _]) rfl rfl rfl rfl rfl ?_
  refine x_goto (pc' := 42) rfl rfl ?_
  refine x_iload_n (pc' := 43) rfl rfl rfl ?_
  refine x_iconst (pc' := 44) rfl rfl ?_
  refine x_icmp (a' := 67) (pc' := 47) (z := true) rfl rfl rfl (by decide) (fun _ => ?_) (fun h => by cases h)
  refine x_iconst (pc' := 68) rfl rfl ?_
  refine x_istore_n (pc' := 69) (ls' := [_, _]) rfl rfl rfl rfl ?_
  refine x_iload_n (pc' := 70) rfl rfl rfl ?_
  refine x_bipush (pc' := 72) rfl rfl ?_
  refine x_icmp (a' := 95) (pc' := 75) (z := false) rfl rfl rfl (by decide) (fun h => by cases h) (fun _ => ?_)
  refine x_aload_n (pc' := 76) rfl rfl rfl rfl rfl ?_
  refine x_gR (pc' := 79) (r := (some 0)) rfl rfl rfl rfl ?_
  refine x_iload_n (pc' := 80) rfl rfl rfl ?_
  refine x_new (pc' := 83) (i := 0) rfl rfl rfl ?_
  refine x_dup (pc' := 84) rfl rfl rfl ?_
  refine x_iload_n (pc' := 85) rfl rfl rfl ?_
  refine x_ci (ls0 := [_, _]) (rest := [_, _, _]) rfl rfl rfl rfl rfl ?_
  refine x_aload_n (pc' := 1) rfl rfl rfl rfl rfl ?_
  refine x_obj (pc' := 4) rfl rfl rfl rfl ?_
  refine x_aload_n (pc' := 5) rfl rfl rfl rfl rfl ?_
  refine x_iconst (pc' := 6) rfl rfl ?_
  refine x_newarray (pc' := 8) (N := 3) (i := 1) rfl rfl rfl rfl rfl ?_
  refine x_pR (pc' := 11) rfl rfl rfl ?_
  refine x_aload_n (pc' := 12) rfl rfl rfl rfl rfl ?_
  refine x_iload_n (pc' := 13) rfl rfl rfl ?_
  refine x_pI (pc' := 16) rfl rfl rfl ?_
  refine x_ret rfl ?_
  refine sK_v (pc' := 88) rfl ?_
  refine x_aast (pc' := 89) (N := 6) (p := 0) rfl rfl rfl rfl (io_in (p := 0) (N := 6) (by decide) (by decide)) (nn_io (p := 0) (by decide)) ?_
  refine x_iinc (pc' := 92) (y := 1) (ls' := [_, _]) rfl rfl rfl rfl rfl ?_
  refine x_goto (pc' := 69) rfl rfl ?_
  refine x_iload_n (pc' := 70) rfl rfl rfl ?_
  refine x_bipush (pc' := 72) rfl rfl ?_
  refine x_icmp (a' := 95) (pc' := 75) (z := false) rfl rfl rfl (by decide) (fun h => by cases h) (fun _ => ?_)
  refine x_aload_n (pc' := 76) rfl rfl rfl rfl rfl ?_
  refine x_gR (pc' := 79) (r := (some 0)) rfl rfl rfl rfl ?_
  refine x_iload_n (pc' := 80) rfl rfl rfl ?_
  refine x_new (pc' := 83) (i := 1) rfl rfl rfl ?_
  refine x_dup (pc' := 84) rfl rfl rfl ?_
  refine x_iload_n (pc' := 85) rfl rfl rfl ?_
  refine x_ci (ls0 := [_, _]) (rest := [_, _, _]) rfl rfl rfl rfl rfl ?_
  refine x_aload_n (pc' := 1) rfl rfl rfl rfl rfl ?_
  refine x_obj (pc' := 4) rfl rfl rfl rfl ?_
  refine x_aload_n (pc' := 5) rfl rfl rfl rfl rfl ?_
  refine x_iconst (pc' := 6) rfl rfl ?_
  refine x_newarray (pc' := 8) (N := 3) (i := 2) rfl rfl rfl rfl rfl ?_
  refine x_pR (pc' := 11) rfl rfl rfl ?_
  refine x_aload_n (pc' := 12) rfl rfl rfl rfl rfl ?_
  refine x_iload_n (pc' := 13) rfl rfl rfl ?_
  refine x_pI (pc' := 16) rfl rfl rfl ?_
  refine x_ret rfl ?_
  refine sK_v (pc' := 88) rfl ?_
  refine x_aast (pc' := 89) (N := 6) (p := 1) rfl rfl rfl rfl (io_in (p := 1) (N := 6) (by decide) (by decide)) (nn_io (p := 1) (by decide)) ?_
  refine x_iinc (pc' := 92) (y := 2) (ls' := [_, _]) rfl rfl rfl rfl rfl ?_
  refine x_goto (pc' := 69) rfl rfl ?_
  refine x_iload_n (pc' := 70) rfl rfl rfl ?_
  refine x_bipush (pc' := 72) rfl rfl ?_
  refine x_icmp (a' := 95) (pc' := 75) (z := false) rfl rfl rfl (by decide) (fun h => by cases h) (fun _ => ?_)
  refine x_aload_n (pc' := 76) rfl rfl rfl rfl rfl ?_
  refine x_gR (pc' := 79) (r := (some 0)) rfl rfl rfl rfl ?_
  refine x_iload_n (pc' := 80) rfl rfl rfl ?_
  refine x_new (pc' := 83) (i := 2) rfl rfl rfl ?_
  refine x_dup (pc' := 84) rfl rfl rfl ?_
  refine x_iload_n (pc' := 85) rfl rfl rfl ?_
  refine x_ci (ls0 := [_, _]) (rest := [_, _, _]) rfl rfl rfl rfl rfl ?_
  refine x_aload_n (pc' := 1) rfl rfl rfl rfl rfl ?_
  refine x_obj (pc' := 4) rfl rfl rfl rfl ?_
  refine x_aload_n (pc' := 5) rfl rfl rfl rfl rfl ?_
  refine x_iconst (pc' := 6) rfl rfl ?_
  refine x_newarray (pc' := 8) (N := 3) (i := 3) rfl rfl rfl rfl rfl ?_
  refine x_pR (pc' := 11) rfl rfl rfl ?_
  refine x_aload_n (pc' := 12) rfl rfl rfl rfl rfl ?_
  refine x_iload_n (pc' := 13) rfl rfl rfl ?_
  refine x_pI (pc' := 16) rfl rfl rfl ?_
  refine x_ret rfl ?_
  refine sK_v (pc' := 88) rfl ?_
  refine x_aast (pc' := 89) (N := 6) (p := 2) rfl rfl rfl rfl (io_in (p := 2) (N := 6) (by decide) (by decide)) (nn_io (p := 2) (by decide)) ?_
  refine x_iinc (pc' := 92) (y := 3) (ls' := [_, _]) rfl rfl rfl rfl rfl ?_
  refine x_goto (pc' := 69) rfl rfl ?_
  refine x_iload_n (pc' := 70) rfl rfl rfl ?_
  refine x_bipush (pc' := 72) rfl rfl ?_
  refine x_icmp (a' := 95) (pc' := 75) (z := false) rfl rfl rfl (by decide) (fun h => by cases h) (fun _ => ?_)
  refine x_aload_n (pc' := 76) rfl rfl rfl rfl rfl ?_
  refine x_gR (pc' := 79) (r := (some 0)) rfl rfl rfl rfl ?_
  refine x_iload_n (pc' := 80) rfl rfl rfl ?_
  refine x_new (pc' := 83) (i := 3) rfl rfl rfl ?_
  refine x_dup (pc' := 84) rfl rfl rfl ?_
  refine x_iload_n (pc' := 85) rfl rfl rfl ?_
  refine x_ci (ls0 := [_, _]) (rest := [_, _, _]) rfl rfl rfl rfl rfl ?_
  refine x_aload_n (pc' := 1) rfl rfl rfl rfl rfl ?_
  refine x_obj (pc' := 4) rfl rfl rfl rfl ?_
  refine x_aload_n (pc' := 5) rfl rfl rfl rfl rfl ?_
  refine x_iconst (pc' := 6) rfl rfl ?_
  refine x_newarray (pc' := 8) (N := 3) (i := 4) rfl rfl rfl rfl rfl ?_
  refine x_pR (pc' := 11) rfl rfl rfl ?_
  refine x_aload_n (pc' := 12) rfl rfl rfl rfl rfl ?_
  refine x_iload_n (pc' := 13) rfl rfl rfl ?_
  refine x_pI (pc' := 16) rfl rfl rfl ?_
  refine x_ret rfl ?_
  refine sK_v (pc' := 88) rfl ?_
  refine x_aast (pc' := 89) (N := 6) (p := 3) rfl rfl rfl rfl (io_in (p := 3) (N := 6) (by decide) (by decide)) (nn_io (p := 3) (by decide)) ?_
  refine x_iinc (pc' := 92) (y := 4) (ls' := [_, _]) rfl rfl rfl rfl rfl ?_
  refine x_goto (pc' := 69) rfl rfl ?_
  refine x_iload_n (pc' := 70) rfl rfl rfl ?_
  refine x_bipush (pc' := 72) rfl rfl ?_
  refine x_icmp (a' := 95) (pc' := 75) (z := false) rfl rfl rfl (by decide) (fun h => by cases h) (fun _ => ?_)
  refine x_aload_n (pc' := 76) rfl rfl rfl rfl rfl ?_
  refine x_gR (pc' := 79) (r := (some 0)) rfl rfl rfl rfl ?_
  refine x_iload_n (pc' := 80) rfl rfl rfl ?_
  refine x_new (pc' := 83) (i := 4) rfl rfl rfl ?_
  refine x_dup (pc' := 84) rfl rfl rfl ?_
  refine x_iload_n (pc' := 85) rfl rfl rfl ?_
  refine x_ci (ls0 := [_, _]) (rest := [_, _, _]) rfl rfl rfl rfl rfl ?_
  refine x_aload_n (pc' := 1) rfl rfl rfl rfl rfl ?_
  refine x_obj (pc' := 4) rfl rfl rfl rfl ?_
  refine x_aload_n (pc' := 5) rfl rfl rfl rfl rfl ?_
  refine x_iconst (pc' := 6) rfl rfl ?_
  refine x_newarray (pc' := 8) (N := 3) (i := 5) rfl rfl rfl rfl rfl ?_
  refine x_pR (pc' := 11) rfl rfl rfl ?_
  refine x_aload_n (pc' := 12) rfl rfl rfl rfl rfl ?_
  refine x_iload_n (pc' := 13) rfl rfl rfl ?_
  refine x_pI (pc' := 16) rfl rfl rfl ?_
  refine x_ret rfl ?_
  refine sK_v (pc' := 88) rfl ?_
  refine x_aast (pc' := 89) (N := 6) (p := 4) rfl rfl rfl rfl (io_in (p := 4) (N := 6) (by decide) (by decide)) (nn_io (p := 4) (by decide)) ?_
  refine x_iinc (pc' := 92) (y := 5) (ls' := [_, _]) rfl rfl rfl rfl rfl ?_
  refine x_goto (pc' := 69) rfl rfl ?_
  refine x_iload_n (pc' := 70) rfl rfl rfl ?_
  refine x_bipush (pc' := 72) rfl rfl ?_
  refine x_icmp (a' := 95) (pc' := 75) (z := false) rfl rfl rfl (by decide) (fun h => by cases h) (fun _ => ?_)
  refine x_aload_n (pc' := 76) rfl rfl rfl rfl rfl ?_
  refine x_gR (pc' := 79) (r := (some 0)) rfl rfl rfl rfl ?_
  refine x_iload_n (pc' := 80) rfl rfl rfl ?_
  refine x_new (pc' := 83) (i := 5) rfl rfl rfl ?_
  refine x_dup (pc' := 84) rfl rfl rfl ?_
  refine x_iload_n (pc' := 85) rfl rfl rfl ?_
  refine x_ci (ls0 := [_, _]) (rest := [_, _, _]) rfl rfl rfl rfl rfl ?_
  refine x_aload_n (pc' := 1) rfl rfl rfl rfl rfl ?_
  refine x_obj (pc' := 4) rfl rfl rfl rfl ?_
  refine x_aload_n (pc' := 5) rfl rfl rfl rfl rfl ?_
  refine x_iconst (pc' := 6) rfl rfl ?_
  refine x_newarray (pc' := 8) (N := 3) (i := 6) rfl rfl rfl rfl rfl ?_
  refine x_pR (pc' := 11) rfl rfl rfl ?_
  refine x_aload_n (pc' := 12) rfl rfl rfl rfl rfl ?_
  refine x_iload_n (pc' := 13) rfl rfl rfl ?_
  refine x_pI (pc' := 16) rfl rfl rfl ?_
  refine x_ret rfl ?_
  refine sK_v (pc' := 88) rfl ?_
  refine x_aast (pc' := 89) (N := 6) (p := 5) rfl rfl rfl rfl (io_in (p := 5) (N := 6) (by decide) (by decide)) (nn_io (p := 5) (by decide)) ?_
  refine x_iinc (pc' := 92) (y := 6) (ls' := [_, _]) rfl rfl rfl rfl rfl ?_
  refine x_goto (pc' := 69) rfl rfl ?_
  refine x_iload_n (pc' := 70) rfl rfl rfl ?_
  refine x_bipush (pc' := 72) rfl rfl ?_
  refine x_icmp (a' := 95) (pc' := 75) (z := true) rfl rfl rfl (by decide) (fun _ => ?_) (fun h => by cases h)
  refine x_ret rfl ?_
  exact k0
def T6 (L : Nat) (xs : Nat → Int32) : sT := (sNew (T5 L xs) 4 3)
def T8 (L : Nat) (xs : Nat → Int32) : sT := (sEw (sRw (sRw (sIw (sIw (sNew (sEw (sRw (sRw (sIw (sIw (sNew (sEw (sRw (sRw (sIw (sIw (sNew (sEw (sRw (sRw (sIw (sIw (sNew (sEw (sRw (sRw (sIw (sIw (sNew (sRw (sRw (sIw (sNew (sRw (sNwA (T6 L xs) 24 5) 256 0 (some 0)) 13 3) 832 1 0) 833 1 (some 0)) 257 0 (some 1)) 1 7) 67 0 0) 64 0 0) 65 0 (some 0)) 66 0 none) 24 0 0 (1, (some 0))) 1 7) 67 1 0) 64 1 1) 65 1 (some 1)) 66 1 none) 24 0 1 (1, (some 1))) 1 7) 67 2 0) 64 2 2) 65 2 (some 2)) 66 2 none) 24 0 2 (1, (some 2))) 1 7) 67 3 0) 64 3 3) 65 3 (some 0)) 66 3 (some 1)) 24 0 3 (1, (some 3))) 1 7) 67 4 0) 64 4 4) 65 4 (some 1)) 66 4 (some 2)) 24 0 4 (1, (some 4)))
set_option maxRecDepth 10000 in
theorem sub7_26 {Q : sRs → sT → Prop} {L : Nat} {xs : Nat → Int32}
    (k0 : Q (.inl none) (T8 L xs)) :
    X 26 0 [.inr (.inr (4, (some 0))), .inr (.inr (25, (some 0))), sJk, sJk, sJk] [] (T6 L xs) Q := by
  refine x_aload_n (pc' := 1) rfl rfl rfl rfl rfl ?_
  refine x_obj (pc' := 4) rfl rfl rfl rfl ?_
  refine x_aload_n (pc' := 5) rfl rfl rfl rfl rfl ?_
  refine x_iconst (pc' := 6) rfl rfl ?_
  refine x_anewarray (pc' := 9) (N := 5) (i := 0) rfl rfl rfl rfl rfl ?_
  refine x_pR (pc' := 12) rfl rfl rfl ?_
  refine x_aload_n (pc' := 13) rfl rfl rfl rfl rfl ?_
  refine x_new (pc' := 16) (i := 1) rfl rfl rfl ?_
  refine x_dup (pc' := 17) rfl rfl rfl ?_
  refine x_ci (ls0 := [_]) (rest := [_, _]) rfl rfl rfl rfl rfl ?_
  refine x_aload_n (pc' := 1) rfl rfl rfl rfl rfl ?_
  refine x_ci (ls0 := [_]) (rest := []) rfl rfl rfl rfl rfl ?_
  refine x_aload_n (pc' := 1) rfl rfl rfl rfl rfl ?_
  refine x_ci (ls0 := [_]) (rest := []) rfl rfl rfl rfl rfl ?_
  refine x_aload_n (pc' := 1) rfl rfl rfl rfl rfl ?_
  refine x_obj (pc' := 4) rfl rfl rfl rfl ?_
  refine x_ret rfl ?_
  refine sK_v (pc' := 4) rfl ?_
  refine x_aload_n (pc' := 5) rfl rfl rfl rfl rfl ?_
  refine x_iconst (pc' := 6) rfl rfl ?_
  refine x_pI (pc' := 9) rfl rfl rfl ?_
  refine x_ret rfl ?_
  refine sK_v (pc' := 4) rfl ?_
  refine x_aload_n (pc' := 5) rfl rfl rfl rfl rfl ?_
  refine x_getstatic (pc' := 8) rfl rfl (Nat.le_of_ble_eq_true rfl) ?_
  refine x_pR (pc' := 11) rfl rfl rfl ?_
  refine x_ret rfl ?_
  refine sK_v (pc' := 20) rfl ?_
  refine x_pR (pc' := 23) rfl rfl rfl ?_
  refine x_iconst (pc' := 24) rfl rfl ?_
  refine x_istore_n (pc' := 25) (ls' := [_, _, _, _, _]) rfl rfl rfl rfl ?_
  refine x_iload_n (pc' := 26) rfl rfl rfl ?_
  refine x_iconst (pc' := 27) rfl rfl ?_
  refine x_icmp (a' := 92) (pc' := 30) (z := false) rfl rfl rfl (by decide) (fun h => by cases h) (fun _ => ?_)
  refine x_iload_n (pc' := 31) rfl rfl rfl ?_
  refine x_iconst (pc' := 32) rfl rfl ?_
  refine x_icmp (a' := 39) (pc' := 35) (z := true) rfl rfl rfl (by decide) (fun _ => ?_) (fun h => by cases h)
  refine x_iconst (pc' := 40) rfl rfl ?_
  refine x_istore_n (pc' := 41) (ls' := [_, _, _, _, _]) rfl rfl rfl rfl ?_
  refine x_iload_n (pc' := 42) rfl rfl rfl ?_
  refine x_if (a' := 51) (pc' := 45) (z := true) rfl rfl rfl (by decide) (fun _ => ?_) (fun h => by cases h)
  refine x_iload_n (pc' := 52) rfl rfl rfl ?_
  refine x_istore (pc' := 54) (ls' := [_, _, _, _, _]) rfl rfl rfl rfl ?_
  refine x_aload_n (pc' := 55) rfl rfl rfl rfl rfl ?_
  refine x_gR (pc' := 58) (r := (some 0)) rfl rfl rfl rfl ?_
  refine x_iload_n (pc' := 59) rfl rfl rfl ?_
  refine x_new (pc' := 62) (i := 0) rfl rfl rfl ?_
  refine x_dup (pc' := 63) rfl rfl rfl ?_
  refine x_iload_n (pc' := 64) rfl rfl rfl ?_
  refine x_aload_n (pc' := 65) rfl rfl rfl rfl rfl ?_
  refine x_iload (pc' := 67) rfl rfl rfl ?_
  refine x_aald (pc' := 68) (N := 3) (k' := 2) (r := (some 0)) rfl rfl rfl rfl (io_in (p := 0) (N := 3) (by decide) (by decide)) (Eq.trans (congrArg (sE (sNew (sRw (sRw (sIw (sNew (sRw (sNwA (T6 L xs) 24 5) 256 0 (some 0)) 13 3) 832 1 0) 833 1 (some 0)) 257 0 (some 1)) 1 7) 25 0) (nn_io (p := 0) (by decide))) rfl) ?_
  refine x_iload_n (pc' := 69) rfl rfl rfl ?_
  refine x_if (a' := 81) (pc' := 72) (z := true) rfl rfl rfl (by decide) (fun _ => ?_) (fun h => by cases h)
  refine x_null (pc' := 82) rfl rfl rfl ?_
  refine x_ci (ls0 := [_, _, _, _]) (rest := [_, _, _]) rfl rfl rfl rfl rfl ?_
  refine x_aload_n (pc' := 1) rfl rfl rfl rfl rfl ?_
  refine x_obj (pc' := 4) rfl rfl rfl rfl ?_
  refine x_aload_n (pc' := 5) rfl rfl rfl rfl rfl ?_
  refine x_iconst (pc' := 6) rfl rfl ?_
  refine x_pI (pc' := 9) rfl rfl rfl ?_
  refine x_aload_n (pc' := 10) rfl rfl rfl rfl rfl ?_
  refine x_iload_n (pc' := 11) rfl rfl rfl ?_
  refine x_pI (pc' := 14) rfl rfl rfl ?_
  refine x_aload_n (pc' := 15) rfl rfl rfl rfl rfl ?_
  refine x_aload_n (pc' := 16) rfl rfl rfl rfl rfl ?_
  refine x_pR (pc' := 19) rfl rfl rfl ?_
  refine x_aload_n (pc' := 20) rfl rfl rfl rfl rfl ?_
  refine x_aload_n (pc' := 21) rfl rfl rfl rfl rfl ?_
  refine x_pR (pc' := 24) rfl rfl rfl ?_
  refine x_ret rfl ?_
  refine sK_v (pc' := 85) rfl ?_
  refine x_aast (pc' := 86) (N := 5) (p := 0) rfl rfl rfl rfl (io_in (p := 0) (N := 5) (by decide) (by decide)) (nn_io (p := 0) (by decide)) ?_
  refine x_iinc (pc' := 89) (y := 1) (ls' := [_, _, _, _, _]) rfl rfl rfl rfl rfl ?_
  refine x_goto (pc' := 25) rfl rfl ?_
  refine x_iload_n (pc' := 26) rfl rfl rfl ?_
  refine x_iconst (pc' := 27) rfl rfl ?_
  refine x_icmp (a' := 92) (pc' := 30) (z := false) rfl rfl rfl (by decide) (fun h => by cases h) (fun _ => ?_)
  refine x_iload_n (pc' := 31) rfl rfl rfl ?_
  refine x_iconst (pc' := 32) rfl rfl ?_
  refine x_icmp (a' := 39) (pc' := 35) (z := true) rfl rfl rfl (by decide) (fun _ => ?_) (fun h => by cases h)
  refine x_iconst (pc' := 40) rfl rfl ?_
  refine x_istore_n (pc' := 41) (ls' := [_, _, _, _, _]) rfl rfl rfl rfl ?_
  refine x_iload_n (pc' := 42) rfl rfl rfl ?_
  refine x_if (a' := 51) (pc' := 45) (z := true) rfl rfl rfl (by decide) (fun _ => ?_) (fun h => by cases h)
  refine x_iload_n (pc' := 52) rfl rfl rfl ?_
  refine x_istore (pc' := 54) (ls' := [_, _, _, _, _]) rfl rfl rfl rfl ?_
  refine x_aload_n (pc' := 55) rfl rfl rfl rfl rfl ?_
  refine x_gR (pc' := 58) (r := (some 0)) rfl rfl rfl rfl ?_
  refine x_iload_n (pc' := 59) rfl rfl rfl ?_
  refine x_new (pc' := 62) (i := 1) rfl rfl rfl ?_
  refine x_dup (pc' := 63) rfl rfl rfl ?_
  refine x_iload_n (pc' := 64) rfl rfl rfl ?_
  refine x_aload_n (pc' := 65) rfl rfl rfl rfl rfl ?_
  refine x_iload (pc' := 67) rfl rfl rfl ?_
  refine x_aald (pc' := 68) (N := 3) (k' := 2) (r := (some 1)) rfl rfl rfl rfl (io_in (p := 1) (N := 3) (by decide) (by decide)) (Eq.trans (congrArg (sE (sNew (sEw (sRw (sRw (sIw (sIw (sNew (sRw (sRw (sIw (sNew (sRw (sNwA (T6 L xs) 24 5) 256 0 (some 0)) 13 3) 832 1 0) 833 1 (some 0)) 257 0 (some 1)) 1 7) 67 0 0) 64 0 0) 65 0 (some 0)) 66 0 none) 24 0 0 (1, (some 0))) 1 7) 25 0) (nn_io (p := 1) (by decide))) rfl) ?_
  refine x_iload_n (pc' := 69) rfl rfl rfl ?_
  refine x_if (a' := 81) (pc' := 72) (z := true) rfl rfl rfl (by decide) (fun _ => ?_) (fun h => by cases h)
  refine x_null (pc' := 82) rfl rfl rfl ?_
  refine x_ci (ls0 := [_, _, _, _]) (rest := [_, _, _]) rfl rfl rfl rfl rfl ?_
  refine x_aload_n (pc' := 1) rfl rfl rfl rfl rfl ?_
  refine x_obj (pc' := 4) rfl rfl rfl rfl ?_
  refine x_aload_n (pc' := 5) rfl rfl rfl rfl rfl ?_
  refine x_iconst (pc' := 6) rfl rfl ?_
  refine x_pI (pc' := 9) rfl rfl rfl ?_
  refine x_aload_n (pc' := 10) rfl rfl rfl rfl rfl ?_
  refine x_iload_n (pc' := 11) rfl rfl rfl ?_
  refine x_pI (pc' := 14) rfl rfl rfl ?_
  refine x_aload_n (pc' := 15) rfl rfl rfl rfl rfl ?_
  refine x_aload_n (pc' := 16) rfl rfl rfl rfl rfl ?_
  refine x_pR (pc' := 19) rfl rfl rfl ?_
  refine x_aload_n (pc' := 20) rfl rfl rfl rfl rfl ?_
  refine x_aload_n (pc' := 21) rfl rfl rfl rfl rfl ?_
  refine x_pR (pc' := 24) rfl rfl rfl ?_
  refine x_ret rfl ?_
  refine sK_v (pc' := 85) rfl ?_
  refine x_aast (pc' := 86) (N := 5) (p := 1) rfl rfl rfl rfl (io_in (p := 1) (N := 5) (by decide) (by decide)) (nn_io (p := 1) (by decide)) ?_
  refine x_iinc (pc' := 89) (y := 2) (ls' := [_, _, _, _, _]) rfl rfl rfl rfl rfl ?_
  refine x_goto (pc' := 25) rfl rfl ?_
  refine x_iload_n (pc' := 26) rfl rfl rfl ?_
  refine x_iconst (pc' := 27) rfl rfl ?_
  refine x_icmp (a' := 92) (pc' := 30) (z := false) rfl rfl rfl (by decide) (fun h => by cases h) (fun _ => ?_)
  refine x_iload_n (pc' := 31) rfl rfl rfl ?_
  refine x_iconst (pc' := 32) rfl rfl ?_
  refine x_icmp (a' := 39) (pc' := 35) (z := true) rfl rfl rfl (by decide) (fun _ => ?_) (fun h => by cases h)
  refine x_iconst (pc' := 40) rfl rfl ?_
  refine x_istore_n (pc' := 41) (ls' := [_, _, _, _, _]) rfl rfl rfl rfl ?_
  refine x_iload_n (pc' := 42) rfl rfl rfl ?_
  refine x_if (a' := 51) (pc' := 45) (z := true) rfl rfl rfl (by decide) (fun _ => ?_) (fun h => by cases h)
  refine x_iload_n (pc' := 52) rfl rfl rfl ?_
  refine x_istore (pc' := 54) (ls' := [_, _, _, _, _]) rfl rfl rfl rfl ?_
  refine x_aload_n (pc' := 55) rfl rfl rfl rfl rfl ?_
  refine x_gR (pc' := 58) (r := (some 0)) rfl rfl rfl rfl ?_
  refine x_iload_n (pc' := 59) rfl rfl rfl ?_
  refine x_new (pc' := 62) (i := 2) rfl rfl rfl ?_
  refine x_dup (pc' := 63) rfl rfl rfl ?_
  refine x_iload_n (pc' := 64) rfl rfl rfl ?_
  refine x_aload_n (pc' := 65) rfl rfl rfl rfl rfl ?_
  refine x_iload (pc' := 67) rfl rfl rfl ?_
  refine x_aald (pc' := 68) (N := 3) (k' := 2) (r := (some 2)) rfl rfl rfl rfl (io_in (p := 2) (N := 3) (by decide) (by decide)) (Eq.trans (congrArg (sE (sNew (sEw (sRw (sRw (sIw (sIw (sNew (sEw (sRw (sRw (sIw (sIw (sNew (sRw (sRw (sIw (sNew (sRw (sNwA (T6 L xs) 24 5) 256 0 (some 0)) 13 3) 832 1 0) 833 1 (some 0)) 257 0 (some 1)) 1 7) 67 0 0) 64 0 0) 65 0 (some 0)) 66 0 none) 24 0 0 (1, (some 0))) 1 7) 67 1 0) 64 1 1) 65 1 (some 1)) 66 1 none) 24 0 1 (1, (some 1))) 1 7) 25 0) (nn_io (p := 2) (by decide))) rfl) ?_
  refine x_iload_n (pc' := 69) rfl rfl rfl ?_
  refine x_if (a' := 81) (pc' := 72) (z := true) rfl rfl rfl (by decide) (fun _ => ?_) (fun h => by cases h)
  refine x_null (pc' := 82) rfl rfl rfl ?_
  refine x_ci (ls0 := [_, _, _, _]) (rest := [_, _, _]) rfl rfl rfl rfl rfl ?_
  refine x_aload_n (pc' := 1) rfl rfl rfl rfl rfl ?_
  refine x_obj (pc' := 4) rfl rfl rfl rfl ?_
  refine x_aload_n (pc' := 5) rfl rfl rfl rfl rfl ?_
  refine x_iconst (pc' := 6) rfl rfl ?_
  refine x_pI (pc' := 9) rfl rfl rfl ?_
  refine x_aload_n (pc' := 10) rfl rfl rfl rfl rfl ?_
  refine x_iload_n (pc' := 11) rfl rfl rfl ?_
  refine x_pI (pc' := 14) rfl rfl rfl ?_
  refine x_aload_n (pc' := 15) rfl rfl rfl rfl rfl ?_
  refine x_aload_n (pc' := 16) rfl rfl rfl rfl rfl ?_
  refine x_pR (pc' := 19) rfl rfl rfl ?_
  refine x_aload_n (pc' := 20) rfl rfl rfl rfl rfl ?_
  refine x_aload_n (pc' := 21) rfl rfl rfl rfl rfl ?_
  refine x_pR (pc' := 24) rfl rfl rfl ?_
  refine x_ret rfl ?_
  refine sK_v (pc' := 85) rfl ?_
  refine x_aast (pc' := 86) (N := 5) (p := 2) rfl rfl rfl rfl (io_in (p := 2) (N := 5) (by decide) (by decide)) (nn_io (p := 2) (by decide)) ?_
  refine x_iinc (pc' := 89) (y := 3) (ls' := [_, _, _, _, _]) rfl rfl rfl rfl rfl ?_
  refine x_goto (pc' := 25) rfl rfl ?_
  refine x_iload_n (pc' := 26) rfl rfl rfl ?_
  refine x_iconst (pc' := 27) rfl rfl ?_
  refine x_icmp (a' := 92) (pc' := 30) (z := false) rfl rfl rfl (by decide) (fun h => by cases h) (fun _ => ?_)
  refine x_iload_n (pc' := 31) rfl rfl rfl ?_
  refine x_iconst (pc' := 32) rfl rfl ?_
  refine x_icmp (a' := 39) (pc' := 35) (z := false) rfl rfl rfl (by decide) (fun h => by cases h) (fun _ => ?_)
  refine x_iconst (pc' := 36) rfl rfl ?_
  refine x_goto (pc' := 40) rfl rfl ?_
  refine x_istore_n (pc' := 41) (ls' := [_, _, _, _, _]) rfl rfl rfl rfl ?_
  refine x_iload_n (pc' := 42) rfl rfl rfl ?_
  refine x_if (a' := 51) (pc' := 45) (z := false) rfl rfl rfl (by decide) (fun h => by cases h) (fun _ => ?_)
  refine x_iload_n (pc' := 46) rfl rfl rfl ?_
  refine x_iconst (pc' := 47) rfl rfl ?_
  refine x_isub (pc' := 48) (z := 0) rfl rfl (by decide) ?_
  refine x_goto (pc' := 52) rfl rfl ?_
  refine x_istore (pc' := 54) (ls' := [_, _, _, _, _]) rfl rfl rfl rfl ?_
  refine x_aload_n (pc' := 55) rfl rfl rfl rfl rfl ?_
  refine x_gR (pc' := 58) (r := (some 0)) rfl rfl rfl rfl ?_
  refine x_iload_n (pc' := 59) rfl rfl rfl ?_
  refine x_new (pc' := 62) (i := 3) rfl rfl rfl ?_
  refine x_dup (pc' := 63) rfl rfl rfl ?_
  refine x_iload_n (pc' := 64) rfl rfl rfl ?_
  refine x_aload_n (pc' := 65) rfl rfl rfl rfl rfl ?_
  refine x_iload (pc' := 67) rfl rfl rfl ?_
  refine x_aald (pc' := 68) (N := 3) (k' := 2) (r := (some 0)) rfl rfl rfl rfl (io_in (p := 0) (N := 3) (by decide) (by decide)) (Eq.trans (congrArg (sE (sNew (sEw (sRw (sRw (sIw (sIw (sNew (sEw (sRw (sRw (sIw (sIw (sNew (sEw (sRw (sRw (sIw (sIw (sNew (sRw (sRw (sIw (sNew (sRw (sNwA (T6 L xs) 24 5) 256 0 (some 0)) 13 3) 832 1 0) 833 1 (some 0)) 257 0 (some 1)) 1 7) 67 0 0) 64 0 0) 65 0 (some 0)) 66 0 none) 24 0 0 (1, (some 0))) 1 7) 67 1 0) 64 1 1) 65 1 (some 1)) 66 1 none) 24 0 1 (1, (some 1))) 1 7) 67 2 0) 64 2 2) 65 2 (some 2)) 66 2 none) 24 0 2 (1, (some 2))) 1 7) 25 0) (nn_io (p := 0) (by decide))) rfl) ?_
  refine x_iload_n (pc' := 69) rfl rfl rfl ?_
  refine x_if (a' := 81) (pc' := 72) (z := false) rfl rfl rfl (by decide) (fun h => by cases h) (fun _ => ?_)
  refine x_aload_n (pc' := 73) rfl rfl rfl rfl rfl ?_
  refine x_iload (pc' := 75) rfl rfl rfl ?_
  refine x_iconst (pc' := 76) rfl rfl ?_
  refine x_iadd (pc' := 77) (z := 1) rfl rfl (by decide) ?_
  refine x_aald (pc' := 78) (N := 3) (k' := 2) (r := (some 1)) rfl rfl rfl rfl (io_in (p := 1) (N := 3) (by decide) (by decide)) (Eq.trans (congrArg (sE (sNew (sEw (sRw (sRw (sIw (sIw (sNew (sEw (sRw (sRw (sIw (sIw (sNew (sEw (sRw (sRw (sIw (sIw (sNew (sRw (sRw (sIw (sNew (sRw (sNwA (T6 L xs) 24 5) 256 0 (some 0)) 13 3) 832 1 0) 833 1 (some 0)) 257 0 (some 1)) 1 7) 67 0 0) 64 0 0) 65 0 (some 0)) 66 0 none) 24 0 0 (1, (some 0))) 1 7) 67 1 0) 64 1 1) 65 1 (some 1)) 66 1 none) 24 0 1 (1, (some 1))) 1 7) 67 2 0) 64 2 2) 65 2 (some 2)) 66 2 none) 24 0 2 (1, (some 2))) 1 7) 25 0) (nn_io (p := 1) (by decide))) rfl) ?_
  refine x_goto (pc' := 82) rfl rfl ?_
  refine x_ci (ls0 := [_, _, _, _]) (rest := [_, _, _]) rfl rfl rfl rfl rfl ?_
  refine x_aload_n (pc' := 1) rfl rfl rfl rfl rfl ?_
  refine x_obj (pc' := 4) rfl rfl rfl rfl ?_
  refine x_aload_n (pc' := 5) rfl rfl rfl rfl rfl ?_
  refine x_iconst (pc' := 6) rfl rfl ?_
  refine x_pI (pc' := 9) rfl rfl rfl ?_
  refine x_aload_n (pc' := 10) rfl rfl rfl rfl rfl ?_
  refine x_iload_n (pc' := 11) rfl rfl rfl ?_
  refine x_pI (pc' := 14) rfl rfl rfl ?_
  refine x_aload_n (pc' := 15) rfl rfl rfl rfl rfl ?_
  refine x_aload_n (pc' := 16) rfl rfl rfl rfl rfl ?_
  refine x_pR (pc' := 19) rfl rfl rfl ?_
  refine x_aload_n (pc' := 20) rfl rfl rfl rfl rfl ?_
  refine x_aload_n (pc' := 21) rfl rfl rfl rfl rfl ?_
  refine x_pR (pc' := 24) rfl rfl rfl ?_
  refine x_ret rfl ?_
  refine sK_v (pc' := 85) rfl ?_
  refine x_aast (pc' := 86) (N := 5) (p := 3) rfl rfl rfl rfl (io_in (p := 3) (N := 5) (by decide) (by decide)) (nn_io (p := 3) (by decide)) ?_
  refine x_iinc (pc' := 89) (y := 4) (ls' := [_, _, _, _, _]) rfl rfl rfl rfl rfl ?_
  refine x_goto (pc' := 25) rfl rfl ?_
  refine x_iload_n (pc' := 26) rfl rfl rfl ?_
  refine x_iconst (pc' := 27) rfl rfl ?_
  refine x_icmp (a' := 92) (pc' := 30) (z := false) rfl rfl rfl (by decide) (fun h => by cases h) (fun _ => ?_)
  refine x_iload_n (pc' := 31) rfl rfl rfl ?_
  refine x_iconst (pc' := 32) rfl rfl ?_
  refine x_icmp (a' := 39) (pc' := 35) (z := false) rfl rfl rfl (by decide) (fun h => by cases h) (fun _ => ?_)
  refine x_iconst (pc' := 36) rfl rfl ?_
  refine x_goto (pc' := 40) rfl rfl ?_
  refine x_istore_n (pc' := 41) (ls' := [_, _, _, _, _]) rfl rfl rfl rfl ?_
  refine x_iload_n (pc' := 42) rfl rfl rfl ?_
  refine x_if (a' := 51) (pc' := 45) (z := false) rfl rfl rfl (by decide) (fun h => by cases h) (fun _ => ?_)
  refine x_iload_n (pc' := 46) rfl rfl rfl ?_
  refine x_iconst (pc' := 47) rfl rfl ?_
  refine x_isub (pc' := 48) (z := 1) rfl rfl (by decide) ?_
  refine x_goto (pc' := 52) rfl rfl ?_
  refine x_istore (pc' := 54) (ls' := [_, _, _, _, _]) rfl rfl rfl rfl ?_
  refine x_aload_n (pc' := 55) rfl rfl rfl rfl rfl ?_
  refine x_gR (pc' := 58) (r := (some 0)) rfl rfl rfl rfl ?_
  refine x_iload_n (pc' := 59) rfl rfl rfl ?_
  refine x_new (pc' := 62) (i := 4) rfl rfl rfl ?_
  refine x_dup (pc' := 63) rfl rfl rfl ?_
  refine x_iload_n (pc' := 64) rfl rfl rfl ?_
  refine x_aload_n (pc' := 65) rfl rfl rfl rfl rfl ?_
  refine x_iload (pc' := 67) rfl rfl rfl ?_
  refine x_aald (pc' := 68) (N := 3) (k' := 2) (r := (some 1)) rfl rfl rfl rfl (io_in (p := 1) (N := 3) (by decide) (by decide)) (Eq.trans (congrArg (sE (sNew (sEw (sRw (sRw (sIw (sIw (sNew (sEw (sRw (sRw (sIw (sIw (sNew (sEw (sRw (sRw (sIw (sIw (sNew (sEw (sRw (sRw (sIw (sIw (sNew (sRw (sRw (sIw (sNew (sRw (sNwA (T6 L xs) 24 5) 256 0 (some 0)) 13 3) 832 1 0) 833 1 (some 0)) 257 0 (some 1)) 1 7) 67 0 0) 64 0 0) 65 0 (some 0)) 66 0 none) 24 0 0 (1, (some 0))) 1 7) 67 1 0) 64 1 1) 65 1 (some 1)) 66 1 none) 24 0 1 (1, (some 1))) 1 7) 67 2 0) 64 2 2) 65 2 (some 2)) 66 2 none) 24 0 2 (1, (some 2))) 1 7) 67 3 0) 64 3 3) 65 3 (some 0)) 66 3 (some 1)) 24 0 3 (1, (some 3))) 1 7) 25 0) (nn_io (p := 1) (by decide))) rfl) ?_
  refine x_iload_n (pc' := 69) rfl rfl rfl ?_
  refine x_if (a' := 81) (pc' := 72) (z := false) rfl rfl rfl (by decide) (fun h => by cases h) (fun _ => ?_)
  refine x_aload_n (pc' := 73) rfl rfl rfl rfl rfl ?_
  refine x_iload (pc' := 75) rfl rfl rfl ?_
  refine x_iconst (pc' := 76) rfl rfl ?_
  refine x_iadd (pc' := 77) (z := 2) rfl rfl (by decide) ?_
  refine x_aald (pc' := 78) (N := 3) (k' := 2) (r := (some 2)) rfl rfl rfl rfl (io_in (p := 2) (N := 3) (by decide) (by decide)) (Eq.trans (congrArg (sE (sNew (sEw (sRw (sRw (sIw (sIw (sNew (sEw (sRw (sRw (sIw (sIw (sNew (sEw (sRw (sRw (sIw (sIw (sNew (sEw (sRw (sRw (sIw (sIw (sNew (sRw (sRw (sIw (sNew (sRw (sNwA (T6 L xs) 24 5) 256 0 (some 0)) 13 3) 832 1 0) 833 1 (some 0)) 257 0 (some 1)) 1 7) 67 0 0) 64 0 0) 65 0 (some 0)) 66 0 none) 24 0 0 (1, (some 0))) 1 7) 67 1 0) 64 1 1) 65 1 (some 1)) 66 1 none) 24 0 1 (1, (some 1))) 1 7) 67 2 0) 64 2 2) 65 2 (some 2)) 66 2 none) 24 0 2 (1, (some 2))) 1 7) 67 3 0) 64 3 3) 65 3 (some 0)) 66 3 (some 1)) 24 0 3 (1, (some 3))) 1 7) 25 0) (nn_io (p := 2) (by decide))) rfl) ?_
  refine x_goto (pc' := 82) rfl rfl ?_
  refine x_ci (ls0 := [_, _, _, _]) (rest := [_, _, _]) rfl rfl rfl rfl rfl ?_
  refine x_aload_n (pc' := 1) rfl rfl rfl rfl rfl ?_
  refine x_obj (pc' := 4) rfl rfl rfl rfl ?_
  refine x_aload_n (pc' := 5) rfl rfl rfl rfl rfl ?_
  refine x_iconst (pc' := 6) rfl rfl ?_
  refine x_pI (pc' := 9) rfl rfl rfl ?_
  refine x_aload_n (pc' := 10) rfl rfl rfl rfl rfl ?_
  refine x_iload_n (pc' := 11) rfl rfl rfl ?_
  refine x_pI (pc' := 14) rfl rfl rfl ?_
  refine x_aload_n (pc' := 15) rfl rfl rfl rfl rfl ?_
  refine x_aload_n (pc' := 16) rfl rfl rfl rfl rfl ?_
  refine x_pR (pc' := 19) rfl rfl rfl ?_
  refine x_aload_n (pc' := 20) rfl rfl rfl rfl rfl ?_
  refine x_aload_n (pc' := 21) rfl rfl rfl rfl rfl ?_
  refine x_pR (pc' := 24) rfl rfl rfl ?_
  refine x_ret rfl ?_
  refine sK_v (pc' := 85) rfl ?_
  refine x_aast (pc' := 86) (N := 5) (p := 4) rfl rfl rfl rfl (io_in (p := 4) (N := 5) (by decide) (by decide)) (nn_io (p := 4) (by decide)) ?_
  refine x_iinc (pc' := 89) (y := 5) (ls' := [_, _, _, _, _]) rfl rfl rfl rfl rfl ?_
  refine x_goto (pc' := 25) rfl rfl ?_
  refine x_iload_n (pc' := 26) rfl rfl rfl ?_
  refine x_iconst (pc' := 27) rfl rfl ?_
  refine x_icmp (a' := 92) (pc' := 30) (z := true) rfl rfl rfl (by decide) (fun _ => ?_) (fun h => by cases h)
  refine x_ret rfl ?_
  exact k0
def T9 (L : Nat) (xs : Nat → Int32) : sT := (sNew (sRw (sRw (sRw (sRw (sNew (T8 L xs) 10 1) 640 0 (some 0)) 704 0 (some 0)) 705 0 (some 0)) 706 0 (some 0)) 6 4)
def T11 (L : Nat) (xs : Nat → Int32) : sT := (sRw (sRw (sRw (sRw (sRw (sIw (sNew (T9 L xs) 13 3) 832 2 0) 833 2 (some 0)) 387 0 (some 2)) 384 0 (some 0)) 385 0 (some 0)) 386 0 (some 0))
set_option maxRecDepth 10000 in
theorem sub10_55 {Q : sRs → sT → Prop} {L : Nat} {xs : Nat → Int32}
    (k0 : Q (.inl none) (T11 L xs)) :
    X 55 0 [.inr (.inr (6, (some 0))), .inr (.inr (5, (some 0))), .inr (.inr (4, (some 0))), .inr (.inr (10, (some 0)))] [] (T9 L xs) Q := by
  refine x_aload_n (pc' := 1) rfl rfl rfl rfl rfl ?_
  refine x_obj (pc' := 4) rfl rfl rfl rfl ?_
  refine x_aload_n (pc' := 5) rfl rfl rfl rfl rfl ?_
  refine x_new (pc' := 8) (i := 2) rfl rfl rfl ?_
  refine x_dup (pc' := 9) rfl rfl rfl ?_
  refine x_ci (ls0 := [_]) (rest := [_, _]) rfl rfl rfl rfl rfl ?_
  refine x_aload_n (pc' := 1) rfl rfl rfl rfl rfl ?_
  refine x_ci (ls0 := [_]) (rest := []) rfl rfl rfl rfl rfl ?_
  refine x_aload_n (pc' := 1) rfl rfl rfl rfl rfl ?_
  refine x_ci (ls0 := [_]) (rest := []) rfl rfl rfl rfl rfl ?_
  refine x_aload_n (pc' := 1) rfl rfl rfl rfl rfl ?_
  refine x_obj (pc' := 4) rfl rfl rfl rfl ?_
  refine x_ret rfl ?_
  refine sK_v (pc' := 4) rfl ?_
  refine x_aload_n (pc' := 5) rfl rfl rfl rfl rfl ?_
  refine x_iconst (pc' := 6) rfl rfl ?_
  refine x_pI (pc' := 9) rfl rfl rfl ?_
  refine x_ret rfl ?_
  refine sK_v (pc' := 4) rfl ?_
  refine x_aload_n (pc' := 5) rfl rfl rfl rfl rfl ?_
  refine x_getstatic (pc' := 8) rfl rfl (Nat.le_of_ble_eq_true rfl) ?_
  refine x_pR (pc' := 11) rfl rfl rfl ?_
  refine x_ret rfl ?_
  refine sK_v (pc' := 12) rfl ?_
  refine x_pR (pc' := 15) rfl rfl rfl ?_
  refine x_aload_n (pc' := 16) rfl rfl rfl rfl rfl ?_
  refine x_aload_n (pc' := 17) rfl rfl rfl rfl rfl ?_
  refine x_pR (pc' := 20) rfl rfl rfl ?_
  refine x_aload_n (pc' := 21) rfl rfl rfl rfl rfl ?_
  refine x_aload_n (pc' := 22) rfl rfl rfl rfl rfl ?_
  refine x_pR (pc' := 25) rfl rfl rfl ?_
  refine x_aload_n (pc' := 26) rfl rfl rfl rfl rfl ?_
  refine x_aload_n (pc' := 27) rfl rfl rfl rfl rfl ?_
  refine x_pR (pc' := 30) rfl rfl rfl ?_
  refine x_ret rfl ?_
  exact k0
def T12 (L : Nat) (xs : Nat → Int32) : sT := (sRw (sRw (sNew (sRw (sRw (sRw (sNew (sRw (T11 L xs) 707 0 (some 0)) 0 2) 0 0 (some 0)) 1 0 (some 0)) 708 0 (some 0)) 3 1) 192 0 (some 0)) 709 0 (some 0))
set_option maxRecDepth 10000 in
theorem sub2_83 {Q : sRs → sT → Prop} {L : Nat} {xs : Nat → Int32}
    (k0 : Q (.inl none) (T12 L xs)) :
    X 83 0 [.inr (.inr (11, (some 0))), sJk, sJk, sJk] [] (T1 L xs) Q := by
  refine x_aload_n (pc' := 1) rfl rfl rfl rfl rfl ?_
  refine x_obj (pc' := 4) rfl rfl rfl rfl ?_
  refine x_new (pc' := 7) (i := 0) rfl rfl rfl ?_
  refine x_dup (pc' := 8) rfl rfl rfl ?_
  refine x_ci (ls0 := [_, sJk]) (rest := [_]) rfl rfl rfl rfl rfl ?_
  refine sub4_42 ?_
  refine sK_v (pc' := 11) rfl ?_
  refine x_astore_n (pc' := 12) (ls' := [_, _, _, _]) rfl rfl rfl rfl rfl ?_
  refine x_new (pc' := 15) (i := 0) rfl rfl rfl ?_
  refine x_dup (pc' := 16) rfl rfl rfl ?_
  refine x_aload_n (pc' := 17) rfl rfl rfl rfl rfl ?_
  refine x_gR (pc' := 20) (r := (some 0)) rfl rfl rfl rfl ?_
  refine x_ci (ls0 := [_, _, sJk, sJk, sJk]) (rest := [_]) rfl rfl rfl rfl rfl ?_
  refine sub7_26 ?_
  refine sK_v (pc' := 23) rfl ?_
  refine x_astore_n (pc' := 24) (ls' := [_, _, _, _]) rfl rfl rfl rfl rfl ?_
  refine x_new (pc' := 27) (i := 0) rfl rfl rfl ?_
  refine x_dup (pc' := 28) rfl rfl rfl ?_
  refine x_aload_n (pc' := 29) rfl rfl rfl rfl rfl ?_
  refine x_gR (pc' := 32) (r := (some 0)) rfl rfl rfl rfl ?_
  refine x_ci (ls0 := [_, _]) (rest := [_]) rfl rfl rfl rfl rfl ?_
  refine x_aload_n (pc' := 1) rfl rfl rfl rfl rfl ?_
  refine x_obj (pc' := 4) rfl rfl rfl rfl ?_
  refine x_aload_n (pc' := 5) rfl rfl rfl rfl rfl ?_
  refine x_aload_n (pc' := 6) rfl rfl rfl rfl rfl ?_
  refine x_pR (pc' := 9) rfl rfl rfl ?_
  refine x_ret rfl ?_
  refine sK_v (pc' := 35) rfl ?_
  refine x_astore_n (pc' := 36) (ls' := [_, _, _, _]) rfl rfl rfl rfl rfl ?_
  refine x_aload_n (pc' := 37) rfl rfl rfl rfl rfl ?_
  refine x_aload_n (pc' := 38) rfl rfl rfl rfl rfl ?_
  refine x_pR (pc' := 41) rfl rfl rfl ?_
  refine x_aload_n (pc' := 42) rfl rfl rfl rfl rfl ?_
  refine x_aload_n (pc' := 43) rfl rfl rfl rfl rfl ?_
  refine x_pR (pc' := 46) rfl rfl rfl ?_
  refine x_aload_n (pc' := 47) rfl rfl rfl rfl rfl ?_
  refine x_aload_n (pc' := 48) rfl rfl rfl rfl rfl ?_
  refine x_pR (pc' := 51) rfl rfl rfl ?_
  refine x_aload_n (pc' := 52) rfl rfl rfl rfl rfl ?_
  refine x_new (pc' := 55) (i := 0) rfl rfl rfl ?_
  refine x_dup (pc' := 56) rfl rfl rfl ?_
  refine x_aload_n (pc' := 57) rfl rfl rfl rfl rfl ?_
  refine x_aload_n (pc' := 58) rfl rfl rfl rfl rfl ?_
  refine x_aload_n (pc' := 59) rfl rfl rfl rfl rfl ?_
  refine x_ci (ls0 := [_, _, _, _]) (rest := [_, _]) rfl rfl rfl rfl rfl ?_
  refine sub10_55 ?_
  refine sK_v (pc' := 62) rfl ?_
  refine x_pR (pc' := 65) rfl rfl rfl ?_
  refine x_aload_n (pc' := 66) rfl rfl rfl rfl rfl ?_
  refine x_new (pc' := 69) (i := 0) rfl rfl rfl ?_
  refine x_dup (pc' := 70) rfl rfl rfl ?_
  refine x_aload_n (pc' := 71) rfl rfl rfl rfl rfl ?_
  refine x_aload_n (pc' := 72) rfl rfl rfl rfl rfl ?_
  refine x_ci (ls0 := [_, _, _]) (rest := [_, _]) rfl rfl rfl rfl rfl ?_
  refine x_aload_n (pc' := 1) rfl rfl rfl rfl rfl ?_
  refine x_obj (pc' := 4) rfl rfl rfl rfl ?_
  refine x_aload_n (pc' := 5) rfl rfl rfl rfl rfl ?_
  refine x_aload_n (pc' := 6) rfl rfl rfl rfl rfl ?_
  refine x_pR (pc' := 9) rfl rfl rfl ?_
  refine x_aload_n (pc' := 10) rfl rfl rfl rfl rfl ?_
  refine x_aload_n (pc' := 11) rfl rfl rfl rfl rfl ?_
  refine x_pR (pc' := 14) rfl rfl rfl ?_
  refine x_ret rfl ?_
  refine sK_v (pc' := 75) rfl ?_
  refine x_pR (pc' := 78) rfl rfl rfl ?_
  refine x_aload_n (pc' := 79) rfl rfl rfl rfl rfl ?_
  refine x_new (pc' := 82) (i := 0) rfl rfl rfl ?_
  refine x_dup (pc' := 83) rfl rfl rfl ?_
  refine x_aload_n (pc' := 84) rfl rfl rfl rfl rfl ?_
  refine x_ci (ls0 := [_, _]) (rest := [_, _]) rfl rfl rfl rfl rfl ?_
  refine x_aload_n (pc' := 1) rfl rfl rfl rfl rfl ?_
  refine x_obj (pc' := 4) rfl rfl rfl rfl ?_
  refine x_aload_n (pc' := 5) rfl rfl rfl rfl rfl ?_
  refine x_aload_n (pc' := 6) rfl rfl rfl rfl rfl ?_
  refine x_pR (pc' := 9) rfl rfl rfl ?_
  refine x_ret rfl ?_
  refine sK_v (pc' := 87) rfl ?_
  refine x_pR (pc' := 90) rfl rfl rfl ?_
  refine x_ret rfl ?_
  exact k0
def T13 (L : Nat) (xs : Nat → Int32) : sT := (sNew (T12 L xs) 12 46)
def T15 (L : Nat) (xs : Nat → Int32) : sT := (sAw (sAw (sAw (sAw (sAw (sAw (sAw (sAw (sAw (sAw (sAw (sAw (sAw (sAw (sAw (sAw (sAw (sAw (sAw (sAw (sAw (sAw (sAw (sAw (sAw (sAw (sAw (sAw (sAw (sAw (sAw (sAw (sAw (sAw (sAw (sAw (sAw (sAw (sAw (sRw (sNwA (sRw (sNwA (sRw (sNwA (sRw (sNwA (sRw (sNwA (sRw (sNwA (sRw (sNwA (sRw (sNwA (sRw (sNwA (sRw (sNwA (sRw (sNwA (sRw (sNwA (sRw (sNwA (sRw (sNwA (sRw (sNwA (sRw (sNwA (sRw (sNwA (sRw (sNwA (sRw (sNwA (sRw (sNwA (sRw (sNwA (sRw (sNwA (sRw (sNwA (sRw (sNwA (sRw (sNwA (sRw (sNwA (sRw (sNwA (sRw (sNwA (sRw (sNwA (sRw (sNwA (sRw (sNwA (sRw (sNwA (sRw (sNwA (sRw (sNwA (sRw (sNwA (sRw (sNwA (sRw (sNwA (sRw (sNwA (sRw (sNwA (T13 L xs) 21 5) 769 0 (some 0)) 22 5) 770 0 (some 0)) 21 3) 771 0 (some 1)) 21 3) 772 0 (some 2)) 21 3) 773 0 (some 3)) 21 6) 774 0 (some 4)) 21 6) 775 0 (some 5)) 21 18) 776 0 (some 6)) 21 6) 777 0 (some 7)) 21 6) 778 0 (some 8)) 21 6) 779 0 (some 9)) 22 6) 780 0 (some 1)) 22 6) 781 0 (some 2)) 21 30) 782 0 (some 10)) 21 18) 783 0 (some 11)) 21 200) 787 0 (some 12)) 21 200) 788 0 (some 13)) 22 200) 789 0 (some 3)) 21 200) 790 0 (some 14)) 21 200) 791 0 (some 15)) 21 200) 792 0 (some 16)) 21 200) 793 0 (some 17)) 21 200) 794 0 (some 18)) 21 200) 795 0 (some 19)) 22 200) 796 0 (some 4)) 22 200) 797 0 (some 5)) 21 200) 798 0 (some 20)) 22 200) 799 0 (some 6)) 21 4096) 802 0 (some 21)) 21 4096) 803 0 (some 22)) 21 4096) 804 0 (some 23)) 21 4096) 805 0 (some 24)) 21 4096) 806 0 (some 25)) 22 4096) 807 0 (some 7)) 21 6) 808 0 (some 26)) 21 200) 809 0 (some 27)) 21 200) 810 0 (some 28)) 21 3) 812 0 (some 29)) 21 3) 813 0 (some 30)) 21 1 0 100) 21 2 0 100) 21 3 0 999) 21 1 1 100) 21 2 1 100) 21 3 1 999) 21 1 2 100) 21 2 2 100) 21 3 2 999) 21 10 0 (-1)) 21 10 1 (-1)) 21 10 2 (-1)) 21 10 3 (-1)) 21 10 4 (-1)) 21 10 5 (-1)) 21 10 6 (-1)) 21 10 7 (-1)) 21 10 8 (-1)) 21 10 9 (-1)) 21 10 10 (-1)) 21 10 11 (-1)) 21 10 12 (-1)) 21 10 13 (-1)) 21 10 14 (-1)) 21 10 15 (-1)) 21 10 16 (-1)) 21 10 17 (-1)) 21 10 18 (-1)) 21 10 19 (-1)) 21 10 20 (-1)) 21 10 21 (-1)) 21 10 22 (-1)) 21 10 23 (-1)) 21 10 24 (-1)) 21 10 25 (-1)) 21 10 26 (-1)) 21 10 27 (-1)) 21 10 28 (-1)) 21 10 29 (-1))
set_option maxRecDepth 10000 in
theorem sub14_142 {Q : sRs → sT → Prop} {L : Nat} {xs : Nat → Int32}
    (k0 : Q (.inl none) (T15 L xs)) :
    X 142 0 [.inr (.inr (12, (some 0))), sJk] [] (T13 L xs) Q := by
  refine x_aload_n (pc' := 1) rfl rfl rfl rfl rfl ?_
  refine x_obj (pc' := 4) rfl rfl rfl rfl ?_
  refine x_aload_n (pc' := 5) rfl rfl rfl rfl rfl ?_
  refine x_iconst (pc' := 6) rfl rfl ?_
  refine x_newarray (pc' := 8) (N := 5) (i := 0) rfl rfl rfl rfl rfl ?_
  refine x_pR (pc' := 11) rfl rfl rfl ?_
  refine x_aload_n (pc' := 12) rfl rfl rfl rfl rfl ?_
  refine x_iconst (pc' := 13) rfl rfl ?_
  refine x_newarray (pc' := 15) (N := 5) (i := 0) rfl rfl rfl rfl rfl ?_
  refine x_pR (pc' := 18) rfl rfl rfl ?_
  refine x_aload_n (pc' := 19) rfl rfl rfl rfl rfl ?_
  refine x_iconst (pc' := 20) rfl rfl ?_
  refine x_newarray (pc' := 22) (N := 3) (i := 1) rfl rfl rfl rfl rfl ?_
  refine x_pR (pc' := 25) rfl rfl rfl ?_
  refine x_aload_n (pc' := 26) rfl rfl rfl rfl rfl ?_
  refine x_iconst (pc' := 27) rfl rfl ?_
  refine x_newarray (pc' := 29) (N := 3) (i := 2) rfl rfl rfl rfl rfl ?_
  refine x_pR (pc' := 32) rfl rfl rfl ?_
  refine x_aload_n (pc' := 33) rfl rfl rfl rfl rfl ?_
  refine x_iconst (pc' := 34) rfl rfl ?_
  refine x_newarray (pc' := 36) (N := 3) (i := 3) rfl rfl rfl rfl rfl ?_
  refine x_pR (pc' := 39) rfl rfl rfl ?_
  refine x_aload_n (pc' := 40) rfl rfl rfl rfl rfl ?_
  refine x_bipush (pc' := 42) rfl rfl ?_
  refine x_newarray (pc' := 44) (N := 6) (i := 4) rfl rfl rfl rfl rfl ?_
  refine x_pR (pc' := 47) rfl rfl rfl ?_
  refine x_aload_n (pc' := 48) rfl rfl rfl rfl rfl ?_
  refine x_bipush (pc' := 50) rfl rfl ?_
  refine x_newarray (pc' := 52) (N := 6) (i := 5) rfl rfl rfl rfl rfl ?_
  refine x_pR (pc' := 55) rfl rfl rfl ?_
  refine x_aload_n (pc' := 56) rfl rfl rfl rfl rfl ?_
  refine x_bipush (pc' := 58) rfl rfl ?_
  refine x_newarray (pc' := 60) (N := 18) (i := 6) rfl rfl rfl rfl rfl ?_
  refine x_pR (pc' := 63) rfl rfl rfl ?_
  refine x_aload_n (pc' := 64) rfl rfl rfl rfl rfl ?_
  refine x_bipush (pc' := 66) rfl rfl ?_
  refine x_newarray (pc' := 68) (N := 6) (i := 7) rfl rfl rfl rfl rfl ?_
  refine x_pR (pc' := 71) rfl rfl rfl ?_
  refine x_aload_n (pc' := 72) rfl rfl rfl rfl rfl ?_
  refine x_bipush (pc' := 74) rfl rfl ?_
  refine x_newarray (pc' := 76) (N := 6) (i := 8) rfl rfl rfl rfl rfl ?_
  refine x_pR (pc' := 79) rfl rfl rfl ?_
  refine x_aload_n (pc' := 80) rfl rfl rfl rfl rfl ?_
  refine x_bipush (pc' := 82) rfl rfl ?_
  refine x_newarray (pc' := 84) (N := 6) (i := 9) rfl rfl rfl rfl rfl ?_
  refine x_pR (pc' := 87) rfl rfl rfl ?_
  refine x_aload_n (pc' := 88) rfl rfl rfl rfl rfl ?_
  refine x_bipush (pc' := 90) rfl rfl ?_
  refine x_newarray (pc' := 92) (N := 6) (i := 1) rfl rfl rfl rfl rfl ?_
  refine x_pR (pc' := 95) rfl rfl rfl ?_
  refine x_aload_n (pc' := 96) rfl rfl rfl rfl rfl ?_
  refine x_bipush (pc' := 98) rfl rfl ?_
  refine x_newarray (pc' := 100) (N := 6) (i := 2) rfl rfl rfl rfl rfl ?_
  refine x_pR (pc' := 103) rfl rfl rfl ?_
  refine x_aload_n (pc' := 104) rfl rfl rfl rfl rfl ?_
  refine x_bipush (pc' := 106) rfl rfl ?_
  refine x_newarray (pc' := 108) (N := 30) (i := 10) rfl rfl rfl rfl rfl ?_
  refine x_pR (pc' := 111) rfl rfl rfl ?_
  refine x_aload_n (pc' := 112) rfl rfl rfl rfl rfl ?_
  refine x_bipush (pc' := 114) rfl rfl ?_
  refine x_newarray (pc' := 116) (N := 18) (i := 11) rfl rfl rfl rfl rfl ?_
  refine x_pR (pc' := 119) rfl rfl rfl ?_
  refine x_aload_n (pc' := 120) rfl rfl rfl rfl rfl ?_
  refine x_sipush (pc' := 123) rfl rfl ?_
  refine x_newarray (pc' := 125) (N := 200) (i := 12) rfl rfl rfl rfl rfl ?_
  refine x_pR (pc' := 128) rfl rfl rfl ?_
  refine x_aload_n (pc' := 129) rfl rfl rfl rfl rfl ?_
  refine x_sipush (pc' := 132) rfl rfl ?_
  refine x_newarray (pc' := 134) (N := 200) (i := 13) rfl rfl rfl rfl rfl ?_
  refine x_pR (pc' := 137) rfl rfl rfl ?_
  refine x_aload_n (pc' := 138) rfl rfl rfl rfl rfl ?_
  refine x_sipush (pc' := 141) rfl rfl ?_
  refine x_newarray (pc' := 143) (N := 200) (i := 3) rfl rfl rfl rfl rfl ?_
  refine x_pR (pc' := 146) rfl rfl rfl ?_
  refine x_aload_n (pc' := 147) rfl rfl rfl rfl rfl ?_
  refine x_sipush (pc' := 150) rfl rfl ?_
  refine x_newarray (pc' := 152) (N := 200) (i := 14) rfl rfl rfl rfl rfl ?_
  refine x_pR (pc' := 155) rfl rfl rfl ?_
  refine x_aload_n (pc' := 156) rfl rfl rfl rfl rfl ?_
  refine x_sipush (pc' := 159) rfl rfl ?_
  refine x_newarray (pc' := 161) (N := 200) (i := 15) rfl rfl rfl rfl rfl ?_
  refine x_pR (pc' := 164) rfl rfl rfl ?_
  refine x_aload_n (pc' := 165) rfl rfl rfl rfl rfl ?_
  refine x_sipush (pc' := 168) rfl rfl ?_
  refine x_newarray (pc' := 170) (N := 200) (i := 16) rfl rfl rfl rfl rfl ?_
  refine x_pR (pc' := 173) rfl rfl rfl ?_
  refine x_aload_n (pc' := 174) rfl rfl rfl rfl rfl ?_
  refine x_sipush (pc' := 177) rfl rfl ?_
  refine x_newarray (pc' := 179) (N := 200) (i := 17) rfl rfl rfl rfl rfl ?_
  refine x_pR (pc' := 182) rfl rfl rfl ?_
  refine x_aload_n (pc' := 183) rfl rfl rfl rfl rfl ?_
  refine x_sipush (pc' := 186) rfl rfl ?_
  refine x_newarray (pc' := 188) (N := 200) (i := 18) rfl rfl rfl rfl rfl ?_
  refine x_pR (pc' := 191) rfl rfl rfl ?_
  refine x_aload_n (pc' := 192) rfl rfl rfl rfl rfl ?_
  refine x_sipush (pc' := 195) rfl rfl ?_
  refine x_newarray (pc' := 197) (N := 200) (i := 19) rfl rfl rfl rfl rfl ?_
  refine x_pR (pc' := 200) rfl rfl rfl ?_
  refine x_aload_n (pc' := 201) rfl rfl rfl rfl rfl ?_
  refine x_sipush (pc' := 204) rfl rfl ?_
  refine x_newarray (pc' := 206) (N := 200) (i := 4) rfl rfl rfl rfl rfl ?_
  refine x_pR (pc' := 209) rfl rfl rfl ?_
  refine x_aload_n (pc' := 210) rfl rfl rfl rfl rfl ?_
  refine x_sipush (pc' := 213) rfl rfl ?_
  refine x_newarray (pc' := 215) (N := 200) (i := 5) rfl rfl rfl rfl rfl ?_
  refine x_pR (pc' := 218) rfl rfl rfl ?_
  refine x_aload_n (pc' := 219) rfl rfl rfl rfl rfl ?_
  refine x_sipush (pc' := 222) rfl rfl ?_
  refine x_newarray (pc' := 224) (N := 200) (i := 20) rfl rfl rfl rfl rfl ?_
  refine x_pR (pc' := 227) rfl rfl rfl ?_
  refine x_aload_n (pc' := 228) rfl rfl rfl rfl rfl ?_
  refine x_sipush (pc' := 231) rfl rfl ?_
  refine x_newarray (pc' := 233) (N := 200) (i := 6) rfl rfl rfl rfl rfl ?_
  refine x_pR (pc' := 236) rfl rfl rfl ?_
  refine x_aload_n (pc' := 237) rfl rfl rfl rfl rfl ?_
  refine x_sipush (pc' := 240) rfl rfl ?_
  refine x_newarray (pc' := 242) (N := 4096) (i := 21) rfl rfl rfl rfl rfl ?_
  refine x_pR (pc' := 245) rfl rfl rfl ?_
  refine x_aload_n (pc' := 246) rfl rfl rfl rfl rfl ?_
  refine x_sipush (pc' := 249) rfl rfl ?_
  refine x_newarray (pc' := 251) (N := 4096) (i := 22) rfl rfl rfl rfl rfl ?_
  refine x_pR (pc' := 254) rfl rfl rfl ?_
  refine x_aload_n (pc' := 255) rfl rfl rfl rfl rfl ?_
  refine x_sipush (pc' := 258) rfl rfl ?_
  refine x_newarray (pc' := 260) (N := 4096) (i := 23) rfl rfl rfl rfl rfl ?_
  refine x_pR (pc' := 263) rfl rfl rfl ?_
  refine x_aload_n (pc' := 264) rfl rfl rfl rfl rfl ?_
  refine x_sipush (pc' := 267) rfl rfl ?_
  refine x_newarray (pc' := 269) (N := 4096) (i := 24) rfl rfl rfl rfl rfl ?_
  refine x_pR (pc' := 272) rfl rfl rfl ?_
  refine x_aload_n (pc' := 273) rfl rfl rfl rfl rfl ?_
  refine x_sipush (pc' := 276) rfl rfl ?_
  refine x_newarray (pc' := 278) (N := 4096) (i := 25) rfl rfl rfl rfl rfl ?_
  refine x_pR (pc' := 281) rfl rfl rfl ?_
  refine x_aload_n (pc' := 282) rfl rfl rfl rfl rfl ?_
  refine x_sipush (pc' := 285) rfl rfl ?_
  refine x_newarray (pc' := 287) (N := 4096) (i := 7) rfl rfl rfl rfl rfl ?_
  refine x_pR (pc' := 290) rfl rfl rfl ?_
  refine x_aload_n (pc' := 291) rfl rfl rfl rfl rfl ?_
  refine x_bipush (pc' := 293) rfl rfl ?_
  refine x_newarray (pc' := 295) (N := 6) (i := 26) rfl rfl rfl rfl rfl ?_
  refine x_pR (pc' := 298) rfl rfl rfl ?_
  refine x_aload_n (pc' := 299) rfl rfl rfl rfl rfl ?_
  refine x_sipush (pc' := 302) rfl rfl ?_
  refine x_newarray (pc' := 304) (N := 200) (i := 27) rfl rfl rfl rfl rfl ?_
  refine x_pR (pc' := 307) rfl rfl rfl ?_
  refine x_aload_n (pc' := 308) rfl rfl rfl rfl rfl ?_
  refine x_sipush (pc' := 311) rfl rfl ?_
  refine x_newarray (pc' := 313) (N := 200) (i := 28) rfl rfl rfl rfl rfl ?_
  refine x_pR (pc' := 316) rfl rfl rfl ?_
  refine x_aload_n (pc' := 317) rfl rfl rfl rfl rfl ?_
  refine x_iconst (pc' := 318) rfl rfl ?_
  refine x_newarray (pc' := 320) (N := 3) (i := 29) rfl rfl rfl rfl rfl ?_
  refine x_pR (pc' := 323) rfl rfl rfl ?_
  refine x_aload_n (pc' := 324) rfl rfl rfl rfl rfl ?_
  refine x_iconst (pc' := 325) rfl rfl ?_
  refine x_newarray (pc' := 327) (N := 3) (i := 30) rfl rfl rfl rfl rfl ?_
  refine x_pR (pc' := 330) rfl rfl rfl ?_
  refine x_iconst (pc' := 331) rfl rfl ?_
  refine x_istore_n (pc' := 332) (ls' := [_, _]) rfl rfl rfl rfl ?_
  refine x_iload_n (pc' := 333) rfl rfl rfl ?_
  refine x_iconst (pc' := 334) rfl rfl ?_
  refine x_icmp (a' := 368) (pc' := 337) (z := false) rfl rfl rfl (by decide) (fun h => by cases h) (fun _ => ?_)
  refine x_aload_n (pc' := 338) rfl rfl rfl rfl rfl ?_
  refine x_gR (pc' := 341) (r := (some 1)) rfl rfl rfl rfl ?_
  refine x_iload_n (pc' := 342) rfl rfl rfl ?_
  refine x_bipush (pc' := 344) rfl rfl ?_
  refine x_iast (pc' := 345) (N := 3) (p := 0) rfl rfl rfl rfl (io_in (p := 0) (N := 3) (by decide) (by decide)) (nn_io (p := 0) (by decide)) ?_
  refine x_aload_n (pc' := 346) rfl rfl rfl rfl rfl ?_
  refine x_gR (pc' := 349) (r := (some 2)) rfl rfl rfl rfl ?_
  refine x_iload_n (pc' := 350) rfl rfl rfl ?_
  refine x_bipush (pc' := 352) rfl rfl ?_
  refine x_iast (pc' := 353) (N := 3) (p := 0) rfl rfl rfl rfl (io_in (p := 0) (N := 3) (by decide) (by decide)) (nn_io (p := 0) (by decide)) ?_
  refine x_aload_n (pc' := 354) rfl rfl rfl rfl rfl ?_
  refine x_gR (pc' := 357) (r := (some 3)) rfl rfl rfl rfl ?_
  refine x_iload_n (pc' := 358) rfl rfl rfl ?_
  refine x_sipush (pc' := 361) rfl rfl ?_
  refine x_iast (pc' := 362) (N := 3) (p := 0) rfl rfl rfl rfl (io_in (p := 0) (N := 3) (by decide) (by decide)) (nn_io (p := 0) (by decide)) ?_
  refine x_iinc (pc' := 365) (y := 1) (ls' := [_, _]) rfl rfl rfl rfl rfl ?_
  refine x_goto (pc' := 332) rfl rfl ?_
  refine x_iload_n (pc' := 333) rfl rfl rfl ?_
  refine x_iconst (pc' := 334) rfl rfl ?_
  refine x_icmp (a' := 368) (pc' := 337) (z := false) rfl rfl rfl (by decide) (fun h => by cases h) (fun _ => ?_)
  refine x_aload_n (pc' := 338) rfl rfl rfl rfl rfl ?_
  refine x_gR (pc' := 341) (r := (some 1)) rfl rfl rfl rfl ?_
  refine x_iload_n (pc' := 342) rfl rfl rfl ?_
  refine x_bipush (pc' := 344) rfl rfl ?_
  refine x_iast (pc' := 345) (N := 3) (p := 1) rfl rfl rfl rfl (io_in (p := 1) (N := 3) (by decide) (by decide)) (nn_io (p := 1) (by decide)) ?_
  refine x_aload_n (pc' := 346) rfl rfl rfl rfl rfl ?_
  refine x_gR (pc' := 349) (r := (some 2)) rfl rfl rfl rfl ?_
  refine x_iload_n (pc' := 350) rfl rfl rfl ?_
  refine x_bipush (pc' := 352) rfl rfl ?_
  refine x_iast (pc' := 353) (N := 3) (p := 1) rfl rfl rfl rfl (io_in (p := 1) (N := 3) (by decide) (by decide)) (nn_io (p := 1) (by decide)) ?_
  refine x_aload_n (pc' := 354) rfl rfl rfl rfl rfl ?_
  refine x_gR (pc' := 357) (r := (some 3)) rfl rfl rfl rfl ?_
  refine x_iload_n (pc' := 358) rfl rfl rfl ?_
  refine x_sipush (pc' := 361) rfl rfl ?_
  refine x_iast (pc' := 362) (N := 3) (p := 1) rfl rfl rfl rfl (io_in (p := 1) (N := 3) (by decide) (by decide)) (nn_io (p := 1) (by decide)) ?_
  refine x_iinc (pc' := 365) (y := 2) (ls' := [_, _]) rfl rfl rfl rfl rfl ?_
  refine x_goto (pc' := 332) rfl rfl ?_
  refine x_iload_n (pc' := 333) rfl rfl rfl ?_
  refine x_iconst (pc' := 334) rfl rfl ?_
  refine x_icmp (a' := 368) (pc' := 337) (z := false) rfl rfl rfl (by decide) (fun h => by cases h) (fun _ => ?_)
  refine x_aload_n (pc' := 338) rfl rfl rfl rfl rfl ?_
  refine x_gR (pc' := 341) (r := (some 1)) rfl rfl rfl rfl ?_
  refine x_iload_n (pc' := 342) rfl rfl rfl ?_
  refine x_bipush (pc' := 344) rfl rfl ?_
  refine x_iast (pc' := 345) (N := 3) (p := 2) rfl rfl rfl rfl (io_in (p := 2) (N := 3) (by decide) (by decide)) (nn_io (p := 2) (by decide)) ?_
  refine x_aload_n (pc' := 346) rfl rfl rfl rfl rfl ?_
  refine x_gR (pc' := 349) (r := (some 2)) rfl rfl rfl rfl ?_
  refine x_iload_n (pc' := 350) rfl rfl rfl ?_
  refine x_bipush (pc' := 352) rfl rfl ?_
  refine x_iast (pc' := 353) (N := 3) (p := 2) rfl rfl rfl rfl (io_in (p := 2) (N := 3) (by decide) (by decide)) (nn_io (p := 2) (by decide)) ?_
  refine x_aload_n (pc' := 354) rfl rfl rfl rfl rfl ?_
  refine x_gR (pc' := 357) (r := (some 3)) rfl rfl rfl rfl ?_
  refine x_iload_n (pc' := 358) rfl rfl rfl ?_
  refine x_sipush (pc' := 361) rfl rfl ?_
  refine x_iast (pc' := 362) (N := 3) (p := 2) rfl rfl rfl rfl (io_in (p := 2) (N := 3) (by decide) (by decide)) (nn_io (p := 2) (by decide)) ?_
  refine x_iinc (pc' := 365) (y := 3) (ls' := [_, _]) rfl rfl rfl rfl rfl ?_
  refine x_goto (pc' := 332) rfl rfl ?_
  refine x_iload_n (pc' := 333) rfl rfl rfl ?_
  refine x_iconst (pc' := 334) rfl rfl ?_
  refine x_icmp (a' := 368) (pc' := 337) (z := true) rfl rfl rfl (by decide) (fun _ => ?_) (fun h => by cases h)
  refine x_iconst (pc' := 369) rfl rfl ?_
  refine x_istore_n (pc' := 370) (ls' := [_, _]) rfl rfl rfl rfl ?_
  refine x_iload_n (pc' := 371) rfl rfl rfl ?_
  refine x_bipush (pc' := 373) rfl rfl ?_
  refine x_icmp (a' := 389) (pc' := 376) (z := false) rfl rfl rfl (by decide) (fun h => by cases h) (fun _ => ?_)
  refine x_aload_n (pc' := 377) rfl rfl rfl rfl rfl ?_
  refine x_gR (pc' := 380) (r := (some 10)) rfl rfl rfl rfl ?_
  refine x_iload_n (pc' := 381) rfl rfl rfl ?_
  refine x_iconst (pc' := 382) rfl rfl ?_
  refine x_iast (pc' := 383) (N := 30) (p := 0) rfl rfl rfl rfl (io_in (p := 0) (N := 30) (by decide) (by decide)) (nn_io (p := 0) (by decide)) ?_
  refine x_iinc (pc' := 386) (y := 1) (ls' := [_, _]) rfl rfl rfl rfl rfl ?_
  refine x_goto (pc' := 370) rfl rfl ?_
  refine x_iload_n (pc' := 371) rfl rfl rfl ?_
  refine x_bipush (pc' := 373) rfl rfl ?_
  refine x_icmp (a' := 389) (pc' := 376) (z := false) rfl rfl rfl (by decide) (fun h => by cases h) (fun _ => ?_)
  refine x_aload_n (pc' := 377) rfl rfl rfl rfl rfl ?_
  refine x_gR (pc' := 380) (r := (some 10)) rfl rfl rfl rfl ?_
  refine x_iload_n (pc' := 381) rfl rfl rfl ?_
  refine x_iconst (pc' := 382) rfl rfl ?_
  refine x_iast (pc' := 383) (N := 30) (p := 1) rfl rfl rfl rfl (io_in (p := 1) (N := 30) (by decide) (by decide)) (nn_io (p := 1) (by decide)) ?_
  refine x_iinc (pc' := 386) (y := 2) (ls' := [_, _]) rfl rfl rfl rfl rfl ?_
  refine x_goto (pc' := 370) rfl rfl ?_
  refine x_iload_n (pc' := 371) rfl rfl rfl ?_
  refine x_bipush (pc' := 373) rfl rfl ?_
  refine x_icmp (a' := 389) (pc' := 376) (z := false) rfl rfl rfl (by decide) (fun h => by cases h) (fun _ => ?_)
  refine x_aload_n (pc' := 377) rfl rfl rfl rfl rfl ?_
  refine x_gR (pc' := 380) (r := (some 10)) rfl rfl rfl rfl ?_
  refine x_iload_n (pc' := 381) rfl rfl rfl ?_
  refine x_iconst (pc' := 382) rfl rfl ?_
  refine x_iast (pc' := 383) (N := 30) (p := 2) rfl rfl rfl rfl (io_in (p := 2) (N := 30) (by decide) (by decide)) (nn_io (p := 2) (by decide)) ?_
  refine x_iinc (pc' := 386) (y := 3) (ls' := [_, _]) rfl rfl rfl rfl rfl ?_
  refine x_goto (pc' := 370) rfl rfl ?_
  refine x_iload_n (pc' := 371) rfl rfl rfl ?_
  refine x_bipush (pc' := 373) rfl rfl ?_
  refine x_icmp (a' := 389) (pc' := 376) (z := false) rfl rfl rfl (by decide) (fun h => by cases h) (fun _ => ?_)
  refine x_aload_n (pc' := 377) rfl rfl rfl rfl rfl ?_
  refine x_gR (pc' := 380) (r := (some 10)) rfl rfl rfl rfl ?_
  refine x_iload_n (pc' := 381) rfl rfl rfl ?_
  refine x_iconst (pc' := 382) rfl rfl ?_
  refine x_iast (pc' := 383) (N := 30) (p := 3) rfl rfl rfl rfl (io_in (p := 3) (N := 30) (by decide) (by decide)) (nn_io (p := 3) (by decide)) ?_
  refine x_iinc (pc' := 386) (y := 4) (ls' := [_, _]) rfl rfl rfl rfl rfl ?_
  refine x_goto (pc' := 370) rfl rfl ?_
  refine x_iload_n (pc' := 371) rfl rfl rfl ?_
  refine x_bipush (pc' := 373) rfl rfl ?_
  refine x_icmp (a' := 389) (pc' := 376) (z := false) rfl rfl rfl (by decide) (fun h => by cases h) (fun _ => ?_)
  refine x_aload_n (pc' := 377) rfl rfl rfl rfl rfl ?_
  refine x_gR (pc' := 380) (r := (some 10)) rfl rfl rfl rfl ?_
  refine x_iload_n (pc' := 381) rfl rfl rfl ?_
  refine x_iconst (pc' := 382) rfl rfl ?_
  refine x_iast (pc' := 383) (N := 30) (p := 4) rfl rfl rfl rfl (io_in (p := 4) (N := 30) (by decide) (by decide)) (nn_io (p := 4) (by decide)) ?_
  refine x_iinc (pc' := 386) (y := 5) (ls' := [_, _]) rfl rfl rfl rfl rfl ?_
  refine x_goto (pc' := 370) rfl rfl ?_
  refine x_iload_n (pc' := 371) rfl rfl rfl ?_
  refine x_bipush (pc' := 373) rfl rfl ?_
  refine x_icmp (a' := 389) (pc' := 376) (z := false) rfl rfl rfl (by decide) (fun h => by cases h) (fun _ => ?_)
  refine x_aload_n (pc' := 377) rfl rfl rfl rfl rfl ?_
  refine x_gR (pc' := 380) (r := (some 10)) rfl rfl rfl rfl ?_
  refine x_iload_n (pc' := 381) rfl rfl rfl ?_
  refine x_iconst (pc' := 382) rfl rfl ?_
  refine x_iast (pc' := 383) (N := 30) (p := 5) rfl rfl rfl rfl (io_in (p := 5) (N := 30) (by decide) (by decide)) (nn_io (p := 5) (by decide)) ?_
  refine x_iinc (pc' := 386) (y := 6) (ls' := [_, _]) rfl rfl rfl rfl rfl ?_
  refine x_goto (pc' := 370) rfl rfl ?_
  refine x_iload_n (pc' := 371) rfl rfl rfl ?_
  refine x_bipush (pc' := 373) rfl rfl ?_
  refine x_icmp (a' := 389) (pc' := 376) (z := false) rfl rfl rfl (by decide) (fun h => by cases h) (fun _ => ?_)
  refine x_aload_n (pc' := 377) rfl rfl rfl rfl rfl ?_
  refine x_gR (pc' := 380) (r := (some 10)) rfl rfl rfl rfl ?_
  refine x_iload_n (pc' := 381) rfl rfl rfl ?_
  refine x_iconst (pc' := 382) rfl rfl ?_
  refine x_iast (pc' := 383) (N := 30) (p := 6) rfl rfl rfl rfl (io_in (p := 6) (N := 30) (by decide) (by decide)) (nn_io (p := 6) (by decide)) ?_
  refine x_iinc (pc' := 386) (y := 7) (ls' := [_, _]) rfl rfl rfl rfl rfl ?_
  refine x_goto (pc' := 370) rfl rfl ?_
  refine x_iload_n (pc' := 371) rfl rfl rfl ?_
  refine x_bipush (pc' := 373) rfl rfl ?_
  refine x_icmp (a' := 389) (pc' := 376) (z := false) rfl rfl rfl (by decide) (fun h => by cases h) (fun _ => ?_)
  refine x_aload_n (pc' := 377) rfl rfl rfl rfl rfl ?_
  refine x_gR (pc' := 380) (r := (some 10)) rfl rfl rfl rfl ?_
  refine x_iload_n (pc' := 381) rfl rfl rfl ?_
  refine x_iconst (pc' := 382) rfl rfl ?_
  refine x_iast (pc' := 383) (N := 30) (p := 7) rfl rfl rfl rfl (io_in (p := 7) (N := 30) (by decide) (by decide)) (nn_io (p := 7) (by decide)) ?_
  refine x_iinc (pc' := 386) (y := 8) (ls' := [_, _]) rfl rfl rfl rfl rfl ?_
  refine x_goto (pc' := 370) rfl rfl ?_
  refine x_iload_n (pc' := 371) rfl rfl rfl ?_
  refine x_bipush (pc' := 373) rfl rfl ?_
  refine x_icmp (a' := 389) (pc' := 376) (z := false) rfl rfl rfl (by decide) (fun h => by cases h) (fun _ => ?_)
  refine x_aload_n (pc' := 377) rfl rfl rfl rfl rfl ?_
  refine x_gR (pc' := 380) (r := (some 10)) rfl rfl rfl rfl ?_
  refine x_iload_n (pc' := 381) rfl rfl rfl ?_
  refine x_iconst (pc' := 382) rfl rfl ?_
  refine x_iast (pc' := 383) (N := 30) (p := 8) rfl rfl rfl rfl (io_in (p := 8) (N := 30) (by decide) (by decide)) (nn_io (p := 8) (by decide)) ?_
  refine x_iinc (pc' := 386) (y := 9) (ls' := [_, _]) rfl rfl rfl rfl rfl ?_
  refine x_goto (pc' := 370) rfl rfl ?_
  refine x_iload_n (pc' := 371) rfl rfl rfl ?_
  refine x_bipush (pc' := 373) rfl rfl ?_
  refine x_icmp (a' := 389) (pc' := 376) (z := false) rfl rfl rfl (by decide) (fun h => by cases h) (fun _ => ?_)
  refine x_aload_n (pc' := 377) rfl rfl rfl rfl rfl ?_
  refine x_gR (pc' := 380) (r := (some 10)) rfl rfl rfl rfl ?_
  refine x_iload_n (pc' := 381) rfl rfl rfl ?_
  refine x_iconst (pc' := 382) rfl rfl ?_
  refine x_iast (pc' := 383) (N := 30) (p := 9) rfl rfl rfl rfl (io_in (p := 9) (N := 30) (by decide) (by decide)) (nn_io (p := 9) (by decide)) ?_
  refine x_iinc (pc' := 386) (y := 10) (ls' := [_, _]) rfl rfl rfl rfl rfl ?_
  refine x_goto (pc' := 370) rfl rfl ?_
  refine x_iload_n (pc' := 371) rfl rfl rfl ?_
  refine x_bipush (pc' := 373) rfl rfl ?_
  refine x_icmp (a' := 389) (pc' := 376) (z := false) rfl rfl rfl (by decide) (fun h => by cases h) (fun _ => ?_)
  refine x_aload_n (pc' := 377) rfl rfl rfl rfl rfl ?_
  refine x_gR (pc' := 380) (r := (some 10)) rfl rfl rfl rfl ?_
  refine x_iload_n (pc' := 381) rfl rfl rfl ?_
  refine x_iconst (pc' := 382) rfl rfl ?_
  refine x_iast (pc' := 383) (N := 30) (p := 10) rfl rfl rfl rfl (io_in (p := 10) (N := 30) (by decide) (by decide)) (nn_io (p := 10) (by decide)) ?_
  refine x_iinc (pc' := 386) (y := 11) (ls' := [_, _]) rfl rfl rfl rfl rfl ?_
  refine x_goto (pc' := 370) rfl rfl ?_
  refine x_iload_n (pc' := 371) rfl rfl rfl ?_
  refine x_bipush (pc' := 373) rfl rfl ?_
  refine x_icmp (a' := 389) (pc' := 376) (z := false) rfl rfl rfl (by decide) (fun h => by cases h) (fun _ => ?_)
  refine x_aload_n (pc' := 377) rfl rfl rfl rfl rfl ?_
  refine x_gR (pc' := 380) (r := (some 10)) rfl rfl rfl rfl ?_
  refine x_iload_n (pc' := 381) rfl rfl rfl ?_
  refine x_iconst (pc' := 382) rfl rfl ?_
  refine x_iast (pc' := 383) (N := 30) (p := 11) rfl rfl rfl rfl (io_in (p := 11) (N := 30) (by decide) (by decide)) (nn_io (p := 11) (by decide)) ?_
  refine x_iinc (pc' := 386) (y := 12) (ls' := [_, _]) rfl rfl rfl rfl rfl ?_
  refine x_goto (pc' := 370) rfl rfl ?_
  refine x_iload_n (pc' := 371) rfl rfl rfl ?_
  refine x_bipush (pc' := 373) rfl rfl ?_
  refine x_icmp (a' := 389) (pc' := 376) (z := false) rfl rfl rfl (by decide) (fun h => by cases h) (fun _ => ?_)
  refine x_aload_n (pc' := 377) rfl rfl rfl rfl rfl ?_
  refine x_gR (pc' := 380) (r := (some 10)) rfl rfl rfl rfl ?_
  refine x_iload_n (pc' := 381) rfl rfl rfl ?_
  refine x_iconst (pc' := 382) rfl rfl ?_
  refine x_iast (pc' := 383) (N := 30) (p := 12) rfl rfl rfl rfl (io_in (p := 12) (N := 30) (by decide) (by decide)) (nn_io (p := 12) (by decide)) ?_
  refine x_iinc (pc' := 386) (y := 13) (ls' := [_, _]) rfl rfl rfl rfl rfl ?_
  refine x_goto (pc' := 370) rfl rfl ?_
  refine x_iload_n (pc' := 371) rfl rfl rfl ?_
  refine x_bipush (pc' := 373) rfl rfl ?_
  refine x_icmp (a' := 389) (pc' := 376) (z := false) rfl rfl rfl (by decide) (fun h => by cases h) (fun _ => ?_)
  refine x_aload_n (pc' := 377) rfl rfl rfl rfl rfl ?_
  refine x_gR (pc' := 380) (r := (some 10)) rfl rfl rfl rfl ?_
  refine x_iload_n (pc' := 381) rfl rfl rfl ?_
  refine x_iconst (pc' := 382) rfl rfl ?_
  refine x_iast (pc' := 383) (N := 30) (p := 13) rfl rfl rfl rfl (io_in (p := 13) (N := 30) (by decide) (by decide)) (nn_io (p := 13) (by decide)) ?_
  refine x_iinc (pc' := 386) (y := 14) (ls' := [_, _]) rfl rfl rfl rfl rfl ?_
  refine x_goto (pc' := 370) rfl rfl ?_
  refine x_iload_n (pc' := 371) rfl rfl rfl ?_
  refine x_bipush (pc' := 373) rfl rfl ?_
  refine x_icmp (a' := 389) (pc' := 376) (z := false) rfl rfl rfl (by decide) (fun h => by cases h) (fun _ => ?_)
  refine x_aload_n (pc' := 377) rfl rfl rfl rfl rfl ?_
  refine x_gR (pc' := 380) (r := (some 10)) rfl rfl rfl rfl ?_
  refine x_iload_n (pc' := 381) rfl rfl rfl ?_
  refine x_iconst (pc' := 382) rfl rfl ?_
  refine x_iast (pc' := 383) (N := 30) (p := 14) rfl rfl rfl rfl (io_in (p := 14) (N := 30) (by decide) (by decide)) (nn_io (p := 14) (by decide)) ?_
  refine x_iinc (pc' := 386) (y := 15) (ls' := [_, _]) rfl rfl rfl rfl rfl ?_
  refine x_goto (pc' := 370) rfl rfl ?_
  refine x_iload_n (pc' := 371) rfl rfl rfl ?_
  refine x_bipush (pc' := 373) rfl rfl ?_
  refine x_icmp (a' := 389) (pc' := 376) (z := false) rfl rfl rfl (by decide) (fun h => by cases h) (fun _ => ?_)
  refine x_aload_n (pc' := 377) rfl rfl rfl rfl rfl ?_
  refine x_gR (pc' := 380) (r := (some 10)) rfl rfl rfl rfl ?_
  refine x_iload_n (pc' := 381) rfl rfl rfl ?_
  refine x_iconst (pc' := 382) rfl rfl ?_
  refine x_iast (pc' := 383) (N := 30) (p := 15) rfl rfl rfl rfl (io_in (p := 15) (N := 30) (by decide) (by decide)) (nn_io (p := 15) (by decide)) ?_
  refine x_iinc (pc' := 386) (y := 16) (ls' := [_, _]) rfl rfl rfl rfl rfl ?_
  refine x_goto (pc' := 370) rfl rfl ?_
  refine x_iload_n (pc' := 371) rfl rfl rfl ?_
  refine x_bipush (pc' := 373) rfl rfl ?_
  refine x_icmp (a' := 389) (pc' := 376) (z := false) rfl rfl rfl (by decide) (fun h => by cases h) (fun _ => ?_)
  refine x_aload_n (pc' := 377) rfl rfl rfl rfl rfl ?_
  refine x_gR (pc' := 380) (r := (some 10)) rfl rfl rfl rfl ?_
  refine x_iload_n (pc' := 381) rfl rfl rfl ?_
  refine x_iconst (pc' := 382) rfl rfl ?_
  refine x_iast (pc' := 383) (N := 30) (p := 16) rfl rfl rfl rfl (io_in (p := 16) (N := 30) (by decide) (by decide)) (nn_io (p := 16) (by decide)) ?_
  refine x_iinc (pc' := 386) (y := 17) (ls' := [_, _]) rfl rfl rfl rfl rfl ?_
  refine x_goto (pc' := 370) rfl rfl ?_
  refine x_iload_n (pc' := 371) rfl rfl rfl ?_
  refine x_bipush (pc' := 373) rfl rfl ?_
  refine x_icmp (a' := 389) (pc' := 376) (z := false) rfl rfl rfl (by decide) (fun h => by cases h) (fun _ => ?_)
  refine x_aload_n (pc' := 377) rfl rfl rfl rfl rfl ?_
  refine x_gR (pc' := 380) (r := (some 10)) rfl rfl rfl rfl ?_
  refine x_iload_n (pc' := 381) rfl rfl rfl ?_
  refine x_iconst (pc' := 382) rfl rfl ?_
  refine x_iast (pc' := 383) (N := 30) (p := 17) rfl rfl rfl rfl (io_in (p := 17) (N := 30) (by decide) (by decide)) (nn_io (p := 17) (by decide)) ?_
  refine x_iinc (pc' := 386) (y := 18) (ls' := [_, _]) rfl rfl rfl rfl rfl ?_
  refine x_goto (pc' := 370) rfl rfl ?_
  refine x_iload_n (pc' := 371) rfl rfl rfl ?_
  refine x_bipush (pc' := 373) rfl rfl ?_
  refine x_icmp (a' := 389) (pc' := 376) (z := false) rfl rfl rfl (by decide) (fun h => by cases h) (fun _ => ?_)
  refine x_aload_n (pc' := 377) rfl rfl rfl rfl rfl ?_
  refine x_gR (pc' := 380) (r := (some 10)) rfl rfl rfl rfl ?_
  refine x_iload_n (pc' := 381) rfl rfl rfl ?_
  refine x_iconst (pc' := 382) rfl rfl ?_
  refine x_iast (pc' := 383) (N := 30) (p := 18) rfl rfl rfl rfl (io_in (p := 18) (N := 30) (by decide) (by decide)) (nn_io (p := 18) (by decide)) ?_
  refine x_iinc (pc' := 386) (y := 19) (ls' := [_, _]) rfl rfl rfl rfl rfl ?_
  refine x_goto (pc' := 370) rfl rfl ?_
  refine x_iload_n (pc' := 371) rfl rfl rfl ?_
  refine x_bipush (pc' := 373) rfl rfl ?_
  refine x_icmp (a' := 389) (pc' := 376) (z := false) rfl rfl rfl (by decide) (fun h => by cases h) (fun _ => ?_)
  refine x_aload_n (pc' := 377) rfl rfl rfl rfl rfl ?_
  refine x_gR (pc' := 380) (r := (some 10)) rfl rfl rfl rfl ?_
  refine x_iload_n (pc' := 381) rfl rfl rfl ?_
  refine x_iconst (pc' := 382) rfl rfl ?_
  refine x_iast (pc' := 383) (N := 30) (p := 19) rfl rfl rfl rfl (io_in (p := 19) (N := 30) (by decide) (by decide)) (nn_io (p := 19) (by decide)) ?_
  refine x_iinc (pc' := 386) (y := 20) (ls' := [_, _]) rfl rfl rfl rfl rfl ?_
  refine x_goto (pc' := 370) rfl rfl ?_
  refine x_iload_n (pc' := 371) rfl rfl rfl ?_
  refine x_bipush (pc' := 373) rfl rfl ?_
  refine x_icmp (a' := 389) (pc' := 376) (z := false) rfl rfl rfl (by decide) (fun h => by cases h) (fun _ => ?_)
  refine x_aload_n (pc' := 377) rfl rfl rfl rfl rfl ?_
  refine x_gR (pc' := 380) (r := (some 10)) rfl rfl rfl rfl ?_
  refine x_iload_n (pc' := 381) rfl rfl rfl ?_
  refine x_iconst (pc' := 382) rfl rfl ?_
  refine x_iast (pc' := 383) (N := 30) (p := 20) rfl rfl rfl rfl (io_in (p := 20) (N := 30) (by decide) (by decide)) (nn_io (p := 20) (by decide)) ?_
  refine x_iinc (pc' := 386) (y := 21) (ls' := [_, _]) rfl rfl rfl rfl rfl ?_
  refine x_goto (pc' := 370) rfl rfl ?_
  refine x_iload_n (pc' := 371) rfl rfl rfl ?_
  refine x_bipush (pc' := 373) rfl rfl ?_
  refine x_icmp (a' := 389) (pc' := 376) (z := false) rfl rfl rfl (by decide) (fun h => by cases h) (fun _ => ?_)
  refine x_aload_n (pc' := 377) rfl rfl rfl rfl rfl ?_
  refine x_gR (pc' := 380) (r := (some 10)) rfl rfl rfl rfl ?_
  refine x_iload_n (pc' := 381) rfl rfl rfl ?_
  refine x_iconst (pc' := 382) rfl rfl ?_
  refine x_iast (pc' := 383) (N := 30) (p := 21) rfl rfl rfl rfl (io_in (p := 21) (N := 30) (by decide) (by decide)) (nn_io (p := 21) (by decide)) ?_
  refine x_iinc (pc' := 386) (y := 22) (ls' := [_, _]) rfl rfl rfl rfl rfl ?_
  refine x_goto (pc' := 370) rfl rfl ?_
  refine x_iload_n (pc' := 371) rfl rfl rfl ?_
  refine x_bipush (pc' := 373) rfl rfl ?_
  refine x_icmp (a' := 389) (pc' := 376) (z := false) rfl rfl rfl (by decide) (fun h => by cases h) (fun _ => ?_)
  refine x_aload_n (pc' := 377) rfl rfl rfl rfl rfl ?_
  refine x_gR (pc' := 380) (r := (some 10)) rfl rfl rfl rfl ?_
  refine x_iload_n (pc' := 381) rfl rfl rfl ?_
  refine x_iconst (pc' := 382) rfl rfl ?_
  refine x_iast (pc' := 383) (N := 30) (p := 22) rfl rfl rfl rfl (io_in (p := 22) (N := 30) (by decide) (by decide)) (nn_io (p := 22) (by decide)) ?_
  refine x_iinc (pc' := 386) (y := 23) (ls' := [_, _]) rfl rfl rfl rfl rfl ?_
  refine x_goto (pc' := 370) rfl rfl ?_
  refine x_iload_n (pc' := 371) rfl rfl rfl ?_
  refine x_bipush (pc' := 373) rfl rfl ?_
  refine x_icmp (a' := 389) (pc' := 376) (z := false) rfl rfl rfl (by decide) (fun h => by cases h) (fun _ => ?_)
  refine x_aload_n (pc' := 377) rfl rfl rfl rfl rfl ?_
  refine x_gR (pc' := 380) (r := (some 10)) rfl rfl rfl rfl ?_
  refine x_iload_n (pc' := 381) rfl rfl rfl ?_
  refine x_iconst (pc' := 382) rfl rfl ?_
  refine x_iast (pc' := 383) (N := 30) (p := 23) rfl rfl rfl rfl (io_in (p := 23) (N := 30) (by decide) (by decide)) (nn_io (p := 23) (by decide)) ?_
  refine x_iinc (pc' := 386) (y := 24) (ls' := [_, _]) rfl rfl rfl rfl rfl ?_
  refine x_goto (pc' := 370) rfl rfl ?_
  refine x_iload_n (pc' := 371) rfl rfl rfl ?_
  refine x_bipush (pc' := 373) rfl rfl ?_
  refine x_icmp (a' := 389) (pc' := 376) (z := false) rfl rfl rfl (by decide) (fun h => by cases h) (fun _ => ?_)
  refine x_aload_n (pc' := 377) rfl rfl rfl rfl rfl ?_
  refine x_gR (pc' := 380) (r := (some 10)) rfl rfl rfl rfl ?_
  refine x_iload_n (pc' := 381) rfl rfl rfl ?_
  refine x_iconst (pc' := 382) rfl rfl ?_
  refine x_iast (pc' := 383) (N := 30) (p := 24) rfl rfl rfl rfl (io_in (p := 24) (N := 30) (by decide) (by decide)) (nn_io (p := 24) (by decide)) ?_
  refine x_iinc (pc' := 386) (y := 25) (ls' := [_, _]) rfl rfl rfl rfl rfl ?_
  refine x_goto (pc' := 370) rfl rfl ?_
  refine x_iload_n (pc' := 371) rfl rfl rfl ?_
  refine x_bipush (pc' := 373) rfl rfl ?_
  refine x_icmp (a' := 389) (pc' := 376) (z := false) rfl rfl rfl (by decide) (fun h => by cases h) (fun _ => ?_)
  refine x_aload_n (pc' := 377) rfl rfl rfl rfl rfl ?_
  refine x_gR (pc' := 380) (r := (some 10)) rfl rfl rfl rfl ?_
  refine x_iload_n (pc' := 381) rfl rfl rfl ?_
  refine x_iconst (pc' := 382) rfl rfl ?_
  refine x_iast (pc' := 383) (N := 30) (p := 25) rfl rfl rfl rfl (io_in (p := 25) (N := 30) (by decide) (by decide)) (nn_io (p := 25) (by decide)) ?_
  refine x_iinc (pc' := 386) (y := 26) (ls' := [_, _]) rfl rfl rfl rfl rfl ?_
  refine x_goto (pc' := 370) rfl rfl ?_
  refine x_iload_n (pc' := 371) rfl rfl rfl ?_
  refine x_bipush (pc' := 373) rfl rfl ?_
  refine x_icmp (a' := 389) (pc' := 376) (z := false) rfl rfl rfl (by decide) (fun h => by cases h) (fun _ => ?_)
  refine x_aload_n (pc' := 377) rfl rfl rfl rfl rfl ?_
  refine x_gR (pc' := 380) (r := (some 10)) rfl rfl rfl rfl ?_
  refine x_iload_n (pc' := 381) rfl rfl rfl ?_
  refine x_iconst (pc' := 382) rfl rfl ?_
  refine x_iast (pc' := 383) (N := 30) (p := 26) rfl rfl rfl rfl (io_in (p := 26) (N := 30) (by decide) (by decide)) (nn_io (p := 26) (by decide)) ?_
  refine x_iinc (pc' := 386) (y := 27) (ls' := [_, _]) rfl rfl rfl rfl rfl ?_
  refine x_goto (pc' := 370) rfl rfl ?_
  refine x_iload_n (pc' := 371) rfl rfl rfl ?_
  refine x_bipush (pc' := 373) rfl rfl ?_
  refine x_icmp (a' := 389) (pc' := 376) (z := false) rfl rfl rfl (by decide) (fun h => by cases h) (fun _ => ?_)
  refine x_aload_n (pc' := 377) rfl rfl rfl rfl rfl ?_
  refine x_gR (pc' := 380) (r := (some 10)) rfl rfl rfl rfl ?_
  refine x_iload_n (pc' := 381) rfl rfl rfl ?_
  refine x_iconst (pc' := 382) rfl rfl ?_
  refine x_iast (pc' := 383) (N := 30) (p := 27) rfl rfl rfl rfl (io_in (p := 27) (N := 30) (by decide) (by decide)) (nn_io (p := 27) (by decide)) ?_
  refine x_iinc (pc' := 386) (y := 28) (ls' := [_, _]) rfl rfl rfl rfl rfl ?_
  refine x_goto (pc' := 370) rfl rfl ?_
  refine x_iload_n (pc' := 371) rfl rfl rfl ?_
  refine x_bipush (pc' := 373) rfl rfl ?_
  refine x_icmp (a' := 389) (pc' := 376) (z := false) rfl rfl rfl (by decide) (fun h => by cases h) (fun _ => ?_)
  refine x_aload_n (pc' := 377) rfl rfl rfl rfl rfl ?_
  refine x_gR (pc' := 380) (r := (some 10)) rfl rfl rfl rfl ?_
  refine x_iload_n (pc' := 381) rfl rfl rfl ?_
  refine x_iconst (pc' := 382) rfl rfl ?_
  refine x_iast (pc' := 383) (N := 30) (p := 28) rfl rfl rfl rfl (io_in (p := 28) (N := 30) (by decide) (by decide)) (nn_io (p := 28) (by decide)) ?_
  refine x_iinc (pc' := 386) (y := 29) (ls' := [_, _]) rfl rfl rfl rfl rfl ?_
  refine x_goto (pc' := 370) rfl rfl ?_
  refine x_iload_n (pc' := 371) rfl rfl rfl ?_
  refine x_bipush (pc' := 373) rfl rfl ?_
  refine x_icmp (a' := 389) (pc' := 376) (z := false) rfl rfl rfl (by decide) (fun h => by cases h) (fun _ => ?_)
  refine x_aload_n (pc' := 377) rfl rfl rfl rfl rfl ?_
  refine x_gR (pc' := 380) (r := (some 10)) rfl rfl rfl rfl ?_
  refine x_iload_n (pc' := 381) rfl rfl rfl ?_
  refine x_iconst (pc' := 382) rfl rfl ?_
  refine x_iast (pc' := 383) (N := 30) (p := 29) rfl rfl rfl rfl (io_in (p := 29) (N := 30) (by decide) (by decide)) (nn_io (p := 29) (by decide)) ?_
  refine x_iinc (pc' := 386) (y := 30) (ls' := [_, _]) rfl rfl rfl rfl rfl ?_
  refine x_goto (pc' := 370) rfl rfl ?_
  refine x_iload_n (pc' := 371) rfl rfl rfl ?_
  refine x_bipush (pc' := 373) rfl rfl ?_
  refine x_icmp (a' := 389) (pc' := 376) (z := true) rfl rfl rfl (by decide) (fun _ => ?_) (fun h => by cases h)
  refine x_ret rfl ?_
  exact k0
set_option maxRecDepth 10000 in
theorem law_0 {Q : sRs → sT → Prop} {L : Nat} {xs : Nat → Int32}
    (k0 : X 297 23 [.inr (.inr (29, (some 0))), .inr (.inr (11, (some 0))), .inr (.inr (12, (some 0))), .inr (.inr (23, (some 0))), .inl 0, sJk, sJk] [] (sNwA (T15 L xs) 23 1) Q) :
    X 297 0 [.inr (.inr (29, (some 0))), sJk, sJk, sJk, sJk, sJk, sJk] [] (sT0 L xs) Q := by
  refine x_new (pc' := 3) (i := 0) rfl rfl rfl ?_
  refine x_dup (pc' := 4) rfl rfl rfl ?_
  refine x_ci (ls0 := [_, sJk, sJk, sJk]) (rest := [_]) rfl rfl rfl rfl rfl ?_
  refine sub2_83 ?_
  refine sK_v (pc' := 7) rfl ?_
  refine x_astore_n (pc' := 8) (ls' := [_, _, _, _, _, _, _]) rfl rfl rfl rfl rfl ?_
  refine x_new (pc' := 11) (i := 0) rfl rfl rfl ?_
  refine x_dup (pc' := 12) rfl rfl rfl ?_
  refine x_ci (ls0 := [_, sJk]) (rest := [_]) rfl rfl rfl rfl rfl ?_
  refine sub14_142 ?_
  refine sK_v (pc' := 15) rfl ?_
  refine x_astore_n (pc' := 16) (ls' := [_, _, _, _, _, _, _]) rfl rfl rfl rfl rfl ?_
  refine x_iconst (pc' := 17) rfl rfl ?_
  refine x_newarray (pc' := 19) (N := 1) (i := 0) rfl rfl rfl rfl rfl ?_
  refine x_astore_n (pc' := 20) (ls' := [_, _, _, _, _, _, _]) rfl rfl rfl rfl rfl ?_
  refine x_iconst (pc' := 21) rfl rfl ?_
  refine x_istore (pc' := 23) (ls' := [_, _, _, _, _, _, _]) rfl rfl rfl rfl ?_
  exact k0
