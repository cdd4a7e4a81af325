/-! the constructors, run (printed by dcp.py) -/
def T1 (L : Nat) (xs : Nat → Int32) : sT := (sNew (sT0 L xs) 11 6)
def T3 (L : Nat) (xs : Nat → Int32) : sT := (sNew (T1 L xs) 5 6)
def T5 (L : Nat) (xs : Nat → Int32) : sT := (sEw (sIw (sRw (sNwA (sNew (sEw (sIw (sRw (sNwA (sNew (sEw (sIw (sRw (sNwA (sNew (sEw (sIw (sRw (sNwA (sNew (sEw (sIw (sRw (sNwA (sNew (sEw (sIw (sRw (sNwA (sNew (sEw (sIw (sIw (sIw (sIw (sNew (sEw (sIw (sIw (sIw (sIw (sNew (sEw (sIw (sIw (sIw (sIw (sNew (sRw (sNwA (sRw (sRw (sIw (sNew (sRw (sNwA (sRw (sNwA (T3 L xs) 25 3) 320 0 (some 0)) 26 6) 321 0 (some 0)) 13 3) 832 0 0) 833 0 (some 0)) 322 0 (some 0)) 20 18) 323 0 (some 0)) 2 4) 129 0 100) 130 0 100) 131 0 999) 128 0 0) 25 0 0 (2, (some 0))) 2 4) 129 1 100) 130 1 100) 131 1 999) 128 1 1) 25 0 1 (2, (some 1))) 2 4) 129 2 100) 130 2 100) 131 2 999) 128 2 2) 25 0 2 (2, (some 2))) 7 11) 20 3) 449 0 (some 1)) 448 0 0) 26 0 0 (7, (some 0))) 7 11) 20 3) 449 1 (some 2)) 448 1 1) 26 0 1 (7, (some 1))) 7 11) 20 3) 449 2 (some 3)) 448 2 2) 26 0 2 (7, (some 2))) 7 11) 20 3) 449 3 (some 4)) 448 3 3) 26 0 3 (7, (some 3))) 7 11) 20 3) 449 4 (some 5)) 448 4 4) 26 0 4 (7, (some 4))) 7 11) 20 3) 449 5 (some 6)) 448 5 5) 26 0 5 (7, (some 5)))
set_option maxRecDepth 10000 in
theorem sub4_42 {Q : sRs → sT → Prop} {L : Nat} {xs : Nat → Int32}
    (k0 : Q (.inl none) (T5 L xs)) :
    X 42 0 [.inr (.inr (5, (some 0))), sJk] [] (T3 L xs) Q := by
  refine x_aload_n (pc' := 1) rfl rfl rfl rfl rfl ?_
  refine x_obj (pc' := 4) rfl rfl rfl rfl ?_
  refine x_aload_n (pc' := 5) rfl rfl rfl rfl rfl ?_
  refine x_iconst (pc' := 6) rfl rfl ?_
  refine x_anewarray (pc' := 9) (N := 3) (i := 0) rfl rfl rfl rfl rfl ?_
  refine x_pR (pc' := 12) rfl rfl rfl ?_
  refine x_aload_n (pc' := 13) rfl rfl rfl rfl rfl ?_
  refine x_bipush (pc' := 15) rfl rfl ?_
  refine x_anewarray (pc' := 18) (N := 6) (i := 0) rfl rfl rfl rfl rfl ?_
  refine x_pR (pc' := 21) rfl rfl rfl ?_
  refine x_aload_n (pc' := 22) rfl rfl rfl rfl rfl ?_
  refine x_new (pc' := 25) (i := 0) rfl rfl rfl ?_
  refine x_dup (pc' := 26) rfl rfl rfl ?_
  refine x_ci (ls0 := [_]) (rest := [_, _]) rfl rfl rfl rfl rfl ?_
  refine x_aload_n (pc' := 1) rfl rfl rfl rfl rfl ?_
  refine x_ci (ls0 := [_]) (rest := []) rfl rfl rfl rfl rfl ?_
  refine x_aload_n (pc' := 1) rfl rfl rfl rfl rfl ?_
  refine x_ci (ls0 := [_]) (rest := []) rfl rfl rfl rfl rfl ?_
  refine x_aload_n (pc' := 1) rfl rfl rfl rfl rfl ?_
  refine x_obj (pc' := 4) rfl rfl rfl rfl ?_
  refine x_ret rfl ?_
  refine sK_v (pc' := 4) rfl ?_
  refine x_aload_n (pc' := 5) rfl rfl rfl rfl rfl ?_
  refine x_iconst (pc' := 6) rfl rfl ?_
  refine x_pI (pc' := 9) rfl rfl rfl ?_
  refine x_ret rfl ?_
  refine sK_v (pc' := 4) rfl ?_
  refine x_aload_n (pc' := 5) rfl rfl rfl rfl rfl ?_
  refine x_getstatic (pc' := 8) rfl rfl (Nat.le_of_ble_eq_true rfl) ?_
  refine x_pR (pc' := 11) rfl rfl rfl ?_
  refine x_ret rfl ?_
  refine sK_v (pc' := 29) rfl ?_
  refine x_pR (pc' := 32) rfl rfl rfl ?_
  refine x_aload_n (pc' := 33) rfl rfl rfl rfl rfl ?_
  refine x_bipush (pc' := 35) rfl rfl ?_
  refine x_newarray (pc' := 37) (N := 18) (i := 0) rfl rfl rfl rfl rfl ?_
  refine x_pR (pc' := 40) rfl rfl rfl ?_
  refine x_iconst (pc' := 41) rfl rfl ?_
  refine x_istore_n (pc' := 42) (ls' := [_, _]) rfl rfl rfl rfl ?_
  refine x_iload_n (pc' := 43) rfl rfl rfl ?_
  refine x_iconst (pc' := 44) rfl rfl ?_
  refine x_icmp (a' := 67) (pc' := 47) (z := false) rfl rfl rfl (by decide) (fun h => by cases h) (fun _ => ?_)
  refine x_aload_n (pc' := 48) rfl rfl rfl rfl rfl ?_
  refine x_gR (pc' := 51) (r := (some 0)) rfl rfl rfl rfl ?_
  refine x_iload_n (pc' := 52) rfl rfl rfl ?_
  refine x_new (pc' := 55) (i := 0) rfl rfl rfl ?_
  refine x_dup (pc' := 56) rfl rfl rfl ?_
  refine x_iload_n (pc' := 57) rfl rfl rfl ?_
  refine x_ci (ls0 := [_, _]) (rest := [_, _, _]) rfl rfl rfl rfl rfl ?_
  refine x_aload_n (pc' := 1) rfl rfl rfl rfl rfl ?_
  refine x_obj (pc' := 4) rfl rfl rfl rfl ?_
  refine x_aload_n (pc' := 5) rfl rfl rfl rfl rfl ?_
  refine x_bipush (pc' := 7) rfl rfl ?_
  refine x_pI (pc' := 10) rfl rfl rfl ?_
  refine x_aload_n (pc' := 11) rfl rfl rfl rfl rfl ?_
  refine x_bipush (pc' := 13) rfl rfl ?_
  refine x_pI (pc' := 16) rfl rfl rfl ?_
  refine x_aload_n (pc' := 17) rfl rfl rfl rfl rfl ?_
  refine x_sipush (pc' := 20) rfl rfl ?_
  refine x_pI (pc' := 23) rfl rfl rfl ?_
  refine x_aload_n (pc' := 24) rfl rfl rfl rfl rfl ?_
  refine x_iload_n (pc' := 25) rfl rfl rfl ?_
  refine x_pI (pc' := 28) rfl rfl rfl ?_
  refine x_ret rfl ?_
  refine sK_v (pc' := 60) rfl ?_
  refine x_aast (pc' := 61) (N := 3) (p := 0) rfl rfl rfl rfl (io_in (p := 0) (N := 3) (by decide) (by decide)) (nn_io (p := 0) (by decide)) ?_
  refine x_iinc (pc' := 64) (y := 1) (ls' := [_, _]) rfl rfl rfl rfl rfl ?_
  refine x_goto (pc' := 42) rfl rfl ?_
  refine x_iload_n (pc' := 43) rfl rfl rfl ?_
  refine x_iconst (pc' := 44) rfl rfl ?_
  refine x_icmp (a' := 67) (pc' := 47) (z := false) rfl rfl rfl (by decide) (fun h => by cases h) (fun _ => ?_)
  refine x_aload_n (pc' := 48) rfl rfl rfl rfl rfl ?_
  refine x_gR (pc' := 51) (r := (some 0)) rfl rfl rfl rfl ?_
  refine x_iload_n (pc' := 52) rfl rfl rfl ?_
  refine x_new (pc' := 55) (i := 1) rfl rfl rfl ?_
  refine x_dup (pc' := 56) rfl rfl rfl ?_
  refine x_iload_n (pc' := 57) rfl rfl rfl ?_
  refine x_ci (ls0 := [_, _]) (rest := [_, _, _]) rfl rfl rfl rfl rfl ?_
  refine x_aload_n (pc' := 1) rfl rfl rfl rfl rfl ?_
  refine x_obj (pc' := 4) rfl rfl rfl rfl ?_
  refine x_aload_n (pc' := 5) rfl rfl rfl rfl rfl ?_
  refine x_bipush (pc' := 7) rfl rfl ?_
  refine x_pI (pc' := 10) rfl rfl rfl ?_
  refine x_aload_n (pc' := 11) rfl rfl rfl rfl rfl ?_
  refine x_bipush (pc' := 13) rfl rfl ?_
  refine x_pI (pc' := 16) rfl rfl rfl ?_
  refine x_aload_n (pc' := 17) rfl rfl rfl rfl rfl ?_
  refine x_sipush (pc' := 20) rfl rfl ?_
  refine x_pI (pc' := 23) rfl rfl rfl ?_
  refine x_aload_n (pc' := 24) rfl rfl rfl rfl rfl ?_
  refine x_iload_n (pc' := 25) rfl rfl rfl ?_
  refine x_pI (pc' := 28) rfl rfl rfl ?_
  refine x_ret rfl ?_
  refine sK_v (pc' := 60) rfl ?_
  refine x_aast (pc' := 61) (N := 3) (p := 1) rfl rfl rfl rfl (io_in (p := 1) (N := 3) (by decide) (by decide)) (nn_io (p := 1) (by decide)) ?_
  refine x_iinc (pc' := 64) (y := 2) (ls' := [_, _]) rfl rfl rfl rfl rfl ?_
  refine x_goto (pc' := 42) rfl rfl ?_
  refine x_iload_n (pc' := 43) rfl rfl rfl ?_
  refine x_iconst (pc' := 44) rfl rfl ?_
  refine x_icmp (a' := 67) (pc' := 47) (z := false) rfl rfl rfl (by decide) (fun h => by cases h) (fun _ => ?_)
  refine x_aload_n (pc' := 48) rfl rfl rfl rfl rfl ?_
  refine x_gR (pc' := 51) (r := (some 0)) rfl rfl rfl rfl ?_
  refine x_iload_n (pc' := 52) rfl rfl rfl ?_
  refine x_new (pc' := 55) (i := 2) rfl rfl rfl ?_
  refine x_dup (pc' := 56) rfl rfl rfl ?_
  refine x_iload_n (pc' := 57) rfl rfl rfl ?_
  refine x_ci (ls0 := [_, _]) (rest := [_, _, _]) rfl rfl rfl rfl rfl ?_
  refine x_aload_n (pc' := 1) rfl rfl rfl rfl rfl ?_
  refine x_obj (pc' := 4) rfl rfl rfl rfl ?_
  refine x_aload_n (pc' := 5) rfl rfl rfl rfl rfl ?_
  refine x_bipush (pc' := 7) rfl rfl ?_
  refine x_pI (pc' := 10) rfl rfl rfl ?_
  refine x_aload_n (pc' := 11) rfl rfl rfl rfl rfl ?_
  refine x_bipush (pc' := 13) rfl rfl ?_
  refine x_pI (pc' := 16) rfl rfl rfl ?_
  refine x_aload_n (pc' := 17) rfl rfl rfl rfl rfl ?_
  refine x_sipush (pc' := 20) rfl rfl ?_
  refine x_pI (pc' := 23) rfl rfl rfl ?_
  refine x_aload_n (pc' := 24) rfl rfl rfl rfl rfl ?_
  refine x_iload_n (pc' := 25) rfl rfl rfl ?_
  refine x_pI (pc' := 28) rfl rfl rfl ?_
  refine x_ret rfl ?_
  refine sK_v (pc' := 60) rfl ?_
  refine x_aast (pc' := 61) (N := 3) (p := 2) rfl rfl rfl rfl (io_in (p := 2) (N := 3) (by decide) (by decide)) (nn_io (p := 2) (by decide)) ?_
  refine x_iinc (pc' := 64) (y := 3) (ls' := [_, _]) rfl rfl rfl rfl rfl ?_
  refine x_goto (pc' := 42) rfl rfl ?_
  refine x_iload_n (pc' := 43) rfl rfl rfl ?_
  refine x_iconst (pc' := 44) rfl rfl ?_
  refine x_icmp (a' := 67) (pc' := 47) (z := true) rfl rfl rfl (by decide) (fun _ => ?_) (fun h => by cases h)
  refine x_iconst (pc' := 68) rfl rfl ?_
  refine x_istore_n (pc' := 69) (ls' := [_, _]) rfl rfl rfl rfl ?_
  refine x_iload_n (pc' := 70) rfl rfl rfl ?_
  refine x_bipush (pc' := 72) rfl rfl ?_
  refine x_icmp (a' := 95) (pc' := 75) (z := false) rfl rfl rfl (by decide) (fun h => by cases h) (fun _ => ?_)
  refine x_aload_n (pc' := 76) rfl rfl rfl rfl rfl ?_
  refine x_gR (pc' := 79) (r := (some 0)) rfl rfl rfl rfl ?_
  refine x_iload_n (pc' := 80) rfl rfl rfl ?_
  refine x_new (pc' := 83) (i := 0) rfl rfl rfl ?_
  refine x_dup (pc' := 84) rfl rfl rfl ?_
  refine x_iload_n (pc' := 85) rfl rfl rfl ?_
  refine x_ci (ls0 := [_, _]) (rest := [_, _, _]) rfl rfl rfl rfl rfl ?_
  refine x_aload_n (pc' := 1) rfl rfl rfl rfl rfl ?_
  refine x_obj (pc' := 4) rfl rfl rfl rfl ?_
  refine x_aload_n (pc' := 5) rfl rfl rfl rfl rfl ?_
  refine x_iconst (pc' := 6) rfl rfl ?_
  refine x_newarray (pc' := 8) (N := 3) (i := 1) rfl rfl rfl rfl rfl ?_
  refine x_pR (pc' := 11) rfl rfl rfl ?_
  refine x_aload_n (pc' := 12) rfl rfl rfl rfl rfl ?_
  refine x_iload_n (pc' := 13) rfl rfl rfl ?_
  refine x_pI (pc' := 16) rfl rfl rfl ?_
  refine x_ret rfl ?_
  refine sK_v (pc' := 88) rfl ?_
  refine x_aast (pc' := 89) (N := 6) (p := 0) rfl rfl rfl rfl (io_in (p := 0) (N := 6) (by decide) (by decide)) (nn_io (p := 0) (by decide)) ?_
  refine x_iinc (pc' := 92) (y := 1) (ls' := [_, _]) rfl rfl rfl rfl rfl ?_
  refine x_goto (pc' := 69) rfl rfl ?_
  refine x_iload_n (pc' := 70) rfl rfl rfl ?_
  refine x_bipush (pc' := 72) rfl rfl ?_
  refine x_icmp (a' := 95) (pc' := 75) (z := false) rfl rfl rfl (by decide) (fun h => by cases h) (fun _ => ?_)
  refine x_aload_n (pc' := 76) rfl rfl rfl rfl rfl ?_
  refine x_gR (pc' := 79) (r := (some 0)) rfl rfl rfl rfl ?_
  refine x_iload_n (pc' := 80) rfl rfl rfl ?_
  refine x_new (pc' := 83) (i := 1) rfl rfl rfl ?_
  refine x_dup (pc' := 84) rfl rfl rfl ?_
  refine x_iload_n (pc' := 85) rfl rfl rfl ?_
  refine x_ci (ls0 := [_, _]) (rest := [_, _, _]) rfl rfl rfl rfl rfl ?_
  refine x_aload_n (pc' := 1) rfl rfl rfl rfl rfl ?_
  refine x_obj (pc' := 4) rfl rfl rfl rfl ?_
  refine x_aload_n (pc' := 5) rfl rfl rfl rfl rfl ?_
  refine x_iconst (pc' := 6) rfl rfl ?_
  refine x_newarray (pc' := 8) (N := 3) (i := 2) rfl rfl rfl rfl rfl ?_
  refine x_pR (pc' := 11) rfl rfl rfl ?_
  refine x_aload_n (pc' := 12) rfl rfl rfl rfl rfl ?_
  refine x_iload_n (pc' := 13) rfl rfl rfl ?_
  refine x_pI (pc' := 16) rfl rfl rfl ?_
  refine x_ret rfl ?_
  refine sK_v (pc' := 88) rfl ?_
  refine x_aast (pc' := 89) (N := 6) (p := 1) rfl rfl rfl rfl (io_in (p := 1) (N := 6) (by decide) (by decide)) (nn_io (p := 1) (by decide)) ?_
  refine x_iinc (pc' := 92) (y := 2) (ls' := [_, _]) rfl rfl rfl rfl rfl ?_
  refine x_goto (pc' := 69) rfl rfl ?_
  refine x_iload_n (pc' := 70) rfl rfl rfl ?_
  refine x_bipush (pc' := 72) rfl rfl ?_
  refine x_icmp (a' := 95) (pc' := 75) (z := false) rfl rfl rfl (by decide) (fun h => by cases h) (fun _ => ?_)
  refine x_aload_n (pc' := 76) rfl rfl rfl rfl rfl ?_
  refine x_gR (pc' := 79) (r := (some 0)) rfl rfl rfl rfl ?_
  refine x_iload_n (pc' := 80) rfl rfl rfl ?_
  refine x_new (pc' := 83) (i := 2) rfl rfl rfl ?_
  refine x_dup (pc' := 84) rfl rfl rfl ?_
  refine x_iload_n (pc' := 85) rfl rfl rfl ?_
  refine x_ci (ls0 := [_, _]) (rest := [_, _, _]) rfl rfl rfl rfl rfl ?_
  refine x_aload_n (pc' := 1) rfl rfl rfl rfl rfl ?_
  refine x_obj (pc' := 4) rfl rfl rfl rfl ?_
  refine x_aload_n (pc' := 5) rfl rfl rfl rfl rfl ?_
  refine x_iconst (pc' := 6) rfl rfl ?_
  refine x_newarray (pc' := 8) (N := 3) (i := 3) rfl rfl rfl rfl rfl ?_
  refine x_pR (pc' := 11) rfl rfl rfl ?_
  refine x_aload_n (pc' := 12) rfl rfl rfl rfl rfl ?_
  refine x_iload_n (pc' := 13) rfl rfl rfl ?_
  refine x_pI (pc' := 16) rfl rfl rfl ?_
  refine x_ret rfl ?_
  refine sK_v (pc' := 88) rfl ?_
  refine x_aast (pc' := 89) (N := 6) (p := 2) rfl rfl rfl rfl (io_in (p := 2) (N := 6) (by decide) (by decide)) (nn_io (p := 2) (by decide)) ?_
  refine x_iinc (pc' := 92) (y := 3) (ls' := [_, _]) rfl rfl rfl rfl rfl ?_
  refine x_goto (pc' := 69) rfl rfl ?_
  refine x_iload_n (pc' := 70) rfl rfl rfl ?_
  refine x_bipush (pc' := 72) rfl rfl ?_
  refine x_icmp (a' := 95) (pc' := 75) (z := false) rfl rfl rfl (by decide) (fun h => by cases h) (fun _ => ?_)
  refine x_aload_n (pc' := 76) rfl rfl rfl rfl rfl ?_
  refine x_gR (pc' := 79) (r := (some 0)) rfl rfl rfl rfl ?_
  refine x_iload_n (pc' := 80) rfl rfl rfl ?_
  refine x_new (pc' := 83) (i := 3) rfl rfl rfl ?_
  refine x_dup (pc' := 84) rfl rfl rfl ?_
  refine x_iload_n (pc' := 85) rfl rfl rfl ?_
  refine x_ci (ls0 := [_, _]) (rest := [_, _, _]) rfl rfl rfl rfl rfl ?_
  refine x_aload_n (pc' := 1) rfl rfl rfl rfl rfl ?_
  refine x_obj (pc' := 4) rfl rfl rfl rfl ?_
  refine x_aload_n (pc' := 5) rfl rfl rfl rfl rfl ?_
  refine x_iconst (pc' := 6) rfl rfl ?_
  refine x_newarray (pc' := 8) (N := 3) (i := 4) rfl rfl rfl rfl rfl ?_
  refine x_pR (pc' := 11) rfl rfl rfl ?_
  refine x_aload_n (pc' := 12) rfl rfl rfl rfl rfl ?_
  refine x_iload_n (pc' := 13) rfl rfl rfl ?_
  refine x_pI (pc' := 16) rfl rfl rfl ?_
  refine x_ret rfl ?_
  refine sK_v (pc' := 88) rfl ?_
  refine x_aast (pc' := 89) (N := 6) (p := 3) rfl rfl rfl rfl (io_in (p := 3) (N := 6) (by decide) (by decide)) (nn_io (p := 3) (by decide)) ?_
  refine x_iinc (pc' := 92) (y := 4) (ls' := [_, _]) rfl rfl rfl rfl rfl ?_
  refine x_goto (pc' := 69) rfl rfl ?_
  refine x_iload_n (pc' := 70) rfl rfl rfl ?_
  refine x_bipush (pc' := 72) rfl rfl ?_
  refine x_icmp (a' := 95) (pc' := 75) (z := false) rfl rfl rfl (by decide) (fun h => by cases h) (fun _ => ?_)
  refine x_aload_n (pc' := 76) rfl rfl rfl rfl rfl ?_
  refine x_gR (pc' := 79) (r := (some 0)) rfl rfl rfl rfl ?_
  refine x_iload_n (pc' := 80) rfl rfl rfl ?_
  refine x_new (pc' := 83) (i := 4) rfl rfl rfl ?_
  refine x_dup (pc' := 84) rfl rfl rfl ?_
  refine x_iload_n (pc' := 85) rfl rfl rfl ?_
  refine x_ci (ls0 := [_, _]) (rest := [_, _, _]) rfl rfl rfl rfl rfl ?_
  refine x_aload_n (pc' := 1) rfl rfl rfl rfl rfl ?_
  refine x_obj (pc' := 4) rfl rfl rfl rfl ?_
  refine x_aload_n (pc' := 5) rfl rfl rfl rfl rfl ?_
  refine x_iconst (pc' := 6) rfl rfl ?_
  refine x_newarray (pc' := 8) (N := 3) (i := 5) rfl rfl rfl rfl rfl ?_
  refine x_pR (pc' := 11) rfl rfl rfl ?_
  refine x_aload_n (pc' := 12) rfl rfl rfl rfl rfl ?_
  refine x_iload_n (pc' := 13) rfl rfl rfl ?_
  refine x_pI (pc' := 16) rfl rfl rfl ?_
  refine x_ret rfl ?_
  refine sK_v (pc' := 88) rfl ?_
  refine x_aast (pc' := 89) (N := 6) (p := 4) rfl rfl rfl rfl (io_in (p := 4) (N := 6) (by decide) (by decide)) (nn_io (p := 4) (by decide)) ?_
  refine x_iinc (pc' := 92) (y := 5) (ls' := [_, _]) rfl rfl rfl rfl rfl ?_
  refine x_goto (pc' := 69) rfl rfl ?_
  refine x_iload_n (pc' := 70) rfl rfl rfl ?_
  refine x_bipush (pc' := 72) rfl rfl ?_
  refine x_icmp (a' := 95) (pc' := 75) (z := false) rfl rfl rfl (by decide) (fun h => by cases h) (fun _ => ?_)
  refine x_aload_n (pc' := 76) rfl rfl rfl rfl rfl ?_
  refine x_gR (pc' := 79) (r := (some 0)) rfl rfl rfl rfl ?_
  refine x_iload_n (pc' := 80) rfl rfl rfl ?_
  refine x_new (pc' := 83) (i := 5) rfl rfl rfl ?_
  refine x_dup (pc' := 84) rfl rfl rfl ?_
  refine x_iload_n (pc' := 85) rfl rfl rfl ?_
  refine x_ci (ls0 := [_, _]) (rest := [_, _, _]) rfl rfl rfl rfl rfl ?_
  refine x_aload_n (pc' := 1) rfl rfl rfl rfl rfl ?_
  refine x_obj (pc' := 4) rfl rfl rfl rfl ?_
  refine x_aload_n (pc' := 5) rfl rfl rfl rfl rfl ?_
  refine x_iconst (pc' := 6) rfl rfl ?_
  refine x_newarray (pc' := 8) (N := 3) (i := 6) rfl rfl rfl rfl rfl ?_
  refine x_pR (pc' := 11) rfl rfl rfl ?_
  refine x_aload_n (pc' := 12) rfl rfl rfl rfl rfl ?_
  refine x_iload_n (pc' := 13) rfl rfl rfl ?_
  refine x_pI (pc' := 16) rfl rfl rfl ?_
  refine x_ret rfl ?_
  refine sK_v (pc' := 88) rfl ?_
  refine x_aast (pc' := 89) (N := 6) (p := 5) rfl rfl rfl rfl (io_in (p := 5) (N := 6) (by decide) (by decide)) (nn_io (p := 5) (by decide)) ?_
  refine x_iinc (pc' := 92) (y := 6) (ls' := [_, _]) rfl rfl rfl rfl rfl ?_
  refine x_goto (pc' := 69) rfl rfl ?_
  refine x_iload_n (pc' := 70) rfl rfl rfl ?_
  refine x_bipush (pc' := 72) rfl rfl ?_
  refine x_icmp (a' := 95) (pc' := 75) (z := true) rfl rfl rfl (by decide) (fun _ => ?_) (fun h => by cases h)
  refine x_ret rfl ?_
  exact k0
def T6 (L : Nat) (xs : Nat → Int32) : sT := (sNew (T5 L xs) 4 3)
def T8 (L : Nat) (xs : Nat → Int32) : sT := (sEw (sRw (sRw (sIw (sIw (sNew (sEw (sRw (sRw (sIw (sIw (sNew (sEw (sRw (sRw (sIw (sIw (sNew (sEw (sRw (sRw (sIw (sIw (sNew (sEw (sRw (sRw (sIw (sIw (sNew (sRw (sRw (sIw (sNew (sRw (sNwA (T6 L xs) 24 5) 256 0 (some 0)) 13 3) 832 1 0) 833 1 (some 0)) 257 0 (some 1)) 1 7) 67 0 0) 64 0 0) 65 0 (some 0)) 66 0 none) 24 0 0 (1, (some 0))) 1 7) 67 1 0) 64 1 1) 65 1 (some 1)) 66 1 none) 24 0 1 (1, (some 1))) 1 7) 67 2 0) 64 2 2) 65 2 (some 2)) 66 2 none) 24 0 2 (1, (some 2))) 1 7) 67 3 0) 64 3 3) 65 3 (some 0)) 66 3 (some 1)) 24 0 3 (1, (some 3))) 1 7) 67 4 0) 64 4 4) 65 4 (some 1)) 66 4 (some 2)) 24 0 4 (1, (some 4)))
set_option maxRecDepth 10000 in
theorem sub7_26 {Q : sRs → sT → Prop} {L : Nat} {xs : Nat → Int32}
    (k0 : Q (.inl none) (T8 L xs)) :
    X 26 0 [.inr (.inr (4, (some 0))), .inr (.inr (25, (some 0))), sJk, sJk, sJk] [] (T6 L xs) Q := by
  refine x_aload_n (pc' := 1) rfl rfl rfl rfl rfl ?_
  refine x_obj (pc' := 4) rfl rfl rfl rfl ?_
  refine x_aload_n (pc' := 5) rfl rfl rfl rfl rfl ?_
  refine x_iconst (pc' := 6) rfl rfl ?_
  refine x_anewarray (pc' := 9) (N := 5) (i := 0) rfl rfl rfl rfl rfl ?_
  refine x_pR (pc' := 12) rfl rfl rfl ?_
  refine x_aload_n (pc' := 13) rfl rfl rfl rfl rfl ?_
  refine x_new (pc' := 16) (i := 1) rfl rfl rfl ?_
  refine x_dup (pc' := 17) rfl rfl rfl ?_
  refine x_ci (ls0 := [_]) (rest := [_, _]) rfl rfl rfl rfl rfl ?_
  refine x_aload_n (pc' := 1) rfl rfl rfl rfl rfl ?_
  refine x_ci (ls0 := [_]) (rest := []) rfl rfl rfl rfl rfl ?_
  refine x_aload_n (pc' := 1) rfl rfl rfl rfl rfl ?_
  refine x_ci (ls0 := [_]) (rest := []) rfl rfl rfl rfl rfl ?_
  refine x_aload_n (pc' := 1) rfl rfl rfl rfl rfl ?_
  refine x_obj (pc' := 4) rfl rfl rfl rfl ?_
  refine x_ret rfl ?_
  refine sK_v (pc' := 4) rfl ?_
  refine x_aload_n (pc' := 5) rfl rfl rfl rfl rfl ?_
  refine x_iconst (pc' := 6) rfl rfl ?_
  refine x_pI (pc' := 9) rfl rfl rfl ?_
  refine x_ret rfl ?_
  refine sK_v (pc' := 4) rfl ?_
  refine x_aload_n (pc' := 5) rfl rfl rfl rfl rfl ?_
  refine x_getstatic (pc' := 8) rfl rfl (Nat.le_of_ble_eq_true rfl) ?_
  refine x_pR (pc' := 11) rfl rfl rfl ?_
  refine x_ret rfl ?_
  refine sK_v (pc' := 20) rfl ?_
  refine x_pR (pc' := 23) rfl rfl rfl ?_
  refine x_iconst (pc' := 24) rfl rfl ?_
  refine x_istore_n (pc' := 25) (ls' := [_, _, _, _, _]) rfl rfl rfl rfl ?_
  refine x_iload_n (pc' := 26) rfl rfl rfl ?_
  refine x_iconst (pc' := 27) rfl rfl ?_
  refine x_icmp (a' := 92) (pc' := 30) (z := false) rfl rfl rfl (by decide) (fun h => by cases h) (fun _ => ?_)
  refine x_iload_n (pc' := 31) rfl rfl rfl ?_
  refine x_iconst (pc' := 32) rfl rfl ?_
  refine x_icmp (a' := 39) (pc' := 35) (z := true) rfl rfl rfl (by decide) (fun _ => ?_) (fun h => by cases h)
  refine x_iconst (pc' := 40) rfl rfl ?_
  refine x_istore_n (pc' := 41) (ls' := [_, _, _, _, _]) rfl rfl rfl rfl ?_
  refine x_iload_n (pc' := 42) rfl rfl rfl ?_
  refine x_if (a' := 51) (pc' := 45) (z := true) rfl rfl rfl (by decide) (fun _ => ?_) (fun h => by cases h)
  refine x_iload_n (pc' := 52) rfl rfl rfl ?_
  refine x_istore (pc' := 54) (ls' := [_, _, _, _, _]) rfl rfl rfl rfl ?_
  refine x_aload_n (pc' := 55) rfl rfl rfl rfl rfl ?_
  refine x_gR (pc' := 58) (r := (some 0)) rfl rfl rfl rfl ?_
  refine x_iload_n (pc' := 59) rfl rfl rfl ?_
  refine x_new (pc' := 62) (i := 0) rfl rfl rfl ?_
  refine x_dup (pc' := 63) rfl rfl rfl ?_
  refine x_iload_n (pc' := 64) rfl rfl rfl ?_
  refine x_aload_n (pc' := 65) rfl rfl rfl rfl rfl ?_
  refine x_iload (pc' := 67) rfl rfl rfl ?_
  refine x_aald (pc' := 68) (N := 3) (k' := 2) (r := (some 0)) rfl rfl rfl rfl (io_in (p := 0) (N := 3) (by decide) (by decide)) (Eq.trans (congrArg (sE (sNew (sRw (sRw (sIw (sNew (sRw (sNwA (T6 L xs) 24 5) 256 0 (some 0)) 13 3) 832 1 0) 833 1 (some 0)) 257 0 (some 1)) 1 7) 25 0) (nn_io (p := 0) (by decide))) rfl) ?_
  refine x_iload_n (pc' := 69) rfl rfl rfl ?_
  refine x_if (a' := 81) (pc' := 72) (z := true) rfl rfl rfl (by decide) (fun _ => ?_) (fun h => by cases h)
  refine x_null (pc' := 82) rfl rfl rfl ?_
  refine x_ci (ls0 := [_, _, _, _]) (rest := [_, _, _]) rfl rfl rfl rfl rfl ?_
  refine x_aload_n (pc' := 1) rfl rfl rfl rfl rfl ?_
  refine x_obj (pc' := 4) rfl rfl rfl rfl ?_
  refine x_aload_n (pc' := 5) rfl rfl rfl rfl rfl ?_
  refine x_iconst (pc' := 6) rfl rfl ?_
  refine x_pI (pc' := 9) rfl rfl rfl ?_
  refine x_aload_n (pc' := 10) rfl rfl rfl rfl rfl ?_
  refine x_iload_n (pc' := 11) rfl rfl rfl ?_
  refine x_pI (pc' := 14) rfl rfl rfl ?_
  refine x_aload_n (pc' := 15) rfl rfl rfl rfl rfl ?_
  refine x_aload_n (pc' := 16) rfl rfl rfl rfl rfl ?_
  refine x_pR (pc' := 19) rfl rfl rfl ?_
  refine x_aload_n (pc' := 20) rfl rfl rfl rfl rfl ?_
  refine x_aload_n (pc' := 21) rfl rfl rfl rfl rfl ?_
  refine x_pR (pc' := 24) rfl rfl rfl ?_
  refine x_ret rfl ?_
  refine sK_v (pc' := 85) rfl ?_
  refine x_aast (pc' := 86) (N := 5) (p := 0) rfl rfl rfl rfl (io_in (p := 0) (N := 5) (by decide) (by decide)) (nn_io (p := 0) (by decide)) ?_
  refine x_iinc (pc' := 89) (y := 1) (ls' := [_, _, _, _, _]) rfl rfl rfl rfl rfl ?_
  refine x_goto (pc' := 25) rfl rfl ?_
  refine x_iload_n (pc' := 26) rfl rfl rfl ?_
  refine x_iconst (pc' := 27) rfl rfl ?_
  refine x_icmp (a' := 92) (pc' := 30) (z := false) rfl rfl rfl (by decide) (fun h => by cases h) (fun _ => ?_)
  refine x_iload_n (pc' := 31) rfl rfl rfl ?_
  refine x_iconst (pc' := 32) rfl rfl ?_
  refine x_icmp (a' := 39) (pc' := 35) (z := true) rfl rfl rfl (by decide) (fun _ => ?_) (fun h => by cases h)
  refine x_iconst (pc' := 40) rfl rfl ?_
  refine x_istore_n (pc' := 41) (ls' := [_, _, _, _, _]) rfl rfl rfl rfl ?_
  refine x_iload_n (pc' := 42) rfl rfl rfl ?_
  refine x_if (a' := 51) (pc' := 45) (z := true) rfl rfl rfl (by decide) (fun _ => ?_) (fun h => by cases h)
  refine x_iload_n (pc' := 52) rfl rfl rfl ?_
  refine x_istore (pc' := 54) (ls' := [_, _, _, _, _]) rfl rfl rfl rfl ?_
  refine x_aload_n (pc' := 55) rfl rfl rfl rfl rfl ?_
  refine x_gR (pc' := 58) (r := (some 0)) rfl rfl rfl rfl ?_
  refine x_iload_n (pc' := 59) rfl rfl rfl ?_
  refine x_new (pc' := 62) (i := 1) rfl rfl rfl ?_
  refine x_dup (pc' := 63) rfl rfl rfl ?_
  refine x_iload_n (pc' := 64) rfl rfl rfl ?_
  refine x_aload_n (pc' := 65) rfl rfl rfl rfl rfl ?_
  refine x_iload (pc' := 67) rfl rfl rfl ?_
  refine x_aald (pc' := 68) (N := 3) (k' := 2) (r := (some 1)) rfl rfl rfl rfl (io_in (p := 1) (N := 3) (by decide) (by decide)) (Eq.trans (congrArg (sE (sNew (sEw (sRw (sRw (sIw (sIw (sNew (sRw (sRw (sIw (sNew (sRw (sNwA (T6 L xs) 24 5) 256 0 (some 0)) 13 3) 832 1 0) 833 1 (some 0)) 257 0 (some 1)) 1 7) 67 0 0) 64 0 0) 65 0 (some 0)) 66 0 none) 24 0 0 (1, (some 0))) 1 7) 25 0) (nn_io (p := 1) (by decide))) rfl) ?_
  refine x_iload_n (pc' := 69) rfl rfl rfl ?_
  refine x_if (a' := 81) (pc' := 72) (z := true) rfl rfl rfl (by decide) (fun _ => ?_) (fun h => by cases h)
  refine x_null (pc' := 82) rfl rfl rfl ?_
  refine x_ci (ls0 := [_, _, _, _]) (rest := [_, _, _]) rfl rfl rfl rfl rfl ?_
  refine x_aload_n (pc' := 1) rfl rfl rfl rfl rfl ?_
  refine x_obj (pc' := 4) rfl rfl rfl rfl ?_
  refine x_aload_n (pc' := 5) rfl rfl rfl rfl rfl ?_
  refine x_iconst (pc' := 6) rfl rfl ?_
  refine x_pI (pc' := 9) rfl rfl rfl ?_
  refine x_aload_n (pc' := 10) rfl rfl rfl rfl rfl ?_
  refine x_iload_n (pc' := 11) rfl rfl rfl ?_
  refine x_pI (pc' := 14) rfl rfl rfl ?_
  refine x_aload_n (pc' := 15) rfl rfl rfl rfl rfl ?_
  refine x_aload_n (pc' := 16) rfl rfl rfl rfl rfl ?_
  refine x_pR (pc' := 19) rfl rfl rfl ?_
  refine x_aload_n (pc' := 20) rfl rfl rfl rfl rfl ?_
  refine x_aload_n (pc' := 21) rfl rfl rfl rfl rfl ?_
  refine x_pR (pc' := 24) rfl rfl rfl ?_
  refine x_ret rfl ?_
  refine sK_v (pc' := 85) rfl ?_
  refine x_aast (pc' := 86) (N := 5) (p := 1) rfl rfl rfl rfl (io_in (p := 1) (N := 5) (by decide) (by decide)) (nn_io (p := 1) (by decide)) ?_
  refine x_iinc (pc' := 89) (y := 2) (ls' := [_, _, _, _, _]) rfl rfl rfl rfl rfl ?_
  refine x_goto (pc' := 25) rfl rfl ?_
  refine x_iload_n (pc' := 26) rfl rfl rfl ?_
  refine x_iconst (pc' := 27) rfl rfl ?_
  refine x_icmp (a' := 92) (pc' := 30) (z := false) rfl rfl rfl (by decide) (fun h => by cases h) (fun _ => ?_)
  refine x_iload_n (pc' := 31) rfl rfl rfl ?_
  refine x_iconst (pc' := 32) rfl rfl ?_
  refine x_icmp (a' := 39) (pc' := 35) (z := true) rfl rfl rfl (by decide) (fun _ => ?_) (fun h => by cases h)
  refine x_iconst (pc' := 40) rfl rfl ?_
  refine x_istore_n (pc' := 41) (ls' := [_, _, _, _, _]) rfl rfl rfl rfl ?_
  refine x_iload_n (pc' := 42) rfl rfl rfl ?_
  refine x_if (a' := 51) (pc' := 45) (z := true) rfl rfl rfl (by decide) (fun _ => ?_) (fun h => by cases h)
  refine x_iload_n (pc' := 52) rfl rfl rfl ?_
  refine x_istore (pc' := 54) (ls' := [_, _, _, _, _]) rfl rfl rfl rfl ?_
  refine x_aload_n (pc' := 55) rfl rfl rfl rfl rfl ?_
  refine x_gR (pc' := 58) (r := (some 0)) rfl rfl rfl rfl ?_
  refine x_iload_n (pc' := 59) rfl rfl rfl ?_
  refine x_new (pc' := 62) (i := 2) rfl rfl rfl ?_
  refine x_dup (pc' := 63) rfl rfl rfl ?_
  refine x_iload_n (pc' := 64) rfl rfl rfl ?_
  refine x_aload_n (pc' := 65) rfl rfl rfl rfl rfl ?_
  refine x_iload (pc' := 67) rfl rfl rfl ?_
  refine x_aald (pc' := 68) (N := 3) (k' := 2) (r := (some 2)) rfl rfl rfl rfl (io_in (p := 2) (N := 3) (by decide) (by decide)) (Eq.trans (congrArg (sE (sNew (sEw (sRw (sRw (sIw (sIw (sNew (sEw (sRw (sRw (sIw (sIw (sNew (sRw (sRw (sIw (sNew (sRw (sNwA (T6 L xs) 24 5) 256 0 (some 0)) 13 3) 832 1 0) 833 1 (some 0)) 257 0 (some 1)) 1 7) 67 0 0) 64 0 0) 65 0 (some 0)) 66 0 none) 24 0 0 (1, (some 0))) 1 7) 67 1 0) 64 1 1) 65 1 (some 1)) 66 1 none) 24 0 1 (1, (some 1))) 1 7) 25 0) (nn_io (p := 2) (by decide))) rfl) ?_
  refine x_iload_n (pc' := 69) rfl rfl rfl ?_
  refine x_if (a' := 81) (pc' := 72) (z := true) rfl rfl rfl (by decide) (fun _ => ?_) (fun h => by cases h)
  refine x_null (pc' := 82) rfl rfl rfl ?_
  refine x_ci (ls0 := [_, _, _, _]) (rest := [_, _, _]) rfl rfl rfl rfl rfl ?_
  refine x_aload_n (pc' := 1) rfl rfl rfl rfl rfl ?_
  refine x_obj (pc' := 4) rfl rfl rfl rfl ?_
  refine x_aload_n (pc' := 5) rfl rfl rfl rfl rfl ?_
  refine x_iconst (pc' := 6) rfl rfl ?_
  refine x_pI (pc' := 9) rfl rfl rfl ?_
  refine x_aload_n (pc' := 10) rfl rfl rfl rfl rfl ?_
  refine x_iload_n (pc' := 11) rfl rfl rfl ?_
  refine x_pI (pc' := 14) rfl rfl rfl ?_
  refine x_aload_n (pc' := 15) rfl rfl rfl rfl rfl ?_
  refine x_aload_n (pc' := 16) rfl rfl rfl rfl rfl ?_
  refine x_pR (pc' := 19) rfl rfl rfl ?_
  refine x_aload_n (pc' := 20) rfl rfl rfl rfl rfl ?_
  refine x_aload_n (pc' := 21) rfl rfl rfl rfl rfl ?_
  refine x_pR (pc' := 24) rfl rfl rfl ?_
  refine x_ret rfl ?_
  refine sK_v (pc' := 85) rfl ?_
  refine x_aast (pc' := 86) (N := 5) (p := 2) rfl rfl rfl rfl (io_in (p := 2) (N := 5) (by decide) (by decide)) (nn_io (p := 2) (by decide)) ?_
  refine x_iinc (pc' := 89) (y := 3) (ls' := [_, _, _, _, _]) rfl rfl rfl rfl rfl ?_
  refine x_goto (pc' := 25) rfl rfl ?_
  refine x_iload_n (pc' := 26) rfl rfl rfl ?_
  refine x_iconst (pc' := 27) rfl rfl ?_
  refine x_icmp (a' := 92) (pc' := 30) (z := false) rfl rfl rfl (by decide) (fun h => by cases h) (fun _ => ?_)
  refine x_iload_n (pc' := 31) rfl rfl rfl ?_
  refine x_iconst (pc' := 32) rfl rfl ?_
  refine x_icmp (a' := 39) (pc' := 35) (z := false) rfl rfl rfl (by decide) (fun h => by cases h) (fun _ => ?_)
  refine x_iconst (pc' := 36) rfl rfl ?_
  refine x_goto (pc' := 40) rfl rfl ?_
  refine x_istore_n (pc' := 41) (ls' := [_, _, _, _, _]) rfl rfl rfl rfl ?_
  refine x_iload_n (pc' := 42) rfl rfl rfl ?_
  refine x_if (a' := 51) (pc' := 45) (z := false) rfl rfl rfl (by decide) (fun h => by cases h) (fun _ => ?_)
  refine x_iload_n (pc' := 46) rfl rfl rfl ?_
  refine x_iconst (pc' := 47) rfl rfl ?_
  refine x_isub (pc' := 48) (z := 0) rfl rfl (by decide) ?_
  refine x_goto (pc' := 52) rfl rfl ?_
  refine x_istore (pc' := 54) (ls' := [_, _, _, _, _]) rfl rfl rfl rfl ?_
  refine x_aload_n (pc' := 55) rfl rfl rfl rfl rfl ?_
  refine x_gR (pc' := 58) (r := (some 0)) rfl rfl rfl rfl ?_
  refine x_iload_n (pc' := 59) rfl rfl rfl ?_
  refine x_new (pc' := 62) (i := 3) rfl rfl rfl ?_
  refine x_dup (pc' := 63) rfl rfl rfl ?_
  refine x_iload_n (pc' := 64) rfl rfl rfl ?_
  refine x_aload_n (pc' := 65) rfl rfl rfl rfl rfl ?_
  refine x_iload (pc' := 67) rfl rfl rfl ?_
  refine x_aald (pc' := 68) (N := 3) (k' := 2) (r := (some 0)) rfl rfl rfl rfl (io_in (p := 0) (N := 3) (by decide) (by decide)) (Eq.trans (congrArg (sE (sNew (sEw (sRw (sRw (sIw (sIw (sNew (sEw (sRw (sRw (sIw (sIw (sNew (sEw (sRw (sRw (sIw (sIw (sNew (sRw (sRw (sIw (sNew (sRw (sNwA (T6 L xs) 24 5) 256 0 (some 0)) 13 3) 832 1 0) 833 1 (some 0)) 257 0 (some 1)) 1 7) 67 0 0) 64 0 0) 65 0 (some 0)) 66 0 none) 24 0 0 (1, (some 0))) 1 7) 67 1 0) 64 1 1) 65 1 (some 1)) 66 1 none) 24 0 1 (1, (some 1))) 1 7) 67 2 0) 64 2 2) 65 2 (some 2)) 66 2 none) 24 0 2 (1, (some 2))) 1 7) 25 0) (nn_io (p := 0) (by decide))) rfl) ?_
  refine x_iload_n (pc' := 69) rfl rfl rfl ?_
  refine x_if (a' := 81) (pc' := 72) (z := false) rfl rfl rfl (by decide) (fun h => by cases h) (fun _ => ?_)
  refine x_aload_n (pc' := 73) rfl rfl rfl rfl rfl ?_
  refine x_iload (pc' := 75) rfl rfl rfl ?_
  refine x_iconst (pc' := 76) rfl rfl ?_
  refine x_iadd (pc' := 77) (z := 1) rfl rfl (by decide) ?_
  refine x_aald (pc' := 78) (N := 3) (k' := 2) (r := (some 1)) rfl rfl rfl rfl (io_in (p := 1) (N := 3) (by decide) (by decide)) (Eq.trans (congrArg (sE (sNew (sEw (sRw (sRw (sIw (sIw (sNew (sEw (sRw (sRw (sIw (sIw (sNew (sEw (sRw (sRw (sIw (sIw (sNew (sRw (sRw (sIw (sNew (sRw (sNwA (T6 L xs) 24 5) 256 0 (some 0)) 13 3) 832 1 0) 833 1 (some 0)) 257 0 (some 1)) 1 7) 67 0 0) 64 0 0) 65 0 (some 0)) 66 0 none) 24 0 0 (1, (some 0))) 1 7) 67 1 0) 64 1 1) 65 1 (some 1)) 66 1 none) 24 0 1 (1, (some 1))) 1 7) 67 2 0) 64 2 2) 65 2 (some 2)) 66 2 none) 24 0 2 (1, (some 2))) 1 7) 25 0) (nn_io (p := 1) (by decide))) rfl) ?_
  refine x_goto (pc' := 82) rfl rfl ?_
  refine x_ci (ls0 := [_, _, _, _]) (rest := [_, _, _]) rfl rfl rfl rfl rfl ?_
  refine x_aload_n (pc' := 1) rfl rfl rfl rfl rfl ?_
  refine x_obj (pc' := 4) rfl rfl rfl rfl ?_
  refine x_aload_n (pc' := 5) rfl rfl rfl rfl rfl ?_
  refine x_iconst (pc' := 6) rfl rfl ?_
  refine x_pI (pc' := 9) rfl rfl rfl ?_
  refine x_aload_n (pc' := 10) rfl rfl rfl rfl rfl ?_
  refine x_iload_n (pc' := 11) rfl rfl rfl ?_
  refine x_pI (pc' := 14) rfl rfl rfl ?_
  refine x_aload_n (pc' := 15) rfl rfl rfl rfl rfl ?_
  refine x_aload_n (pc' := 16) rfl rfl rfl rfl rfl ?_
  refine x_pR (pc' := 19) rfl rfl rfl ?_
  refine x_aload_n (pc' := 20) rfl rfl rfl rfl rfl ?_
  refine x_aload_n (pc' := 21) rfl rfl rfl rfl rfl ?_
  refine x_pR (pc' := 24) rfl rfl rfl ?_
  refine x_ret rfl ?_
  refine sK_v (pc' := 85) rfl ?_
  refine x_aast (pc' := 86) (N := 5) (p := 3) rfl rfl rfl rfl (io_in (p := 3) (N := 5) (by decide) (by decide)) (nn_io (p := 3) (by decide)) ?_
  refine x_iinc (pc' := 89) (y := 4) (ls' := [_, _, _, _, _]) rfl rfl rfl rfl rfl ?_
  refine x_goto (pc' := 25) rfl rfl ?_
  refine x_iload_n (pc' := 26) rfl rfl rfl ?_
  refine x_iconst (pc' := 27) rfl rfl ?_
  refine x_icmp (a' := 92) (pc' := 30) (z := false) rfl rfl rfl (by decide) (fun h => by cases h) (fun _ => ?_)
  refine x_iload_n (pc' := 31) rfl rfl rfl ?_
  refine x_iconst (pc' := 32) rfl rfl ?_
  refine x_icmp (a' := 39) (pc' := 35) (z := false) rfl rfl rfl (by decide) (fun h => by cases h) (fun _ => ?_)
  refine x_iconst (pc' := 36) rfl rfl ?_
  refine x_goto (pc' := 40) rfl rfl ?_
  refine x_istore_n (pc' := 41) (ls' := [_, _, _, _, _]) rfl rfl rfl rfl ?_
  refine x_iload_n (pc' := 42) rfl rfl rfl ?_
  refine x_if (a' := 51) (pc' := 45) (z := false) rfl rfl rfl (by decide) (fun h => by cases h) (fun _ => ?_)
  refine x_iload_n (pc' := 46) rfl rfl rfl ?_
  refine x_iconst (pc' := 47) rfl rfl ?_
  refine x_isub (pc' := 48) (z := 1) rfl rfl (by decide) ?_
  refine x_goto (pc' := 52) rfl rfl ?_
  refine x_istore (pc' := 54) (ls' := [_, _, _, _, _]) rfl rfl rfl rfl ?_
  refine x_aload_n (pc' := 55) rfl rfl rfl rfl rfl ?_
  refine x_gR (pc' := 58) (r := (some 0)) rfl rfl rfl rfl ?_
  refine x_iload_n (pc' := 59) rfl rfl rfl ?_
  refine x_new (pc' := 62) (i := 4) rfl rfl rfl ?_
  refine x_dup (pc' := 63) rfl rfl rfl ?_
  refine x_iload_n (pc' := 64) rfl rfl rfl ?_
  refine x_aload_n (pc' := 65) rfl rfl rfl rfl rfl ?_
  refine x_iload (pc' := 67) rfl rfl rfl ?_
  refine x_aald (pc' := 68) (N := 3) (k' := 2) (r := (some 1)) rfl rfl rfl rfl (io_in (p := 1) (N := 3) (by decide) (by decide)) (Eq.trans (congrArg (sE (sNew (sEw (sRw (sRw (sIw (sIw (sNew (sEw (sRw (sRw (sIw (sIw (sNew (sEw (sRw (sRw (sIw (sIw (sNew (sEw (sRw (sRw (sIw (sIw (sNew (sRw (sRw (sIw (sNew (sRw (sNwA (T6 L xs) 24 5) 256 0 (some 0)) 13 3) 832 1 0) 833 1 (some 0)) 257 0 (some 1)) 1 7) 67 0 0) 64 0 0) 65 0 (some 0)) 66 0 none) 24 0 0 (1, (some 0))) 1 7) 67 1 0) 64 1 1) 65 1 (some 1)) 66 1 none) 24 0 1 (1, (some 1))) 1 7) 67 2 0) 64 2 2) 65 2 (some 2)) 66 2 none) 24 0 2 (1, (some 2))) 1 7) 67 3 0) 64 3 3) 65 3 (some 0)) 66 3 (some 1)) 24 0 3 (1, (some 3))) 1 7) 25 0) (nn_io (p := 1) (by decide))) rfl) ?_
  refine x_iload_n (pc' := 69) rfl rfl rfl ?_
  refine x_if (a' := 81) (pc' := 72) (z := false) rfl rfl rfl (by decide) (fun h => by cases h) (fun _ => ?_)
  refine x_aload_n (pc' := 73) rfl rfl rfl rfl rfl ?_
  refine x_iload (pc' := 75) rfl rfl rfl ?_
  refine x_iconst (pc' := 76) rfl rfl ?_
  refine x_iadd (pc' := 77) (z := 2) rfl rfl (by decide) ?_
  refine x_aald (pc' := 78) (N := 3) (k' := 2) (r := (some 2)) rfl rfl rfl rfl (io_in (p := 2) (N := 3) (by decide) (by decide)) (Eq.trans (congrArg (sE (sNew (sEw (sRw (sRw (sIw (sIw (sNew (sEw (sRw (sRw (sIw (sIw (sNew (sEw (sRw (sRw (sIw (sIw (sNew (sEw (sRw (sRw (sIw (sIw (sNew (sRw (sRw (sIw (sNew (sRw (sNwA (T6 L xs) 24 5) 256 0 (some 0)) 13 3) 832 1 0) 833 1 (some 0)) 257 0 (some 1)) 1 7) 67 0 0) 64 0 0) 65 0 (some 0)) 66 0 none) 24 0 0 (1, (some 0))) 1 7) 67 1 0) 64 1 1) 65 1 (some 1)) 66 1 none) 24 0 1 (1, (some 1))) 1 7) 67 2 0) 64 2 2) 65 2 (some 2)) 66 2 none) 24 0 2 (1, (some 2))) 1 7) 67 3 0) 64 3 3) 65 3 (some 0)) 66 3 (some 1)) 24 0 3 (1, (some 3))) 1 7) 25 0) (nn_io (p := 2) (by decide))) rfl) ?_
  refine x_goto (pc' := 82) rfl rfl ?_
  refine x_ci (ls0 := [_, _, _, _]) (rest := [_, _, _]) rfl rfl rfl rfl rfl ?_
  refine x_aload_n (pc' := 1) rfl rfl rfl rfl rfl ?_
  refine x_obj (pc' := 4) rfl rfl rfl rfl ?_
  refine x_aload_n (pc' := 5) rfl rfl rfl rfl rfl ?_
  refine x_iconst (pc' := 6) rfl rfl ?_
  refine x_pI (pc' := 9) rfl rfl rfl ?_
  refine x_aload_n (pc' := 10) rfl rfl rfl rfl rfl ?_
  refine x_iload_n (pc' := 11) rfl rfl rfl ?_
  refine x_pI (pc' := 14) rfl rfl rfl ?_
  refine x_aload_n (pc' := 15) rfl rfl rfl rfl rfl ?_
  refine x_aload_n (pc' := 16) rfl rfl rfl rfl rfl ?_
  refine x_pR (pc' := 19) rfl rfl rfl ?_
  refine x_aload_n (pc' := 20) rfl rfl rfl rfl rfl ?_
  refine x_aload_n (pc' := 21) rfl rfl rfl rfl rfl ?_
  refine x_pR (pc' := 24) rfl rfl rfl ?_
  refine x_ret rfl ?_
  refine sK_v (pc' := 85) rfl ?_
  refine x_aast (pc' := 86) (N := 5) (p := 4) rfl rfl rfl rfl (io_in (p := 4) (N := 5) (by decide) (by decide)) (nn_io (p := 4) (by decide)) ?_
  refine x_iinc (pc' := 89) (y := 5) (ls' := [_, _, _, _, _]) rfl rfl rfl rfl rfl ?_
  refine x_goto (pc' := 25) rfl rfl ?_
  refine x_iload_n (pc' := 26) rfl rfl rfl ?_
  refine x_iconst (pc' := 27) rfl rfl ?_
  refine x_icmp (a' := 92) (pc' := 30) (z := true) rfl rfl rfl (by decide) (fun _ => ?_) (fun h => by cases h)
  refine x_ret rfl ?_
  exact k0
def T9 (L : Nat) (xs : Nat → Int32) : sT := (sNew (sRw (sRw (sRw (sRw (sNew (T8 L xs) 10 1) 640 0 (some 0)) 704 0 (some 0)) 705 0 (some 0)) 706 0 (some 0)) 6 4)
def T11 (L : Nat) (xs : Nat → Int32) : sT := (sRw (sRw (sRw (sRw (sRw (sIw (sNew (T9 L xs) 13 3) 832 2 0) 833 2 (some 0)) 387 0 (some 2)) 384 0 (some 0)) 385 0 (some 0)) 386 0 (some 0))
set_option maxRecDepth 10000 in
theorem sub10_55 {Q : sRs → sT → Prop} {L : Nat} {xs : Nat → Int32}
    (k0 : Q (.inl none) (T11 L xs)) :
    X 55 0 [.inr (.inr (6, (some 0))), .inr (.inr (5, (some 0))), .inr (.inr (4, (some 0))), .inr (.inr (10, (some 0)))] [] (T9 L xs) Q := by
  refine x_aload_n (pc' := 1) rfl rfl rfl rfl rfl ?_
  refine x_obj (pc' := 4) rfl rfl rfl rfl ?_
  refine x_aload_n (pc' := 5) rfl rfl rfl rfl rfl ?_
  refine x_new (pc' := 8) (i := 2) rfl rfl rfl ?_
  refine x_dup (pc' := 9) rfl rfl rfl ?_
  refine x_ci (ls0 := [_]) (rest := [_, _]) rfl rfl rfl rfl rfl ?_
  refine x_aload_n (pc' := 1) rfl rfl rfl rfl rfl ?_
  refine x_ci (ls0 := [_]) (rest := []) rfl rfl rfl rfl rfl ?_
  refine x_aload_n (pc' := 1) rfl rfl rfl rfl rfl ?_
  refine x_ci (ls0 := [_]) (rest := []) rfl rfl rfl rfl rfl ?_
  refine x_aload_n (pc' := 1) rfl rfl rfl rfl rfl ?_
  refine x_obj (pc' := 4) rfl rfl rfl rfl ?_
  refine x_ret rfl ?_
  refine sK_v (pc' := 4) rfl ?_
  refine x_aload_n (pc' := 5) rfl rfl rfl rfl rfl ?_
  refine x_iconst (pc' := 6) rfl rfl ?_
  refine x_pI (pc' := 9) rfl rfl rfl ?_
  refine x_ret rfl ?_
  refine sK_v (pc' := 4) rfl ?_
  refine x_aload_n (pc' := 5) rfl rfl rfl rfl rfl ?_
  refine x_getstatic (pc' := 8) rfl rfl (Nat.le_of_ble_eq_true rfl) ?_
  refine x_pR (pc' := 11) rfl rfl rfl ?_
  refine x_ret rfl ?_
  refine sK_v (pc' := 12) rfl ?_
  refine x_pR (pc' := 15) rfl rfl rfl ?_
  refine x_aload_n (pc' := 16) rfl rfl rfl rfl rfl ?_
  refine x_aload_n (pc' := 17) rfl rfl rfl rfl rfl ?_
  refine x_pR (pc' := 20) rfl rfl rfl ?_
  refine x_aload_n (pc' := 21) rfl rfl rfl rfl rfl ?_
  refine x_aload_n (pc' := 22) rfl rfl rfl rfl rfl ?_
  refine x_pR (pc' := 25) rfl rfl rfl ?_
  refine x_aload_n (pc' := 26) rfl rfl rfl rfl rfl ?_
  refine x_aload_n (pc' := 27) rfl rfl rfl rfl rfl ?_
  refine x_pR (pc' := 30) rfl rfl rfl ?_
  refine x_ret rfl ?_
  exact k0
def T12 (L : Nat) (xs : Nat → Int32) : sT := (sRw (sRw (sNew (sRw (sRw (sRw (sNew (sRw (T11 L xs) 707 0 (some 0)) 0 2) 0 0 (some 0)) 1 0 (some 0)) 708 0 (some 0)) 3 1) 192 0 (some 0)) 709 0 (some 0))
set_option maxRecDepth 10000 in
theorem sub2_83 {Q : sRs → sT → Prop} {L : Nat} {xs : Nat → Int32}
    (k0 : Q (.inl none) (T12 L xs)) :
    X 83 0 [.inr (.inr (11, (some 0))), sJk, sJk, sJk] [] (T1 L xs) Q := by
  refine x_aload_n (pc' := 1) rfl rfl rfl rfl rfl ?_
  refine x_obj (pc' := 4) rfl rfl rfl rfl ?_
  refine x_new (pc' := 7) (i := 0) rfl rfl rfl ?_
  refine x_dup (pc' := 8) rfl rfl rfl ?_
  refine x_ci (ls0 := [_, sJk]) (rest := [_]) rfl rfl rfl rfl rfl ?_
  refine sub4_42 ?_
  refine sK_v (pc' := 11) rfl ?_
  refine x_astore_n (pc' := 12) (ls' := [_, _, _, _]) rfl rfl rfl rfl rfl ?_
  refine x_new (pc' := 15) (i := 0) rfl rfl rfl ?_
  refine x_dup (pc' := 16) rfl rfl rfl ?_
  refine x_aload_n (pc' := 17) rfl rfl rfl rfl rfl ?_
  refine x_gR (pc' := 20) (r := (some 0)) rfl rfl rfl rfl ?_
  refine x_ci (ls0 := [_, _, sJk, sJk, sJk]) (rest := [_]) rfl rfl rfl rfl rfl ?_
  refine sub7_26 ?_
  refine sK_v (pc' := 23) rfl ?_
  refine x_astore_n (pc' := 24) (ls' := [_, _, _, _]) rfl rfl rfl rfl rfl ?_
  refine x_new (pc' := 27) (i := 0) rfl rfl rfl ?_
  refine x_dup (pc' := 28) rfl rfl rfl ?_
  refine x_aload_n (pc' := 29) rfl rfl rfl rfl rfl ?_
  refine x_gR (pc' := 32) (r := (some 0)) rfl rfl rfl rfl ?_
  refine x_ci (ls0 := [_, _]) (rest := [_]) rfl rfl rfl rfl rfl ?_
  refine x_aload_n (pc' := 1) rfl rfl rfl rfl rfl ?_
  refine x_obj (pc' := 4) rfl rfl rfl rfl ?_
  refine x_aload_n (pc' := 5) rfl rfl rfl rfl rfl ?_
  refine x_aload_n (pc' := 6) rfl rfl rfl rfl rfl ?_
  refine x_pR (pc' := 9) rfl rfl rfl ?_
  refine x_ret rfl ?_
  refine sK_v (pc' := 35) rfl ?_
  refine x_astore_n (pc' := 36) (ls' := [_, _, _, _]) rfl rfl rfl rfl rfl ?_
  refine x_aload_n (pc' := 37) rfl rfl rfl rfl rfl ?_
  refine x_aload_n (pc' := 38) rfl rfl rfl rfl rfl ?_
  refine x_pR (pc' := 41) rfl rfl rfl ?_
  refine x_aload_n (pc' := 42) rfl rfl rfl rfl rfl ?_
  refine x_aload_n (pc' := 43) rfl rfl rfl rfl rfl ?_
  refine x_pR (pc' := 46) rfl rfl rfl ?_
  refine x_aload_n (pc' := 47) rfl rfl rfl rfl rfl ?_
  refine x_aload_n (pc' := 48) rfl rfl rfl rfl rfl ?_
  refine x_pR (pc' := 51) rfl rfl rfl ?_
  refine x_aload_n (pc' := 52) rfl rfl rfl rfl rfl ?_
  refine x_new (pc' := 55) (i := 0) rfl rfl rfl ?_
  refine x_dup (pc' := 56) rfl rfl rfl ?_
  refine x_aload_n (pc' := 57) rfl rfl rfl rfl rfl ?_
  refine x_aload_n (pc' := 58) rfl rfl rfl rfl rfl ?_
  refine x_aload_n (pc' := 59) rfl rfl rfl rfl rfl ?_
  refine x_ci (ls0 := [_, _, _, _]) (rest := [_, _]) rfl rfl rfl rfl rfl ?_
  refine sub10_55 ?_
  refine sK_v (pc' := 62) rfl ?_
  refine x_pR (pc' := 65) rfl rfl rfl ?_
  refine x_aload_n (pc' := 66) rfl rfl rfl rfl rfl ?_
  refine x_new (pc' := 69) (i := 0) rfl rfl rfl ?_
  refine x_dup (pc' := 70) rfl rfl rfl ?_
  refine x_aload_n (pc' := 71) rfl rfl rfl rfl rfl ?_
  refine x_aload_n (pc' := 72) rfl rfl rfl rfl rfl ?_
  refine x_ci (ls0 := [_, _, _]) (rest := [_, _]) rfl rfl rfl rfl rfl ?_
  refine x_aload_n (pc' := 1) rfl rfl rfl rfl rfl ?_
  refine x_obj (pc' := 4) rfl rfl rfl rfl ?_
  refine x_aload_n (pc' := 5) rfl rfl rfl rfl rfl ?_
  refine x_aload_n (pc' := 6) rfl rfl rfl rfl rfl ?_
  refine x_pR (pc' := 9) rfl rfl rfl ?_
  refine x_aload_n (pc' := 10) rfl rfl rfl rfl rfl ?_
  refine x_aload_n (pc' := 11) rfl rfl rfl rfl rfl ?_
  refine x_pR (pc' := 14) rfl rfl rfl ?_
  refine x_ret rfl ?_
  refine sK_v (pc' := 75) rfl ?_
  refine x_pR (pc' := 78) rfl rfl rfl ?_
  refine x_aload_n (pc' := 79) rfl rfl rfl rfl rfl ?_
  refine x_new (pc' := 82) (i := 0) rfl rfl rfl ?_
  refine x_dup (pc' := 83) rfl rfl rfl ?_
  refine x_aload_n (pc' := 84) rfl rfl rfl rfl rfl ?_
  refine x_ci (ls0 := [_, _]) (rest := [_, _]) rfl rfl rfl rfl rfl ?_
  refine x_aload_n (pc' := 1) rfl rfl rfl rfl rfl ?_
  refine x_obj (pc' := 4) rfl rfl rfl rfl ?_
  refine x_aload_n (pc' := 5) rfl rfl rfl rfl rfl ?_
  refine x_aload_n (pc' := 6) rfl rfl rfl rfl rfl ?_
  refine x_pR (pc' := 9) rfl rfl rfl ?_
  refine x_ret rfl ?_
  refine sK_v (pc' := 87) rfl ?_
  refine x_pR (pc' := 90) rfl rfl rfl ?_
  refine x_ret rfl ?_
  exact k0
set_option maxRecDepth 10000 in
theorem law_0 {Q : sRs → sT → Prop} {L : Nat} {xs : Nat → Int32}
    (k0 : X 297 23 [.inr (.inr (29, (some 0))), .inr (.inr (11, (some 0))), .inr (.inr (21, (some 0))), .inr (.inr (21, (some 1))), .inl 1, .inl 0, sJk] [] (sNwA (sNwA (T12 L xs) 21 64) 21 3) Q) :
    X 297 0 [.inr (.inr (29, (some 0))), sJk, sJk, sJk, sJk, sJk, sJk] [] (sT0 L xs) Q := by
  refine x_new (pc' := 3) (i := 0) rfl rfl rfl ?_
  refine x_dup (pc' := 4) rfl rfl rfl ?_
  refine x_ci (ls0 := [_, sJk, sJk, sJk]) (rest := [_]) rfl rfl rfl rfl rfl ?_
  refine sub2_83 ?_
  refine sK_v (pc' := 7) rfl ?_
  refine x_astore_n (pc' := 8) (ls' := [_, _, _, _, _, _, _]) rfl rfl rfl rfl rfl ?_
  refine x_bipush (pc' := 10) rfl rfl ?_
  refine x_newarray (pc' := 12) (N := 64) (i := 0) rfl rfl rfl rfl rfl ?_
  refine x_astore_n (pc' := 13) (ls' := [_, _, _, _, _, _, _]) rfl rfl rfl rfl rfl ?_
  refine x_iconst (pc' := 14) rfl rfl ?_
  refine x_newarray (pc' := 16) (N := 3) (i := 1) rfl rfl rfl rfl rfl ?_
  refine x_astore_n (pc' := 17) (ls' := [_, _, _, _, _, _, _]) rfl rfl rfl rfl rfl ?_
  refine x_iconst (pc' := 18) rfl rfl ?_
  refine x_istore (pc' := 20) (ls' := [_, _, _, _, _, _, _]) rfl rfl rfl rfl ?_
  refine x_iconst (pc' := 21) rfl rfl ?_
  refine x_istore (pc' := 23) (ls' := [_, _, _, _, _, _, _]) rfl rfl rfl rfl ?_
  exact k0
