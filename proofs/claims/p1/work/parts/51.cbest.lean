/-! the class's methods (printed by clsgen.py) -/
def cb0fF (M : sM) (n : Nat) : Option Nat := (bif (decide ((bif (wokF M n 0 false 2) then (wprF M n 0 false 2) else (-10000)) = (-10000))) then (bif (decide ((bif (wokF M n 0 false 1) then (wprF M n 0 false 1) else (-10000)) = (-10000))) then (bif (decide ((bif (wokF M n 0 false 0) then (wprF M n 0 false 0) else (-10000)) = (-10000))) then none else (some 0)) else (bif (bif (decide ((bif (wokF M n 0 false 0) then (wprF M n 0 false 0) else (-10000)) = (-10000))) then none else (some 0)).isNone then (some 1) else (bif (decide ((bif (decide ((bif (wokF M n 0 false 0) then (wprF M n 0 false 0) else (-10000)) = (-10000))) then (-10000) else (bif (wokF M n 0 false 0) then (wprF M n 0 false 0) else (-10000))) < (bif (wokF M n 0 false 1) then (wprF M n 0 false 1) else (-10000)))) then (some 1) else (bif (decide ((bif (wokF M n 0 false 0) then (wprF M n 0 false 0) else (-10000)) = (-10000))) then none else (some 0))))) else (bif (bif (decide ((bif (wokF M n 0 false 1) then (wprF M n 0 false 1) else (-10000)) = (-10000))) then (bif (decide ((bif (wokF M n 0 false 0) then (wprF M n 0 false 0) else (-10000)) = (-10000))) then none else (some 0)) else (bif (bif (decide ((bif (wokF M n 0 false 0) then (wprF M n 0 false 0) else (-10000)) = (-10000))) then none else (some 0)).isNone then (some 1) else (bif (decide ((bif (decide ((bif (wokF M n 0 false 0) then (wprF M n 0 false 0) else (-10000)) = (-10000))) then (-10000) else (bif (wokF M n 0 false 0) then (wprF M n 0 false 0) else (-10000))) < (bif (wokF M n 0 false 1) then (wprF M n 0 false 1) else (-10000)))) then (some 1) else (bif (decide ((bif (wokF M n 0 false 0) then (wprF M n 0 false 0) else (-10000)) = (-10000))) then none else (some 0))))).isNone then (some 2) else (bif (decide ((bif (decide ((bif (wokF M n 0 false 1) then (wprF M n 0 false 1) else (-10000)) = (-10000))) then (bif (decide ((bif (wokF M n 0 false 0) then (wprF M n 0 false 0) else (-10000)) = (-10000))) then (-10000) else (bif (wokF M n 0 false 0) then (wprF M n 0 false 0) else (-10000))) else (bif (bif (decide ((bif (wokF M n 0 false 0) then (wprF M n 0 false 0) else (-10000)) = (-10000))) then none else (some 0)).isNone then (bif (wokF M n 0 false 1) then (wprF M n 0 false 1) else (-10000)) else (mxc (bif (decide ((bif (wokF M n 0 false 0) then (wprF M n 0 false 0) else (-10000)) = (-10000))) then (-10000) else (bif (wokF M n 0 false 0) then (wprF M n 0 false 0) else (-10000))) (bif (wokF M n 0 false 1) then (wprF M n 0 false 1) else (-10000))))) < (bif (wokF M n 0 false 2) then (wprF M n 0 false 2) else (-10000)))) then (some 2) else (bif (decide ((bif (wokF M n 0 false 1) then (wprF M n 0 false 1) else (-10000)) = (-10000))) then (bif (decide ((bif (wokF M n 0 false 0) then (wprF M n 0 false 0) else (-10000)) = (-10000))) then none else (some 0)) else (bif (bif (decide ((bif (wokF M n 0 false 0) then (wprF M n 0 false 0) else (-10000)) = (-10000))) then none else (some 0)).isNone then (some 1) else (bif (decide ((bif (decide ((bif (wokF M n 0 false 0) then (wprF M n 0 false 0) else (-10000)) = (-10000))) then (-10000) else (bif (wokF M n 0 false 0) then (wprF M n 0 false 0) else (-10000))) < (bif (wokF M n 0 false 1) then (wprF M n 0 false 1) else (-10000)))) then (some 1) else (bif (decide ((bif (wokF M n 0 false 0) then (wprF M n 0 false 0) else (-10000)) = (-10000))) then none else (some 0))))))))
set_option maxHeartbeats 4000000 in
set_option maxRecDepth 10000 in
theorem c82_0f {t : sT} {Q : sRs → sT → Prop} {M : sM} {n : Nat} {T : Nat}
    (hM : Rl t M n T)
    (hc : Sf t M n T)
    (hR : Ri M n)
    (hC : rlC t M n)
    (q : (∀ j, cb0fF M n = some j → j < 3) → Q (.inl (some (.inl (ov (cb0fF M n))))) t) :
    X 82 0 [.inr (.inr (10, (some 0))), .inr (.inr (1, (some 0))), .inl (bz false), sJk, sJk, sJk, sJk, sJk] [] t Q := by
  refine x_iconst (pc' := 1) rfl rfl ?_
  refine x_istore_n (pc' := 2) (ls' := [_, _, _, _, _, _, _, _]) rfl rfl rfl rfl ?_
  refine x_sipush (pc' := 5) rfl rfl ?_
  refine x_istore (pc' := 7) (ls' := [_, _, _, _, _, _, _, _]) rfl rfl rfl rfl ?_
  refine x_iconst (pc' := 8) rfl rfl ?_
  refine x_istore (pc' := 10) (ls' := [_, _, _, _, _, _, _, _]) rfl rfl rfl rfl ?_
  refine x_iload (pc' := 12) rfl rfl rfl ?_
  refine x_iconst (pc' := 13) rfl rfl ?_
  refine x_icmp (a' := 90) (pc' := 16) (z := false) rfl rfl rfl (by decide) (fun h => by cases h) (fun _ => ?_)
  refine x_aload_n (pc' := 17) rfl rfl rfl rfl rfl ?_
  refine x_aload_n (pc' := 18) rfl rfl rfl rfl rfl ?_
  refine x_iload (pc' := 20) rfl rfl rfl ?_
  refine x_iload_n (pc' := 21) rfl rfl rfl ?_
  refine x_cv (ls0 := [_, _, _, _, sJk, sJk, sJk, sJk]) (rest := []) rfl rfl rfl rfl rfl ?_
  refine c81_00f hM hc (Fc.ri (Fc.refl _) hR) hC ?_
  rw [cp00fF_e]
  refine sK_i (pc' := 24) rfl ?_
  refine x_istore (pc' := 26) (ls' := [_, _, _, _, _, _, _, _]) rfl rfl rfl rfl ?_
  refine x_iload_n (pc' := 27) rfl rfl rfl ?_
  refine x_if (a' := 45) (pc' := 30) (z := true) rfl rfl rfl (by decide) (fun _ => ?_) (fun h => by cases h)
  refine x_iload (pc' := 47) rfl rfl rfl ?_
  refine x_iload (pc' := 49) rfl rfl rfl ?_
  have J3 : X 82 57 [.inr (.inr (10, (some 0))), .inr (.inr (1, (some 0))), .inl (bz false), .inl (-1), .inl (-10000), .inl 0, .inl (bif (wokF M n 0 false 0) then (wprF M n 0 false 0) else (-10000)), sJk] [.inl (bz (decide ((-10000) < (bif (wokF M n 0 false 0) then (wprF M n 0 false 0) else (-10000)))))] t Q := by
    refine x_istore (pc' := 59) (ls' := [_, _, _, _, _, _, _, _]) rfl rfl rfl rfl ?_
    refine x_iload (pc' := 61) rfl rfl rfl ?_
    refine x_sipush (pc' := 64) rfl rfl ?_
    have J6 : X 82 84 [.inr (.inr (10, (some 0))), .inr (.inr (1, (some 0))), .inl (bz false), .inl (ov (bif (decide ((bif (wokF M n 0 false 0) then (wprF M n 0 false 0) else (-10000)) = (-10000))) then none else (some 0))), .inl (bif (decide ((bif (wokF M n 0 false 0) then (wprF M n 0 false 0) else (-10000)) = (-10000))) then (-10000) else (bif (wokF M n 0 false 0) then (wprF M n 0 false 0) else (-10000))), .inl 0, .inl (bif (wokF M n 0 false 0) then (wprF M n 0 false 0) else (-10000)), .inl (bz (decide ((-10000) < (bif (wokF M n 0 false 0) then (wprF M n 0 false 0) else (-10000)))))] [] t Q := by
      refine x_iinc (pc' := 87) (y := 1) (ls' := [_, _, _, _, _, _, _, _]) rfl rfl rfl rfl rfl ?_
      refine x_goto (pc' := 10) rfl rfl ?_
      refine x_iload (pc' := 12) rfl rfl rfl ?_
      refine x_iconst (pc' := 13) rfl rfl ?_
      refine x_icmp (a' := 90) (pc' := 16) (z := false) rfl rfl rfl (by decide) (fun h => by cases h) (fun _ => ?_)
      refine x_aload_n (pc' := 17) rfl rfl rfl rfl rfl ?_
      refine x_aload_n (pc' := 18) rfl rfl rfl rfl rfl ?_
      refine x_iload (pc' := 20) rfl rfl rfl ?_
      refine x_iload_n (pc' := 21) rfl rfl rfl ?_
      refine x_cv (ls0 := [_, _, _, _, sJk, sJk, sJk, sJk]) (rest := []) rfl rfl rfl rfl rfl ?_
      refine c81_01f hM hc (Fc.ri (Fc.refl _) hR) hC ?_
      rw [cp01fF_e]
      refine sK_i (pc' := 24) rfl ?_
      refine x_istore (pc' := 26) (ls' := [_, _, _, _, _, _, _, _]) rfl rfl rfl rfl ?_
      refine x_iload_n (pc' := 27) rfl rfl rfl ?_
      refine x_if (a' := 45) (pc' := 30) (z := true) rfl rfl rfl (by decide) (fun _ => ?_) (fun h => by cases h)
      refine x_iload (pc' := 47) rfl rfl rfl ?_
      refine x_iload (pc' := 49) rfl rfl rfl ?_
      have J10 : X 82 57 [.inr (.inr (10, (some 0))), .inr (.inr (1, (some 0))), .inl (bz false), .inl (ov (bif (decide ((bif (wokF M n 0 false 0) then (wprF M n 0 false 0) else (-10000)) = (-10000))) then none else (some 0))), .inl (bif (decide ((bif (wokF M n 0 false 0) then (wprF M n 0 false 0) else (-10000)) = (-10000))) then (-10000) else (bif (wokF M n 0 false 0) then (wprF M n 0 false 0) else (-10000))), .inl 1, .inl (bif (wokF M n 0 false 1) then (wprF M n 0 false 1) else (-10000)), .inl (bz (decide ((-10000) < (bif (wokF M n 0 false 0) then (wprF M n 0 false 0) else (-10000)))))] [.inl (bz (decide ((bif (decide ((bif (wokF M n 0 false 0) then (wprF M n 0 false 0) else (-10000)) = (-10000))) then (-10000) else (bif (wokF M n 0 false 0) then (wprF M n 0 false 0) else (-10000))) < (bif (wokF M n 0 false 1) then (wprF M n 0 false 1) else (-10000)))))] t Q := by
        refine x_istore (pc' := 59) (ls' := [_, _, _, _, _, _, _, _]) rfl rfl rfl rfl ?_
        refine x_iload (pc' := 61) rfl rfl rfl ?_
        refine x_sipush (pc' := 64) rfl rfl ?_
        have J14 : X 82 84 [.inr (.inr (10, (some 0))), .inr (.inr (1, (some 0))), .inl (bz false), .inl (ov (bif (decide ((bif (wokF M n 0 false 1) then (wprF M n 0 false 1) else (-10000)) = (-10000))) then (bif (decide ((bif (wokF M n 0 false 0) then (wprF M n 0 false 0) else (-10000)) = (-10000))) then none else (some 0)) else (bif (bif (decide ((bif (wokF M n 0 false 0) then (wprF M n 0 false 0) else (-10000)) = (-10000))) then none else (some 0)).isNone then (some 1) else (bif (decide ((bif (decide ((bif (wokF M n 0 false 0) then (wprF M n 0 false 0) else (-10000)) = (-10000))) then (-10000) else (bif (wokF M n 0 false 0) then (wprF M n 0 false 0) else (-10000))) < (bif (wokF M n 0 false 1) then (wprF M n 0 false 1) else (-10000)))) then (some 1) else (bif (decide ((bif (wokF M n 0 false 0) then (wprF M n 0 false 0) else (-10000)) = (-10000))) then none else (some 0)))))), .inl (bif (decide ((bif (wokF M n 0 false 1) then (wprF M n 0 false 1) else (-10000)) = (-10000))) then (bif (decide ((bif (wokF M n 0 false 0) then (wprF M n 0 false 0) else (-10000)) = (-10000))) then (-10000) else (bif (wokF M n 0 false 0) then (wprF M n 0 false 0) else (-10000))) else (bif (bif (decide ((bif (wokF M n 0 false 0) then (wprF M n 0 false 0) else (-10000)) = (-10000))) then none else (some 0)).isNone then (bif (wokF M n 0 false 1) then (wprF M n 0 false 1) else (-10000)) else (mxc (bif (decide ((bif (wokF M n 0 false 0) then (wprF M n 0 false 0) else (-10000)) = (-10000))) then (-10000) else (bif (wokF M n 0 false 0) then (wprF M n 0 false 0) else (-10000))) (bif (wokF M n 0 false 1) then (wprF M n 0 false 1) else (-10000))))), .inl 1, .inl (bif (wokF M n 0 false 1) then (wprF M n 0 false 1) else (-10000)), .inl (bz (decide ((bif (decide ((bif (wokF M n 0 false 0) then (wprF M n 0 false 0) else (-10000)) = (-10000))) then (-10000) else (bif (wokF M n 0 false 0) then (wprF M n 0 false 0) else (-10000))) < (bif (wokF M n 0 false 1) then (wprF M n 0 false 1) else (-10000)))))] [] t Q := by
          refine x_iinc (pc' := 87) (y := 2) (ls' := [_, _, _, _, _, _, _, _]) rfl rfl rfl rfl rfl ?_
          refine x_goto (pc' := 10) rfl rfl ?_
          refine x_iload (pc' := 12) rfl rfl rfl ?_
          refine x_iconst (pc' := 13) rfl rfl ?_
          refine x_icmp (a' := 90) (pc' := 16) (z := false) rfl rfl rfl (by decide) (fun h => by cases h) (fun _ => ?_)
          refine x_aload_n (pc' := 17) rfl rfl rfl rfl rfl ?_
          refine x_aload_n (pc' := 18) rfl rfl rfl rfl rfl ?_
          refine x_iload (pc' := 20) rfl rfl rfl ?_
          refine x_iload_n (pc' := 21) rfl rfl rfl ?_
          refine x_cv (ls0 := [_, _, _, _, sJk, sJk, sJk, sJk]) (rest := []) rfl rfl rfl rfl rfl ?_
          refine c81_02f hM hc (Fc.ri (Fc.refl _) hR) hC ?_
          rw [cp02fF_e]
          refine sK_i (pc' := 24) rfl ?_
          refine x_istore (pc' := 26) (ls' := [_, _, _, _, _, _, _, _]) rfl rfl rfl rfl ?_
          refine x_iload_n (pc' := 27) rfl rfl rfl ?_
          refine x_if (a' := 45) (pc' := 30) (z := true) rfl rfl rfl (by decide) (fun _ => ?_) (fun h => by cases h)
          refine x_iload (pc' := 47) rfl rfl rfl ?_
          refine x_iload (pc' := 49) rfl rfl rfl ?_
          have J18 : X 82 57 [.inr (.inr (10, (some 0))), .inr (.inr (1, (some 0))), .inl (bz false), .inl (ov (bif (decide ((bif (wokF M n 0 false 1) then (wprF M n 0 false 1) else (-10000)) = (-10000))) then (bif (decide ((bif (wokF M n 0 false 0) then (wprF M n 0 false 0) else (-10000)) = (-10000))) then none else (some 0)) else (bif (bif (decide ((bif (wokF M n 0 false 0) then (wprF M n 0 false 0) else (-10000)) = (-10000))) then none else (some 0)).isNone then (some 1) else (bif (decide ((bif (decide ((bif (wokF M n 0 false 0) then (wprF M n 0 false 0) else (-10000)) = (-10000))) then (-10000) else (bif (wokF M n 0 false 0) then (wprF M n 0 false 0) else (-10000))) < (bif (wokF M n 0 false 1) then (wprF M n 0 false 1) else (-10000)))) then (some 1) else (bif (decide ((bif (wokF M n 0 false 0) then (wprF M n 0 false 0) else (-10000)) = (-10000))) then none else (some 0)))))), .inl (bif (decide ((bif (wokF M n 0 false 1) then (wprF M n 0 false 1) else (-10000)) = (-10000))) then (bif (decide ((bif (wokF M n 0 false 0) then (wprF M n 0 false 0) else (-10000)) = (-10000))) then (-10000) else (bif (wokF M n 0 false 0) then (wprF M n 0 false 0) else (-10000))) else (bif (bif (decide ((bif (wokF M n 0 false 0) then (wprF M n 0 false 0) else (-10000)) = (-10000))) then none else (some 0)).isNone then (bif (wokF M n 0 false 1) then (wprF M n 0 false 1) else (-10000)) else (mxc (bif (decide ((bif (wokF M n 0 false 0) then (wprF M n 0 false 0) else (-10000)) = (-10000))) then (-10000) else (bif (wokF M n 0 false 0) then (wprF M n 0 false 0) else (-10000))) (bif (wokF M n 0 false 1) then (wprF M n 0 false 1) else (-10000))))), .inl 2, .inl (bif (wokF M n 0 false 2) then (wprF M n 0 false 2) else (-10000)), .inl (bz (decide ((bif (decide ((bif (wokF M n 0 false 0) then (wprF M n 0 false 0) else (-10000)) = (-10000))) then (-10000) else (bif (wokF M n 0 false 0) then (wprF M n 0 false 0) else (-10000))) < (bif (wokF M n 0 false 1) then (wprF M n 0 false 1) else (-10000)))))] [.inl (bz (decide ((bif (decide ((bif (wokF M n 0 false 1) then (wprF M n 0 false 1) else (-10000)) = (-10000))) then (bif (decide ((bif (wokF M n 0 false 0) then (wprF M n 0 false 0) else (-10000)) = (-10000))) then (-10000) else (bif (wokF M n 0 false 0) then (wprF M n 0 false 0) else (-10000))) else (bif (bif (decide ((bif (wokF M n 0 false 0) then (wprF M n 0 false 0) else (-10000)) = (-10000))) then none else (some 0)).isNone then (bif (wokF M n 0 false 1) then (wprF M n 0 false 1) else (-10000)) else (mxc (bif (decide ((bif (wokF M n 0 false 0) then (wprF M n 0 false 0) else (-10000)) = (-10000))) then (-10000) else (bif (wokF M n 0 false 0) then (wprF M n 0 false 0) else (-10000))) (bif (wokF M n 0 false 1) then (wprF M n 0 false 1) else (-10000))))) < (bif (wokF M n 0 false 2) then (wprF M n 0 false 2) else (-10000)))))] t Q := by
            refine x_istore (pc' := 59) (ls' := [_, _, _, _, _, _, _, _]) rfl rfl rfl rfl ?_
            refine x_iload (pc' := 61) rfl rfl rfl ?_
            refine x_sipush (pc' := 64) rfl rfl ?_
            have J22 : X 82 84 [.inr (.inr (10, (some 0))), .inr (.inr (1, (some 0))), .inl (bz false), .inl (ov (bif (decide ((bif (wokF M n 0 false 2) then (wprF M n 0 false 2) else (-10000)) = (-10000))) then (bif (decide ((bif (wokF M n 0 false 1) then (wprF M n 0 false 1) else (-10000)) = (-10000))) then (bif (decide ((bif (wokF M n 0 false 0) then (wprF M n 0 false 0) else (-10000)) = (-10000))) then none else (some 0)) else (bif (bif (decide ((bif (wokF M n 0 false 0) then (wprF M n 0 false 0) else (-10000)) = (-10000))) then none else (some 0)).isNone then (some 1) else (bif (decide ((bif (decide ((bif (wokF M n 0 false 0) then (wprF M n 0 false 0) else (-10000)) = (-10000))) then (-10000) else (bif (wokF M n 0 false 0) then (wprF M n 0 false 0) else (-10000))) < (bif (wokF M n 0 false 1) then (wprF M n 0 false 1) else (-10000)))) then (some 1) else (bif (decide ((bif (wokF M n 0 false 0) then (wprF M n 0 false 0) else (-10000)) = (-10000))) then none else (some 0))))) else (bif (bif (decide ((bif (wokF M n 0 false 1) then (wprF M n 0 false 1) else (-10000)) = (-10000))) then (bif (decide ((bif (wokF M n 0 false 0) then (wprF M n 0 false 0) else (-10000)) = (-10000))) then none else (some 0)) else (bif (bif (decide ((bif (wokF M n 0 false 0) then (wprF M n 0 false 0) else (-10000)) = (-10000))) then none else (some 0)).isNone then (some 1) else (bif (decide ((bif (decide ((bif (wokF M n 0 false 0) then (wprF M n 0 false 0) else (-10000)) = (-10000))) then (-10000) else (bif (wokF M n 0 false 0) then (wprF M n 0 false 0) else (-10000))) < (bif (wokF M n 0 false 1) then (wprF M n 0 false 1) else (-10000)))) then (some 1) else (bif (decide ((bif (wokF M n 0 false 0) then (wprF M n 0 false 0) else (-10000)) = (-10000))) then none else (some 0))))).isNone then (some 2) else (bif (decide ((bif (decide ((bif (wokF M n 0 false 1) then (wprF M n 0 false 1) else (-10000)) = (-10000))) then (bif (decide ((bif (wokF M n 0 false 0) then (wprF M n 0 false 0) else (-10000)) = (-10000))) then (-10000) else (bif (wokF M n 0 false 0) then (wprF M n 0 false 0) else (-10000))) else (bif (bif (decide ((bif (wokF M n 0 false 0) then (wprF M n 0 false 0) else (-10000)) = (-10000))) then none else (some 0)).isNone then (bif (wokF M n 0 false 1) then (wprF M n 0 false 1) else (-10000)) else (mxc (bif (decide ((bif (wokF M n 0 false 0) then (wprF M n 0 false 0) else (-10000)) = (-10000))) then (-10000) else (bif (wokF M n 0 false 0) then (wprF M n 0 false 0) else (-10000))) (bif (wokF M n 0 false 1) then (wprF M n 0 false 1) else (-10000))))) < (bif (wokF M n 0 false 2) then (wprF M n 0 false 2) else (-10000)))) then (some 2) else (bif (decide ((bif (wokF M n 0 false 1) then (wprF M n 0 false 1) else (-10000)) = (-10000))) then (bif (decide ((bif (wokF M n 0 false 0) then (wprF M n 0 false 0) else (-10000)) = (-10000))) then none else (some 0)) else (bif (bif (decide ((bif (wokF M n 0 false 0) then (wprF M n 0 false 0) else (-10000)) = (-10000))) then none else (some 0)).isNone then (some 1) else (bif (decide ((bif (decide ((bif (wokF M n 0 false 0) then (wprF M n 0 false 0) else (-10000)) = (-10000))) then (-10000) else (bif (wokF M n 0 false 0) then (wprF M n 0 false 0) else (-10000))) < (bif (wokF M n 0 false 1) then (wprF M n 0 false 1) else (-10000)))) then (some 1) else (bif (decide ((bif (wokF M n 0 false 0) then (wprF M n 0 false 0) else (-10000)) = (-10000))) then none else (some 0))))))))), .inl (bif (decide ((bif (wokF M n 0 false 2) then (wprF M n 0 false 2) else (-10000)) = (-10000))) then (bif (decide ((bif (wokF M n 0 false 1) then (wprF M n 0 false 1) else (-10000)) = (-10000))) then (bif (decide ((bif (wokF M n 0 false 0) then (wprF M n 0 false 0) else (-10000)) = (-10000))) then (-10000) else (bif (wokF M n 0 false 0) then (wprF M n 0 false 0) else (-10000))) else (bif (bif (decide ((bif (wokF M n 0 false 0) then (wprF M n 0 false 0) else (-10000)) = (-10000))) then none else (some 0)).isNone then (bif (wokF M n 0 false 1) then (wprF M n 0 false 1) else (-10000)) else (mxc (bif (decide ((bif (wokF M n 0 false 0) then (wprF M n 0 false 0) else (-10000)) = (-10000))) then (-10000) else (bif (wokF M n 0 false 0) then (wprF M n 0 false 0) else (-10000))) (bif (wokF M n 0 false 1) then (wprF M n 0 false 1) else (-10000))))) else (bif (bif (decide ((bif (wokF M n 0 false 1) then (wprF M n 0 false 1) else (-10000)) = (-10000))) then (bif (decide ((bif (wokF M n 0 false 0) then (wprF M n 0 false 0) else (-10000)) = (-10000))) then none else (some 0)) else (bif (bif (decide ((bif (wokF M n 0 false 0) then (wprF M n 0 false 0) else (-10000)) = (-10000))) then none else (some 0)).isNone then (some 1) else (bif (decide ((bif (decide ((bif (wokF M n 0 false 0) then (wprF M n 0 false 0) else (-10000)) = (-10000))) then (-10000) else (bif (wokF M n 0 false 0) then (wprF M n 0 false 0) else (-10000))) < (bif (wokF M n 0 false 1) then (wprF M n 0 false 1) else (-10000)))) then (some 1) else (bif (decide ((bif (wokF M n 0 false 0) then (wprF M n 0 false 0) else (-10000)) = (-10000))) then none else (some 0))))).isNone then (bif (wokF M n 0 false 2) then (wprF M n 0 false 2) else (-10000)) else (mxc (bif (decide ((bif (wokF M n 0 false 1) then (wprF M n 0 false 1) else (-10000)) = (-10000))) then (bif (decide ((bif (wokF M n 0 false 0) then (wprF M n 0 false 0) else (-10000)) = (-10000))) then (-10000) else (bif (wokF M n 0 false 0) then (wprF M n 0 false 0) else (-10000))) else (bif (bif (decide ((bif (wokF M n 0 false 0) then (wprF M n 0 false 0) else (-10000)) = (-10000))) then none else (some 0)).isNone then (bif (wokF M n 0 false 1) then (wprF M n 0 false 1) else (-10000)) else (mxc (bif (decide ((bif (wokF M n 0 false 0) then (wprF M n 0 false 0) else (-10000)) = (-10000))) then (-10000) else (bif (wokF M n 0 false 0) then (wprF M n 0 false 0) else (-10000))) (bif (wokF M n 0 false 1) then (wprF M n 0 false 1) else (-10000))))) (bif (wokF M n 0 false 2) then (wprF M n 0 false 2) else (-10000))))), .inl 2, .inl (bif (wokF M n 0 false 2) then (wprF M n 0 false 2) else (-10000)), .inl (bz (decide ((bif (decide ((bif (wokF M n 0 false 1) then (wprF M n 0 false 1) else (-10000)) = (-10000))) then (bif (decide ((bif (wokF M n 0 false 0) then (wprF M n 0 false 0) else (-10000)) = (-10000))) then (-10000) else (bif (wokF M n 0 false 0) then (wprF M n 0 false 0) else (-10000))) else (bif (bif (decide ((bif (wokF M n 0 false 0) then (wprF M n 0 false 0) else (-10000)) = (-10000))) then none else (some 0)).isNone then (bif (wokF M n 0 false 1) then (wprF M n 0 false 1) else (-10000)) else (mxc (bif (decide ((bif (wokF M n 0 false 0) then (wprF M n 0 false 0) else (-10000)) = (-10000))) then (-10000) else (bif (wokF M n 0 false 0) then (wprF M n 0 false 0) else (-10000))) (bif (wokF M n 0 false 1) then (wprF M n 0 false 1) else (-10000))))) < (bif (wokF M n 0 false 2) then (wprF M n 0 false 2) else (-10000)))))] [] t Q := by
              refine x_iinc (pc' := 87) (y := 3) (ls' := [_, _, _, _, _, _, _, _]) rfl rfl rfl rfl rfl ?_
              refine x_goto (pc' := 10) rfl rfl ?_
              refine x_iload (pc' := 12) rfl rfl rfl ?_
              refine x_iconst (pc' := 13) rfl rfl ?_
              refine x_icmp (a' := 90) (pc' := 16) (z := true) rfl rfl rfl (by decide) (fun _ => ?_) (fun h => by cases h)
              refine x_iload_n (pc' := 91) rfl rfl rfl ?_
              refine x_reti rfl rfl ?_
              exact q (obd_c (obd_c (obd_c obd_n (obd_s (by decide))) (obd_c (obd_s (by decide)) (obd_c (obd_s (by decide)) (obd_c obd_n (obd_s (by decide)))))) (obd_c (obd_s (by decide)) (obd_c (obd_s (by decide)) (obd_c (obd_c obd_n (obd_s (by decide))) (obd_c (obd_s (by decide)) (obd_c (obd_s (by decide)) (obd_c obd_n (obd_s (by decide)))))))))
            refine x_icmp (a' := 84) (pc' := 67) (z := decide ((bif (wokF M n 0 false 2) then (wprF M n 0 false 2) else (-10000)) = (-10000))) rfl rfl rfl rfl (fun q20 => ?_) (fun q20 => ?_)
            · ((try rw [q20] at J22); (try rw [q20]); (try simp only [cd_t, cd_f, nt_t, nt_f, an_t, an_f, or_t, or_f] at J22); (try simp only [cd_t, cd_f, nt_t, nt_f, an_t, an_f, or_t, or_f]); exact J22)
            · refine x_iload_n (pc' := 68) rfl rfl rfl ?_
              refine x_iconst (pc' := 69) rfl rfl ?_
              refine x_icmp (a' := 77) (pc' := 72) (z := (bif (decide ((bif (wokF M n 0 false 1) then (wprF M n 0 false 1) else (-10000)) = (-10000))) then (bif (decide ((bif (wokF M n 0 false 0) then (wprF M n 0 false 0) else (-10000)) = (-10000))) then none else (some 0)) else (bif (bif (decide ((bif (wokF M n 0 false 0) then (wprF M n 0 false 0) else (-10000)) = (-10000))) then none else (some 0)).isNone then (some 1) else (bif (decide ((bif (decide ((bif (wokF M n 0 false 0) then (wprF M n 0 false 0) else (-10000)) = (-10000))) then (-10000) else (bif (wokF M n 0 false 0) then (wprF M n 0 false 0) else (-10000))) < (bif (wokF M n 0 false 1) then (wprF M n 0 false 1) else (-10000)))) then (some 1) else (bif (decide ((bif (wokF M n 0 false 0) then (wprF M n 0 false 0) else (-10000)) = (-10000))) then none else (some 0))))).isNone) rfl rfl rfl (ov_eq (ov_31 (N := 3) (obd_c (obd_c obd_n (obd_s (by decide))) (obd_c (obd_s (by decide)) (obd_c (obd_s (by decide)) (obd_c obd_n (obd_s (by decide)))))) (by decide))) (fun q21 => ?_) (fun q21 => ?_)
              · refine x_iload (pc' := 79) rfl rfl rfl ?_
                refine x_istore_n (pc' := 80) (ls' := [_, _, _, _, _, _, _, _]) rfl rfl rfl rfl ?_
                refine x_iload (pc' := 82) rfl rfl rfl ?_
                refine x_istore (pc' := 84) (ls' := [_, _, _, _, _, _, _, _]) rfl rfl rfl rfl ?_
                ((try rw [q21] at J22); (try rw [q21]); (try rw [q20] at J22); (try rw [q20]); (try simp only [cd_t, cd_f, nt_t, nt_f, an_t, an_f, or_t, or_f] at J22); (try simp only [cd_t, cd_f, nt_t, nt_f, an_t, an_f, or_t, or_f]); exact J22)
              · refine x_iload (pc' := 74) rfl rfl rfl ?_
                refine x_ifeq_z (a' := 84) (pc' := 77) (z := (decide ((bif (decide ((bif (wokF M n 0 false 1) then (wprF M n 0 false 1) else (-10000)) = (-10000))) then (bif (decide ((bif (wokF M n 0 false 0) then (wprF M n 0 false 0) else (-10000)) = (-10000))) then (-10000) else (bif (wokF M n 0 false 0) then (wprF M n 0 false 0) else (-10000))) else (bif (bif (decide ((bif (wokF M n 0 false 0) then (wprF M n 0 false 0) else (-10000)) = (-10000))) then none else (some 0)).isNone then (bif (wokF M n 0 false 1) then (wprF M n 0 false 1) else (-10000)) else (mxc (bif (decide ((bif (wokF M n 0 false 0) then (wprF M n 0 false 0) else (-10000)) = (-10000))) then (-10000) else (bif (wokF M n 0 false 0) then (wprF M n 0 false 0) else (-10000))) (bif (wokF M n 0 false 1) then (wprF M n 0 false 1) else (-10000))))) < (bif (wokF M n 0 false 2) then (wprF M n 0 false 2) else (-10000))))) rfl rfl rfl (fun q22 => ?_) (fun q22 => ?_)
                · ((try rw [q22] at J22); (try rw [q22]); (try rw [q21] at J22); (try rw [q21]); (try rw [q20] at J22); (try rw [q20]); (try simp only [cd_t, cd_f, nt_t, nt_f, an_t, an_f, or_t, or_f] at J22); (try simp only [cd_t, cd_f, nt_t, nt_f, an_t, an_f, or_t, or_f]); exact J22)
                · refine x_iload (pc' := 79) rfl rfl rfl ?_
                  refine x_istore_n (pc' := 80) (ls' := [_, _, _, _, _, _, _, _]) rfl rfl rfl rfl ?_
                  refine x_iload (pc' := 82) rfl rfl rfl ?_
                  refine x_istore (pc' := 84) (ls' := [_, _, _, _, _, _, _, _]) rfl rfl rfl rfl ?_
                  ((try rw [q22] at J22); (try rw [q22]); (try rw [q21] at J22); (try rw [q21]); (try rw [q20] at J22); (try rw [q20]); (try simp only [cd_t, cd_f, nt_t, nt_f, an_t, an_f, or_t, or_f] at J22); (try simp only [cd_t, cd_f, nt_t, nt_f, an_t, an_f, or_t, or_f]); exact J22)
          refine x_icmp_n (a' := 56) (pc' := 52) (z := decide ((bif (decide ((bif (wokF M n 0 false 1) then (wprF M n 0 false 1) else (-10000)) = (-10000))) then (bif (decide ((bif (wokF M n 0 false 0) then (wprF M n 0 false 0) else (-10000)) = (-10000))) then (-10000) else (bif (wokF M n 0 false 0) then (wprF M n 0 false 0) else (-10000))) else (bif (bif (decide ((bif (wokF M n 0 false 0) then (wprF M n 0 false 0) else (-10000)) = (-10000))) then none else (some 0)).isNone then (bif (wokF M n 0 false 1) then (wprF M n 0 false 1) else (-10000)) else (mxc (bif (decide ((bif (wokF M n 0 false 0) then (wprF M n 0 false 0) else (-10000)) = (-10000))) then (-10000) else (bif (wokF M n 0 false 0) then (wprF M n 0 false 0) else (-10000))) (bif (wokF M n 0 false 1) then (wprF M n 0 false 1) else (-10000))))) < (bif (wokF M n 0 false 2) then (wprF M n 0 false 2) else (-10000)))) rfl rfl rfl (ik_le _ _) (fun q18 => ?_) (fun q18 => ?_)
          · refine x_iconst (pc' := 57) rfl rfl ?_
            ((try rw [mxc_f q18] at J18); (try rw [q18] at J18); (try rw [q18]); (try simp only [cd_t, cd_f, nt_t, nt_f, an_t, an_f, or_t, or_f] at J18); (try simp only [cd_t, cd_f, nt_t, nt_f, an_t, an_f, or_t, or_f]); exact J18)
          · refine x_iconst (pc' := 53) rfl rfl ?_
            refine x_goto (pc' := 57) rfl rfl ?_
            ((try rw [mxc_t q18] at J18); (try rw [q18] at J18); (try rw [q18]); (try simp only [cd_t, cd_f, nt_t, nt_f, an_t, an_f, or_t, or_f] at J18); (try simp only [cd_t, cd_f, nt_t, nt_f, an_t, an_f, or_t, or_f]); exact J18)
        refine x_icmp (a' := 84) (pc' := 67) (z := decide ((bif (wokF M n 0 false 1) then (wprF M n 0 false 1) else (-10000)) = (-10000))) rfl rfl rfl rfl (fun q12 => ?_) (fun q12 => ?_)
        · ((try rw [q12] at J14); (try rw [q12]); (try simp only [cd_t, cd_f, nt_t, nt_f, an_t, an_f, or_t, or_f] at J14); (try simp only [cd_t, cd_f, nt_t, nt_f, an_t, an_f, or_t, or_f]); exact J14)
        · refine x_iload_n (pc' := 68) rfl rfl rfl ?_
          refine x_iconst (pc' := 69) rfl rfl ?_
          refine x_icmp (a' := 77) (pc' := 72) (z := (bif (decide ((bif (wokF M n 0 false 0) then (wprF M n 0 false 0) else (-10000)) = (-10000))) then none else (some 0)).isNone) rfl rfl rfl (ov_eq (ov_31 (N := 3) (obd_c obd_n (obd_s (by decide))) (by decide))) (fun q13 => ?_) (fun q13 => ?_)
          · refine x_iload (pc' := 79) rfl rfl rfl ?_
            refine x_istore_n (pc' := 80) (ls' := [_, _, _, _, _, _, _, _]) rfl rfl rfl rfl ?_
            refine x_iload (pc' := 82) rfl rfl rfl ?_
            refine x_istore (pc' := 84) (ls' := [_, _, _, _, _, _, _, _]) rfl rfl rfl rfl ?_
            ((try rw [q13] at J14); (try rw [q13]); (try rw [q12] at J14); (try rw [q12]); (try simp only [cd_t, cd_f, nt_t, nt_f, an_t, an_f, or_t, or_f] at J14); (try simp only [cd_t, cd_f, nt_t, nt_f, an_t, an_f, or_t, or_f]); exact J14)
          · refine x_iload (pc' := 74) rfl rfl rfl ?_
            refine x_ifeq_z (a' := 84) (pc' := 77) (z := (decide ((bif (decide ((bif (wokF M n 0 false 0) then (wprF M n 0 false 0) else (-10000)) = (-10000))) then (-10000) else (bif (wokF M n 0 false 0) then (wprF M n 0 false 0) else (-10000))) < (bif (wokF M n 0 false 1) then (wprF M n 0 false 1) else (-10000))))) rfl rfl rfl (fun q14 => ?_) (fun q14 => ?_)
            · ((try rw [q14] at J14); (try rw [q14]); (try rw [q13] at J14); (try rw [q13]); (try rw [q12] at J14); (try rw [q12]); (try simp only [cd_t, cd_f, nt_t, nt_f, an_t, an_f, or_t, or_f] at J14); (try simp only [cd_t, cd_f, nt_t, nt_f, an_t, an_f, or_t, or_f]); exact J14)
            · refine x_iload (pc' := 79) rfl rfl rfl ?_
              refine x_istore_n (pc' := 80) (ls' := [_, _, _, _, _, _, _, _]) rfl rfl rfl rfl ?_
              refine x_iload (pc' := 82) rfl rfl rfl ?_
              refine x_istore (pc' := 84) (ls' := [_, _, _, _, _, _, _, _]) rfl rfl rfl rfl ?_
              ((try rw [q14] at J14); (try rw [q14]); (try rw [q13] at J14); (try rw [q13]); (try rw [q12] at J14); (try rw [q12]); (try simp only [cd_t, cd_f, nt_t, nt_f, an_t, an_f, or_t, or_f] at J14); (try simp only [cd_t, cd_f, nt_t, nt_f, an_t, an_f, or_t, or_f]); exact J14)
      refine x_icmp_n (a' := 56) (pc' := 52) (z := decide ((bif (decide ((bif (wokF M n 0 false 0) then (wprF M n 0 false 0) else (-10000)) = (-10000))) then (-10000) else (bif (wokF M n 0 false 0) then (wprF M n 0 false 0) else (-10000))) < (bif (wokF M n 0 false 1) then (wprF M n 0 false 1) else (-10000)))) rfl rfl rfl (ik_le _ _) (fun q10 => ?_) (fun q10 => ?_)
      · refine x_iconst (pc' := 57) rfl rfl ?_
        ((try rw [mxc_f q10] at J10); (try rw [q10] at J10); (try rw [q10]); (try simp only [cd_t, cd_f, nt_t, nt_f, an_t, an_f, or_t, or_f] at J10); (try simp only [cd_t, cd_f, nt_t, nt_f, an_t, an_f, or_t, or_f]); exact J10)
      · refine x_iconst (pc' := 53) rfl rfl ?_
        refine x_goto (pc' := 57) rfl rfl ?_
        ((try rw [mxc_t q10] at J10); (try rw [q10] at J10); (try rw [q10]); (try simp only [cd_t, cd_f, nt_t, nt_f, an_t, an_f, or_t, or_f] at J10); (try simp only [cd_t, cd_f, nt_t, nt_f, an_t, an_f, or_t, or_f]); exact J10)
    refine x_icmp (a' := 84) (pc' := 67) (z := decide ((bif (wokF M n 0 false 0) then (wprF M n 0 false 0) else (-10000)) = (-10000))) rfl rfl rfl rfl (fun q5 => ?_) (fun q5 => ?_)
    · ((try rw [q5] at J6); (try rw [q5]); (try simp only [cd_t, cd_f, nt_t, nt_f, an_t, an_f, or_t, or_f] at J6); (try simp only [cd_t, cd_f, nt_t, nt_f, an_t, an_f, or_t, or_f]); exact J6)
    · refine x_iload_n (pc' := 68) rfl rfl rfl ?_
      refine x_iconst (pc' := 69) rfl rfl ?_
      refine x_icmp (a' := 77) (pc' := 72) (z := true) rfl rfl rfl (by decide) (fun _ => ?_) (fun h => by cases h)
      refine x_iload (pc' := 79) rfl rfl rfl ?_
      refine x_istore_n (pc' := 80) (ls' := [_, _, _, _, _, _, _, _]) rfl rfl rfl rfl ?_
      refine x_iload (pc' := 82) rfl rfl rfl ?_
      refine x_istore (pc' := 84) (ls' := [_, _, _, _, _, _, _, _]) rfl rfl rfl rfl ?_
      ((try rw [q5] at J6); (try rw [q5]); (try simp only [cd_t, cd_f, nt_t, nt_f, an_t, an_f, or_t, or_f] at J6); (try simp only [cd_t, cd_f, nt_t, nt_f, an_t, an_f, or_t, or_f]); exact J6)
  refine x_icmp_n (a' := 56) (pc' := 52) (z := decide ((-10000) < (bif (wokF M n 0 false 0) then (wprF M n 0 false 0) else (-10000)))) rfl rfl rfl (ik_le _ _) (fun q3 => ?_) (fun q3 => ?_)
  · refine x_iconst (pc' := 57) rfl rfl ?_
    ((try rw [q3] at J3); (try rw [q3]); (try simp only [cd_t, cd_f, nt_t, nt_f, an_t, an_f, or_t, or_f] at J3); (try simp only [cd_t, cd_f, nt_t, nt_f, an_t, an_f, or_t, or_f]); exact J3)
  · refine x_iconst (pc' := 53) rfl rfl ?_
    refine x_goto (pc' := 57) rfl rfl ?_
    ((try rw [q3] at J3); (try rw [q3]); (try simp only [cd_t, cd_f, nt_t, nt_f, an_t, an_f, or_t, or_f] at J3); (try simp only [cd_t, cd_f, nt_t, nt_f, an_t, an_f, or_t, or_f]); exact J3)
def cb0tF (M : sM) (n : Nat) : Option Nat := (bif (decide ((bif (wokF M n 0 true 2) then (wprF M n 0 true 2) else (-10000)) = (-10000))) then (bif (decide ((bif (wokF M n 0 true 1) then (wprF M n 0 true 1) else (-10000)) = (-10000))) then (bif (decide ((bif (wokF M n 0 true 0) then (wprF M n 0 true 0) else (-10000)) = (-10000))) then none else (some 0)) else (bif (bif (decide ((bif (wokF M n 0 true 0) then (wprF M n 0 true 0) else (-10000)) = (-10000))) then none else (some 0)).isNone then (some 1) else (bif (decide ((bif (wokF M n 0 true 1) then (wprF M n 0 true 1) else (-10000)) < (bif (decide ((bif (wokF M n 0 true 0) then (wprF M n 0 true 0) else (-10000)) = (-10000))) then (-10000) else (bif (wokF M n 0 true 0) then (wprF M n 0 true 0) else (-10000))))) then (some 1) else (bif (decide ((bif (wokF M n 0 true 0) then (wprF M n 0 true 0) else (-10000)) = (-10000))) then none else (some 0))))) else (bif (bif (decide ((bif (wokF M n 0 true 1) then (wprF M n 0 true 1) else (-10000)) = (-10000))) then (bif (decide ((bif (wokF M n 0 true 0) then (wprF M n 0 true 0) else (-10000)) = (-10000))) then none else (some 0)) else (bif (bif (decide ((bif (wokF M n 0 true 0) then (wprF M n 0 true 0) else (-10000)) = (-10000))) then none else (some 0)).isNone then (some 1) else (bif (decide ((bif (wokF M n 0 true 1) then (wprF M n 0 true 1) else (-10000)) < (bif (decide ((bif (wokF M n 0 true 0) then (wprF M n 0 true 0) else (-10000)) = (-10000))) then (-10000) else (bif (wokF M n 0 true 0) then (wprF M n 0 true 0) else (-10000))))) then (some 1) else (bif (decide ((bif (wokF M n 0 true 0) then (wprF M n 0 true 0) else (-10000)) = (-10000))) then none else (some 0))))).isNone then (some 2) else (bif (decide ((bif (wokF M n 0 true 2) then (wprF M n 0 true 2) else (-10000)) < (bif (decide ((bif (wokF M n 0 true 1) then (wprF M n 0 true 1) else (-10000)) = (-10000))) then (bif (decide ((bif (wokF M n 0 true 0) then (wprF M n 0 true 0) else (-10000)) = (-10000))) then (-10000) else (bif (wokF M n 0 true 0) then (wprF M n 0 true 0) else (-10000))) else (bif (bif (decide ((bif (wokF M n 0 true 0) then (wprF M n 0 true 0) else (-10000)) = (-10000))) then none else (some 0)).isNone then (bif (wokF M n 0 true 1) then (wprF M n 0 true 1) else (-10000)) else (mnc (bif (wokF M n 0 true 1) then (wprF M n 0 true 1) else (-10000)) (bif (decide ((bif (wokF M n 0 true 0) then (wprF M n 0 true 0) else (-10000)) = (-10000))) then (-10000) else (bif (wokF M n 0 true 0) then (wprF M n 0 true 0) else (-10000)))))))) then (some 2) else (bif (decide ((bif (wokF M n 0 true 1) then (wprF M n 0 true 1) else (-10000)) = (-10000))) then (bif (decide ((bif (wokF M n 0 true 0) then (wprF M n 0 true 0) else (-10000)) = (-10000))) then none else (some 0)) else (bif (bif (decide ((bif (wokF M n 0 true 0) then (wprF M n 0 true 0) else (-10000)) = (-10000))) then none else (some 0)).isNone then (some 1) else (bif (decide ((bif (wokF M n 0 true 1) then (wprF M n 0 true 1) else (-10000)) < (bif (decide ((bif (wokF M n 0 true 0) then (wprF M n 0 true 0) else (-10000)) = (-10000))) then (-10000) else (bif (wokF M n 0 true 0) then (wprF M n 0 true 0) else (-10000))))) then (some 1) else (bif (decide ((bif (wokF M n 0 true 0) then (wprF M n 0 true 0) else (-10000)) = (-10000))) then none else (some 0))))))))
set_option maxHeartbeats 4000000 in
set_option maxRecDepth 10000 in
theorem c82_0t {t : sT} {Q : sRs → sT → Prop} {M : sM} {n : Nat} {T : Nat}
    (hM : Rl t M n T)
    (hc : Sf t M n T)
    (hR : Ri M n)
    (hC : rlC t M n)
    (q : (∀ j, cb0tF M n = some j → j < 3) → Q (.inl (some (.inl (ov (cb0tF M n))))) t) :
    X 82 0 [.inr (.inr (10, (some 0))), .inr (.inr (1, (some 0))), .inl (bz true), sJk, sJk, sJk, sJk, sJk] [] t Q := by
  refine x_iconst (pc' := 1) rfl rfl ?_
  refine x_istore_n (pc' := 2) (ls' := [_, _, _, _, _, _, _, _]) rfl rfl rfl rfl ?_
  refine x_sipush (pc' := 5) rfl rfl ?_
  refine x_istore (pc' := 7) (ls' := [_, _, _, _, _, _, _, _]) rfl rfl rfl rfl ?_
  refine x_iconst (pc' := 8) rfl rfl ?_
  refine x_istore (pc' := 10) (ls' := [_, _, _, _, _, _, _, _]) rfl rfl rfl rfl ?_
  refine x_iload (pc' := 12) rfl rfl rfl ?_
  refine x_iconst (pc' := 13) rfl rfl ?_
  refine x_icmp (a' := 90) (pc' := 16) (z := false) rfl rfl rfl (by decide) (fun h => by cases h) (fun _ => ?_)
  refine x_aload_n (pc' := 17) rfl rfl rfl rfl rfl ?_
  refine x_aload_n (pc' := 18) rfl rfl rfl rfl rfl ?_
  refine x_iload (pc' := 20) rfl rfl rfl ?_
  refine x_iload_n (pc' := 21) rfl rfl rfl ?_
  refine x_cv (ls0 := [_, _, _, _, sJk, sJk, sJk, sJk]) (rest := []) rfl rfl rfl rfl rfl ?_
  refine c81_00t hM hc (Fc.ri (Fc.refl _) hR) hC ?_
  rw [cp00tF_e]
  refine sK_i (pc' := 24) rfl ?_
  refine x_istore (pc' := 26) (ls' := [_, _, _, _, _, _, _, _]) rfl rfl rfl rfl ?_
  refine x_iload_n (pc' := 27) rfl rfl rfl ?_
  refine x_if (a' := 45) (pc' := 30) (z := false) rfl rfl rfl (by decide) (fun h => by cases h) (fun _ => ?_)
  refine x_iload (pc' := 32) rfl rfl rfl ?_
  refine x_iload (pc' := 34) rfl rfl rfl ?_
  have J3 : X 82 57 [.inr (.inr (10, (some 0))), .inr (.inr (1, (some 0))), .inl (bz true), .inl (-1), .inl (-10000), .inl 0, .inl (bif (wokF M n 0 true 0) then (wprF M n 0 true 0) else (-10000)), sJk] [.inl (bz (decide ((bif (wokF M n 0 true 0) then (wprF M n 0 true 0) else (-10000)) < (-10000))))] t Q := by
    refine x_istore (pc' := 59) (ls' := [_, _, _, _, _, _, _, _]) rfl rfl rfl rfl ?_
    refine x_iload (pc' := 61) rfl rfl rfl ?_
    refine x_sipush (pc' := 64) rfl rfl ?_
    have J6 : X 82 84 [.inr (.inr (10, (some 0))), .inr (.inr (1, (some 0))), .inl (bz true), .inl (ov (bif (decide ((bif (wokF M n 0 true 0) then (wprF M n 0 true 0) else (-10000)) = (-10000))) then none else (some 0))), .inl (bif (decide ((bif (wokF M n 0 true 0) then (wprF M n 0 true 0) else (-10000)) = (-10000))) then (-10000) else (bif (wokF M n 0 true 0) then (wprF M n 0 true 0) else (-10000))), .inl 0, .inl (bif (wokF M n 0 true 0) then (wprF M n 0 true 0) else (-10000)), .inl (bz (decide ((bif (wokF M n 0 true 0) then (wprF M n 0 true 0) else (-10000)) < (-10000))))] [] t Q := by
      refine x_iinc (pc' := 87) (y := 1) (ls' := [_, _, _, _, _, _, _, _]) rfl rfl rfl rfl rfl ?_
      refine x_goto (pc' := 10) rfl rfl ?_
      refine x_iload (pc' := 12) rfl rfl rfl ?_
      refine x_iconst (pc' := 13) rfl rfl ?_
      refine x_icmp (a' := 90) (pc' := 16) (z := false) rfl rfl rfl (by decide) (fun h => by cases h) (fun _ => ?_)
      refine x_aload_n (pc' := 17) rfl rfl rfl rfl rfl ?_
      refine x_aload_n (pc' := 18) rfl rfl rfl rfl rfl ?_
      refine x_iload (pc' := 20) rfl rfl rfl ?_
      refine x_iload_n (pc' := 21) rfl rfl rfl ?_
      refine x_cv (ls0 := [_, _, _, _, sJk, sJk, sJk, sJk]) (rest := []) rfl rfl rfl rfl rfl ?_
      refine c81_01t hM hc (Fc.ri (Fc.refl _) hR) hC ?_
      rw [cp01tF_e]
      refine sK_i (pc' := 24) rfl ?_
      refine x_istore (pc' := 26) (ls' := [_, _, _, _, _, _, _, _]) rfl rfl rfl rfl ?_
      refine x_iload_n (pc' := 27) rfl rfl rfl ?_
      refine x_if (a' := 45) (pc' := 30) (z := false) rfl rfl rfl (by decide) (fun h => by cases h) (fun _ => ?_)
      refine x_iload (pc' := 32) rfl rfl rfl ?_
      refine x_iload (pc' := 34) rfl rfl rfl ?_
      have J10 : X 82 57 [.inr (.inr (10, (some 0))), .inr (.inr (1, (some 0))), .inl (bz true), .inl (ov (bif (decide ((bif (wokF M n 0 true 0) then (wprF M n 0 true 0) else (-10000)) = (-10000))) then none else (some 0))), .inl (bif (decide ((bif (wokF M n 0 true 0) then (wprF M n 0 true 0) else (-10000)) = (-10000))) then (-10000) else (bif (wokF M n 0 true 0) then (wprF M n 0 true 0) else (-10000))), .inl 1, .inl (bif (wokF M n 0 true 1) then (wprF M n 0 true 1) else (-10000)), .inl (bz (decide ((bif (wokF M n 0 true 0) then (wprF M n 0 true 0) else (-10000)) < (-10000))))] [.inl (bz (decide ((bif (wokF M n 0 true 1) then (wprF M n 0 true 1) else (-10000)) < (bif (decide ((bif (wokF M n 0 true 0) then (wprF M n 0 true 0) else (-10000)) = (-10000))) then (-10000) else (bif (wokF M n 0 true 0) then (wprF M n 0 true 0) else (-10000))))))] t Q := by
        refine x_istore (pc' := 59) (ls' := [_, _, _, _, _, _, _, _]) rfl rfl rfl rfl ?_
        refine x_iload (pc' := 61) rfl rfl rfl ?_
        refine x_sipush (pc' := 64) rfl rfl ?_
        have J14 : X 82 84 [.inr (.inr (10, (some 0))), .inr (.inr (1, (some 0))), .inl (bz true), .inl (ov (bif (decide ((bif (wokF M n 0 true 1) then (wprF M n 0 true 1) else (-10000)) = (-10000))) then (bif (decide ((bif (wokF M n 0 true 0) then (wprF M n 0 true 0) else (-10000)) = (-10000))) then none else (some 0)) else (bif (bif (decide ((bif (wokF M n 0 true 0) then (wprF M n 0 true 0) else (-10000)) = (-10000))) then none else (some 0)).isNone then (some 1) else (bif (decide ((bif (wokF M n 0 true 1) then (wprF M n 0 true 1) else (-10000)) < (bif (decide ((bif (wokF M n 0 true 0) then (wprF M n 0 true 0) else (-10000)) = (-10000))) then (-10000) else (bif (wokF M n 0 true 0) then (wprF M n 0 true 0) else (-10000))))) then (some 1) else (bif (decide ((bif (wokF M n 0 true 0) then (wprF M n 0 true 0) else (-10000)) = (-10000))) then none else (some 0)))))), .inl (bif (decide ((bif (wokF M n 0 true 1) then (wprF M n 0 true 1) else (-10000)) = (-10000))) then (bif (decide ((bif (wokF M n 0 true 0) then (wprF M n 0 true 0) else (-10000)) = (-10000))) then (-10000) else (bif (wokF M n 0 true 0) then (wprF M n 0 true 0) else (-10000))) else (bif (bif (decide ((bif (wokF M n 0 true 0) then (wprF M n 0 true 0) else (-10000)) = (-10000))) then none else (some 0)).isNone then (bif (wokF M n 0 true 1) then (wprF M n 0 true 1) else (-10000)) else (mnc (bif (wokF M n 0 true 1) then (wprF M n 0 true 1) else (-10000)) (bif (decide ((bif (wokF M n 0 true 0) then (wprF M n 0 true 0) else (-10000)) = (-10000))) then (-10000) else (bif (wokF M n 0 true 0) then (wprF M n 0 true 0) else (-10000)))))), .inl 1, .inl (bif (wokF M n 0 true 1) then (wprF M n 0 true 1) else (-10000)), .inl (bz (decide ((bif (wokF M n 0 true 1) then (wprF M n 0 true 1) else (-10000)) < (bif (decide ((bif (wokF M n 0 true 0) then (wprF M n 0 true 0) else (-10000)) = (-10000))) then (-10000) else (bif (wokF M n 0 true 0) then (wprF M n 0 true 0) else (-10000))))))] [] t Q := by
          refine x_iinc (pc' := 87) (y := 2) (ls' := [_, _, _, _, _, _, _, _]) rfl rfl rfl rfl rfl ?_
          refine x_goto (pc' := 10) rfl rfl ?_
          refine x_iload (pc' := 12) rfl rfl rfl ?_
          refine x_iconst (pc' := 13) rfl rfl ?_
          refine x_icmp (a' := 90) (pc' := 16) (z := false) rfl rfl rfl (by decide) (fun h => by cases h) (fun _ => ?_)
          refine x_aload_n (pc' := 17) rfl rfl rfl rfl rfl ?_
          refine x_aload_n (pc' := 18) rfl rfl rfl rfl rfl ?_
          refine x_iload (pc' := 20) rfl rfl rfl ?_
          refine x_iload_n (pc' := 21) rfl rfl rfl ?_
          refine x_cv (ls0 := [_, _, _, _, sJk, sJk, sJk, sJk]) (rest := []) rfl rfl rfl rfl rfl ?_
          refine c81_02t hM hc (Fc.ri (Fc.refl _) hR) hC ?_
          rw [cp02tF_e]
          refine sK_i (pc' := 24) rfl ?_
          refine x_istore (pc' := 26) (ls' := [_, _, _, _, _, _, _, _]) rfl rfl rfl rfl ?_
          refine x_iload_n (pc' := 27) rfl rfl rfl ?_
          refine x_if (a' := 45) (pc' := 30) (z := false) rfl rfl rfl (by decide) (fun h => by cases h) (fun _ => ?_)
          refine x_iload (pc' := 32) rfl rfl rfl ?_
          refine x_iload (pc' := 34) rfl rfl rfl ?_
          have J18 : X 82 57 [.inr (.inr (10, (some 0))), .inr (.inr (1, (some 0))), .inl (bz true), .inl (ov (bif (decide ((bif (wokF M n 0 true 1) then (wprF M n 0 true 1) else (-10000)) = (-10000))) then (bif (decide ((bif (wokF M n 0 true 0) then (wprF M n 0 true 0) else (-10000)) = (-10000))) then none else (some 0)) else (bif (bif (decide ((bif (wokF M n 0 true 0) then (wprF M n 0 true 0) else (-10000)) = (-10000))) then none else (some 0)).isNone then (some 1) else (bif (decide ((bif (wokF M n 0 true 1) then (wprF M n 0 true 1) else (-10000)) < (bif (decide ((bif (wokF M n 0 true 0) then (wprF M n 0 true 0) else (-10000)) = (-10000))) then (-10000) else (bif (wokF M n 0 true 0) then (wprF M n 0 true 0) else (-10000))))) then (some 1) else (bif (decide ((bif (wokF M n 0 true 0) then (wprF M n 0 true 0) else (-10000)) = (-10000))) then none else (some 0)))))), .inl (bif (decide ((bif (wokF M n 0 true 1) then (wprF M n 0 true 1) else (-10000)) = (-10000))) then (bif (decide ((bif (wokF M n 0 true 0) then (wprF M n 0 true 0) else (-10000)) = (-10000))) then (-10000) else (bif (wokF M n 0 true 0) then (wprF M n 0 true 0) else (-10000))) else (bif (bif (decide ((bif (wokF M n 0 true 0) then (wprF M n 0 true 0) else (-10000)) = (-10000))) then none else (some 0)).isNone then (bif (wokF M n 0 true 1) then (wprF M n 0 true 1) else (-10000)) else (mnc (bif (wokF M n 0 true 1) then (wprF M n 0 true 1) else (-10000)) (bif (decide ((bif (wokF M n 0 true 0) then (wprF M n 0 true 0) else (-10000)) = (-10000))) then (-10000) else (bif (wokF M n 0 true 0) then (wprF M n 0 true 0) else (-10000)))))), .inl 2, .inl (bif (wokF M n 0 true 2) then (wprF M n 0 true 2) else (-10000)), .inl (bz (decide ((bif (wokF M n 0 true 1) then (wprF M n 0 true 1) else (-10000)) < (bif (decide ((bif (wokF M n 0 true 0) then (wprF M n 0 true 0) else (-10000)) = (-10000))) then (-10000) else (bif (wokF M n 0 true 0) then (wprF M n 0 true 0) else (-10000))))))] [.inl (bz (decide ((bif (wokF M n 0 true 2) then (wprF M n 0 true 2) else (-10000)) < (bif (decide ((bif (wokF M n 0 true 1) then (wprF M n 0 true 1) else (-10000)) = (-10000))) then (bif (decide ((bif (wokF M n 0 true 0) then (wprF M n 0 true 0) else (-10000)) = (-10000))) then (-10000) else (bif (wokF M n 0 true 0) then (wprF M n 0 true 0) else (-10000))) else (bif (bif (decide ((bif (wokF M n 0 true 0) then (wprF M n 0 true 0) else (-10000)) = (-10000))) then none else (some 0)).isNone then (bif (wokF M n 0 true 1) then (wprF M n 0 true 1) else (-10000)) else (mnc (bif (wokF M n 0 true 1) then (wprF M n 0 true 1) else (-10000)) (bif (decide ((bif (wokF M n 0 true 0) then (wprF M n 0 true 0) else (-10000)) = (-10000))) then (-10000) else (bif (wokF M n 0 true 0) then (wprF M n 0 true 0) else (-10000)))))))))] t Q := by
            refine x_istore (pc' := 59) (ls' := [_, _, _, _, _, _, _, _]) rfl rfl rfl rfl ?_
            refine x_iload (pc' := 61) rfl rfl rfl ?_
            refine x_sipush (pc' := 64) rfl rfl ?_
            have J22 : X 82 84 [.inr (.inr (10, (some 0))), .inr (.inr (1, (some 0))), .inl (bz true), .inl (ov (bif (decide ((bif (wokF M n 0 true 2) then (wprF M n 0 true 2) else (-10000)) = (-10000))) then (bif (decide ((bif (wokF M n 0 true 1) then (wprF M n 0 true 1) else (-10000)) = (-10000))) then (bif (decide ((bif (wokF M n 0 true 0) then (wprF M n 0 true 0) else (-10000)) = (-10000))) then none else (some 0)) else (bif (bif (decide ((bif (wokF M n 0 true 0) then (wprF M n 0 true 0) else (-10000)) = (-10000))) then none else (some 0)).isNone then (some 1) else (bif (decide ((bif (wokF M n 0 true 1) then (wprF M n 0 true 1) else (-10000)) < (bif (decide ((bif (wokF M n 0 true 0) then (wprF M n 0 true 0) else (-10000)) = (-10000))) then (-10000) else (bif (wokF M n 0 true 0) then (wprF M n 0 true 0) else (-10000))))) then (some 1) else (bif (decide ((bif (wokF M n 0 true 0) then (wprF M n 0 true 0) else (-10000)) = (-10000))) then none else (some 0))))) else (bif (bif (decide ((bif (wokF M n 0 true 1) then (wprF M n 0 true 1) else (-10000)) = (-10000))) then (bif (decide ((bif (wokF M n 0 true 0) then (wprF M n 0 true 0) else (-10000)) = (-10000))) then none else (some 0)) else (bif (bif (decide ((bif (wokF M n 0 true 0) then (wprF M n 0 true 0) else (-10000)) = (-10000))) then none else (some 0)).isNone then (some 1) else (bif (decide ((bif (wokF M n 0 true 1) then (wprF M n 0 true 1) else (-10000)) < (bif (decide ((bif (wokF M n 0 true 0) then (wprF M n 0 true 0) else (-10000)) = (-10000))) then (-10000) else (bif (wokF M n 0 true 0) then (wprF M n 0 true 0) else (-10000))))) then (some 1) else (bif (decide ((bif (wokF M n 0 true 0) then (wprF M n 0 true 0) else (-10000)) = (-10000))) then none else (some 0))))).isNone then (some 2) else (bif (decide ((bif (wokF M n 0 true 2) then (wprF M n 0 true 2) else (-10000)) < (bif (decide ((bif (wokF M n 0 true 1) then (wprF M n 0 true 1) else (-10000)) = (-10000))) then (bif (decide ((bif (wokF M n 0 true 0) then (wprF M n 0 true 0) else (-10000)) = (-10000))) then (-10000) else (bif (wokF M n 0 true 0) then (wprF M n 0 true 0) else (-10000))) else (bif (bif (decide ((bif (wokF M n 0 true 0) then (wprF M n 0 true 0) else (-10000)) = (-10000))) then none else (some 0)).isNone then (bif (wokF M n 0 true 1) then (wprF M n 0 true 1) else (-10000)) else (mnc (bif (wokF M n 0 true 1) then (wprF M n 0 true 1) else (-10000)) (bif (decide ((bif (wokF M n 0 true 0) then (wprF M n 0 true 0) else (-10000)) = (-10000))) then (-10000) else (bif (wokF M n 0 true 0) then (wprF M n 0 true 0) else (-10000)))))))) then (some 2) else (bif (decide ((bif (wokF M n 0 true 1) then (wprF M n 0 true 1) else (-10000)) = (-10000))) then (bif (decide ((bif (wokF M n 0 true 0) then (wprF M n 0 true 0) else (-10000)) = (-10000))) then none else (some 0)) else (bif (bif (decide ((bif (wokF M n 0 true 0) then (wprF M n 0 true 0) else (-10000)) = (-10000))) then none else (some 0)).isNone then (some 1) else (bif (decide ((bif (wokF M n 0 true 1) then (wprF M n 0 true 1) else (-10000)) < (bif (decide ((bif (wokF M n 0 true 0) then (wprF M n 0 true 0) else (-10000)) = (-10000))) then (-10000) else (bif (wokF M n 0 true 0) then (wprF M n 0 true 0) else (-10000))))) then (some 1) else (bif (decide ((bif (wokF M n 0 true 0) then (wprF M n 0 true 0) else (-10000)) = (-10000))) then none else (some 0))))))))), .inl (bif (decide ((bif (wokF M n 0 true 2) then (wprF M n 0 true 2) else (-10000)) = (-10000))) then (bif (decide ((bif (wokF M n 0 true 1) then (wprF M n 0 true 1) else (-10000)) = (-10000))) then (bif (decide ((bif (wokF M n 0 true 0) then (wprF M n 0 true 0) else (-10000)) = (-10000))) then (-10000) else (bif (wokF M n 0 true 0) then (wprF M n 0 true 0) else (-10000))) else (bif (bif (decide ((bif (wokF M n 0 true 0) then (wprF M n 0 true 0) else (-10000)) = (-10000))) then none else (some 0)).isNone then (bif (wokF M n 0 true 1) then (wprF M n 0 true 1) else (-10000)) else (mnc (bif (wokF M n 0 true 1) then (wprF M n 0 true 1) else (-10000)) (bif (decide ((bif (wokF M n 0 true 0) then (wprF M n 0 true 0) else (-10000)) = (-10000))) then (-10000) else (bif (wokF M n 0 true 0) then (wprF M n 0 true 0) else (-10000)))))) else (bif (bif (decide ((bif (wokF M n 0 true 1) then (wprF M n 0 true 1) else (-10000)) = (-10000))) then (bif (decide ((bif (wokF M n 0 true 0) then (wprF M n 0 true 0) else (-10000)) = (-10000))) then none else (some 0)) else (bif (bif (decide ((bif (wokF M n 0 true 0) then (wprF M n 0 true 0) else (-10000)) = (-10000))) then none else (some 0)).isNone then (some 1) else (bif (decide ((bif (wokF M n 0 true 1) then (wprF M n 0 true 1) else (-10000)) < (bif (decide ((bif (wokF M n 0 true 0) then (wprF M n 0 true 0) else (-10000)) = (-10000))) then (-10000) else (bif (wokF M n 0 true 0) then (wprF M n 0 true 0) else (-10000))))) then (some 1) else (bif (decide ((bif (wokF M n 0 true 0) then (wprF M n 0 true 0) else (-10000)) = (-10000))) then none else (some 0))))).isNone then (bif (wokF M n 0 true 2) then (wprF M n 0 true 2) else (-10000)) else (mnc (bif (wokF M n 0 true 2) then (wprF M n 0 true 2) else (-10000)) (bif (decide ((bif (wokF M n 0 true 1) then (wprF M n 0 true 1) else (-10000)) = (-10000))) then (bif (decide ((bif (wokF M n 0 true 0) then (wprF M n 0 true 0) else (-10000)) = (-10000))) then (-10000) else (bif (wokF M n 0 true 0) then (wprF M n 0 true 0) else (-10000))) else (bif (bif (decide ((bif (wokF M n 0 true 0) then (wprF M n 0 true 0) else (-10000)) = (-10000))) then none else (some 0)).isNone then (bif (wokF M n 0 true 1) then (wprF M n 0 true 1) else (-10000)) else (mnc (bif (wokF M n 0 true 1) then (wprF M n 0 true 1) else (-10000)) (bif (decide ((bif (wokF M n 0 true 0) then (wprF M n 0 true 0) else (-10000)) = (-10000))) then (-10000) else (bif (wokF M n 0 true 0) then (wprF M n 0 true 0) else (-10000))))))))), .inl 2, .inl (bif (wokF M n 0 true 2) then (wprF M n 0 true 2) else (-10000)), .inl (bz (decide ((bif (wokF M n 0 true 2) then (wprF M n 0 true 2) else (-10000)) < (bif (decide ((bif (wokF M n 0 true 1) then (wprF M n 0 true 1) else (-10000)) = (-10000))) then (bif (decide ((bif (wokF M n 0 true 0) then (wprF M n 0 true 0) else (-10000)) = (-10000))) then (-10000) else (bif (wokF M n 0 true 0) then (wprF M n 0 true 0) else (-10000))) else (bif (bif (decide ((bif (wokF M n 0 true 0) then (wprF M n 0 true 0) else (-10000)) = (-10000))) then none else (some 0)).isNone then (bif (wokF M n 0 true 1) then (wprF M n 0 true 1) else (-10000)) else (mnc (bif (wokF M n 0 true 1) then (wprF M n 0 true 1) else (-10000)) (bif (decide ((bif (wokF M n 0 true 0) then (wprF M n 0 true 0) else (-10000)) = (-10000))) then (-10000) else (bif (wokF M n 0 true 0) then (wprF M n 0 true 0) else (-10000)))))))))] [] t Q := by
              refine x_iinc (pc' := 87) (y := 3) (ls' := [_, _, _, _, _, _, _, _]) rfl rfl rfl rfl rfl ?_
              refine x_goto (pc' := 10) rfl rfl ?_
              refine x_iload (pc' := 12) rfl rfl rfl ?_
              refine x_iconst (pc' := 13) rfl rfl ?_
              refine x_icmp (a' := 90) (pc' := 16) (z := true) rfl rfl rfl (by decide) (fun _ => ?_) (fun h => by cases h)
              refine x_iload_n (pc' := 91) rfl rfl rfl ?_
              refine x_reti rfl rfl ?_
              exact q (obd_c (obd_c (obd_c obd_n (obd_s (by decide))) (obd_c (obd_s (by decide)) (obd_c (obd_s (by decide)) (obd_c obd_n (obd_s (by decide)))))) (obd_c (obd_s (by decide)) (obd_c (obd_s (by decide)) (obd_c (obd_c obd_n (obd_s (by decide))) (obd_c (obd_s (by decide)) (obd_c (obd_s (by decide)) (obd_c obd_n (obd_s (by decide)))))))))
            refine x_icmp (a' := 84) (pc' := 67) (z := decide ((bif (wokF M n 0 true 2) then (wprF M n 0 true 2) else (-10000)) = (-10000))) rfl rfl rfl rfl (fun q20 => ?_) (fun q20 => ?_)
            · ((try rw [q20] at J22); (try rw [q20]); (try simp only [cd_t, cd_f, nt_t, nt_f, an_t, an_f, or_t, or_f] at J22); (try simp only [cd_t, cd_f, nt_t, nt_f, an_t, an_f, or_t, or_f]); exact J22)
            · refine x_iload_n (pc' := 68) rfl rfl rfl ?_
              refine x_iconst (pc' := 69) rfl rfl ?_
              refine x_icmp (a' := 77) (pc' := 72) (z := (bif (decide ((bif (wokF M n 0 true 1) then (wprF M n 0 true 1) else (-10000)) = (-10000))) then (bif (decide ((bif (wokF M n 0 true 0) then (wprF M n 0 true 0) else (-10000)) = (-10000))) then none else (some 0)) else (bif (bif (decide ((bif (wokF M n 0 true 0) then (wprF M n 0 true 0) else (-10000)) = (-10000))) then none else (some 0)).isNone then (some 1) else (bif (decide ((bif (wokF M n 0 true 1) then (wprF M n 0 true 1) else (-10000)) < (bif (decide ((bif (wokF M n 0 true 0) then (wprF M n 0 true 0) else (-10000)) = (-10000))) then (-10000) else (bif (wokF M n 0 true 0) then (wprF M n 0 true 0) else (-10000))))) then (some 1) else (bif (decide ((bif (wokF M n 0 true 0) then (wprF M n 0 true 0) else (-10000)) = (-10000))) then none else (some 0))))).isNone) rfl rfl rfl (ov_eq (ov_31 (N := 3) (obd_c (obd_c obd_n (obd_s (by decide))) (obd_c (obd_s (by decide)) (obd_c (obd_s (by decide)) (obd_c obd_n (obd_s (by decide)))))) (by decide))) (fun q21 => ?_) (fun q21 => ?_)
              · refine x_iload (pc' := 79) rfl rfl rfl ?_
                refine x_istore_n (pc' := 80) (ls' := [_, _, _, _, _, _, _, _]) rfl rfl rfl rfl ?_
                refine x_iload (pc' := 82) rfl rfl rfl ?_
                refine x_istore (pc' := 84) (ls' := [_, _, _, _, _, _, _, _]) rfl rfl rfl rfl ?_
                ((try rw [q21] at J22); (try rw [q21]); (try rw [q20] at J22); (try rw [q20]); (try simp only [cd_t, cd_f, nt_t, nt_f, an_t, an_f, or_t, or_f] at J22); (try simp only [cd_t, cd_f, nt_t, nt_f, an_t, an_f, or_t, or_f]); exact J22)
              · refine x_iload (pc' := 74) rfl rfl rfl ?_
                refine x_ifeq_z (a' := 84) (pc' := 77) (z := (decide ((bif (wokF M n 0 true 2) then (wprF M n 0 true 2) else (-10000)) < (bif (decide ((bif (wokF M n 0 true 1) then (wprF M n 0 true 1) else (-10000)) = (-10000))) then (bif (decide ((bif (wokF M n 0 true 0) then (wprF M n 0 true 0) else (-10000)) = (-10000))) then (-10000) else (bif (wokF M n 0 true 0) then (wprF M n 0 true 0) else (-10000))) else (bif (bif (decide ((bif (wokF M n 0 true 0) then (wprF M n 0 true 0) else (-10000)) = (-10000))) then none else (some 0)).isNone then (bif (wokF M n 0 true 1) then (wprF M n 0 true 1) else (-10000)) else (mnc (bif (wokF M n 0 true 1) then (wprF M n 0 true 1) else (-10000)) (bif (decide ((bif (wokF M n 0 true 0) then (wprF M n 0 true 0) else (-10000)) = (-10000))) then (-10000) else (bif (wokF M n 0 true 0) then (wprF M n 0 true 0) else (-10000))))))))) rfl rfl rfl (fun q22 => ?_) (fun q22 => ?_)
                · ((try rw [q22] at J22); (try rw [q22]); (try rw [q21] at J22); (try rw [q21]); (try rw [q20] at J22); (try rw [q20]); (try simp only [cd_t, cd_f, nt_t, nt_f, an_t, an_f, or_t, or_f] at J22); (try simp only [cd_t, cd_f, nt_t, nt_f, an_t, an_f, or_t, or_f]); exact J22)
                · refine x_iload (pc' := 79) rfl rfl rfl ?_
                  refine x_istore_n (pc' := 80) (ls' := [_, _, _, _, _, _, _, _]) rfl rfl rfl rfl ?_
                  refine x_iload (pc' := 82) rfl rfl rfl ?_
                  refine x_istore (pc' := 84) (ls' := [_, _, _, _, _, _, _, _]) rfl rfl rfl rfl ?_
                  ((try rw [q22] at J22); (try rw [q22]); (try rw [q21] at J22); (try rw [q21]); (try rw [q20] at J22); (try rw [q20]); (try simp only [cd_t, cd_f, nt_t, nt_f, an_t, an_f, or_t, or_f] at J22); (try simp only [cd_t, cd_f, nt_t, nt_f, an_t, an_f, or_t, or_f]); exact J22)
          refine x_icmp_n (a' := 41) (pc' := 37) (z := decide ((bif (wokF M n 0 true 2) then (wprF M n 0 true 2) else (-10000)) < (bif (decide ((bif (wokF M n 0 true 1) then (wprF M n 0 true 1) else (-10000)) = (-10000))) then (bif (decide ((bif (wokF M n 0 true 0) then (wprF M n 0 true 0) else (-10000)) = (-10000))) then (-10000) else (bif (wokF M n 0 true 0) then (wprF M n 0 true 0) else (-10000))) else (bif (bif (decide ((bif (wokF M n 0 true 0) then (wprF M n 0 true 0) else (-10000)) = (-10000))) then none else (some 0)).isNone then (bif (wokF M n 0 true 1) then (wprF M n 0 true 1) else (-10000)) else (mnc (bif (wokF M n 0 true 1) then (wprF M n 0 true 1) else (-10000)) (bif (decide ((bif (wokF M n 0 true 0) then (wprF M n 0 true 0) else (-10000)) = (-10000))) then (-10000) else (bif (wokF M n 0 true 0) then (wprF M n 0 true 0) else (-10000)))))))) rfl rfl rfl (ik_ge _ _) (fun q18 => ?_) (fun q18 => ?_)
          · refine x_iconst (pc' := 42) rfl rfl ?_
            refine x_goto (pc' := 57) rfl rfl ?_
            ((try rw [mnc_f q18] at J18); (try rw [q18] at J18); (try rw [q18]); (try simp only [cd_t, cd_f, nt_t, nt_f, an_t, an_f, or_t, or_f] at J18); (try simp only [cd_t, cd_f, nt_t, nt_f, an_t, an_f, or_t, or_f]); exact J18)
          · refine x_iconst (pc' := 38) rfl rfl ?_
            refine x_goto (pc' := 57) rfl rfl ?_
            ((try rw [mnc_t q18] at J18); (try rw [q18] at J18); (try rw [q18]); (try simp only [cd_t, cd_f, nt_t, nt_f, an_t, an_f, or_t, or_f] at J18); (try simp only [cd_t, cd_f, nt_t, nt_f, an_t, an_f, or_t, or_f]); exact J18)
        refine x_icmp (a' := 84) (pc' := 67) (z := decide ((bif (wokF M n 0 true 1) then (wprF M n 0 true 1) else (-10000)) = (-10000))) rfl rfl rfl rfl (fun q12 => ?_) (fun q12 => ?_)
        · ((try rw [q12] at J14); (try rw [q12]); (try simp only [cd_t, cd_f, nt_t, nt_f, an_t, an_f, or_t, or_f] at J14); (try simp only [cd_t, cd_f, nt_t, nt_f, an_t, an_f, or_t, or_f]); exact J14)
        · refine x_iload_n (pc' := 68) rfl rfl rfl ?_
          refine x_iconst (pc' := 69) rfl rfl ?_
          refine x_icmp (a' := 77) (pc' := 72) (z := (bif (decide ((bif (wokF M n 0 true 0) then (wprF M n 0 true 0) else (-10000)) = (-10000))) then none else (some 0)).isNone) rfl rfl rfl (ov_eq (ov_31 (N := 3) (obd_c obd_n (obd_s (by decide))) (by decide))) (fun q13 => ?_) (fun q13 => ?_)
          · refine x_iload (pc' := 79) rfl rfl rfl ?_
            refine x_istore_n (pc' := 80) (ls' := [_, _, _, _, _, _, _, _]) rfl rfl rfl rfl ?_
            refine x_iload (pc' := 82) rfl rfl rfl ?_
            refine x_istore (pc' := 84) (ls' := [_, _, _, _, _, _, _, _]) rfl rfl rfl rfl ?_
            ((try rw [q13] at J14); (try rw [q13]); (try rw [q12] at J14); (try rw [q12]); (try simp only [cd_t, cd_f, nt_t, nt_f, an_t, an_f, or_t, or_f] at J14); (try simp only [cd_t, cd_f, nt_t, nt_f, an_t, an_f, or_t, or_f]); exact J14)
          · refine x_iload (pc' := 74) rfl rfl rfl ?_
            refine x_ifeq_z (a' := 84) (pc' := 77) (z := (decide ((bif (wokF M n 0 true 1) then (wprF M n 0 true 1) else (-10000)) < (bif (decide ((bif (wokF M n 0 true 0) then (wprF M n 0 true 0) else (-10000)) = (-10000))) then (-10000) else (bif (wokF M n 0 true 0) then (wprF M n 0 true 0) else (-10000)))))) rfl rfl rfl (fun q14 => ?_) (fun q14 => ?_)
            · ((try rw [q14] at J14); (try rw [q14]); (try rw [q13] at J14); (try rw [q13]); (try rw [q12] at J14); (try rw [q12]); (try simp only [cd_t, cd_f, nt_t, nt_f, an_t, an_f, or_t, or_f] at J14); (try simp only [cd_t, cd_f, nt_t, nt_f, an_t, an_f, or_t, or_f]); exact J14)
            · refine x_iload (pc' := 79) rfl rfl rfl ?_
              refine x_istore_n (pc' := 80) (ls' := [_, _, _, _, _, _, _, _]) rfl rfl rfl rfl ?_
              refine x_iload (pc' := 82) rfl rfl rfl ?_
              refine x_istore (pc' := 84) (ls' := [_, _, _, _, _, _, _, _]) rfl rfl rfl rfl ?_
              ((try rw [q14] at J14); (try rw [q14]); (try rw [q13] at J14); (try rw [q13]); (try rw [q12] at J14); (try rw [q12]); (try simp only [cd_t, cd_f, nt_t, nt_f, an_t, an_f, or_t, or_f] at J14); (try simp only [cd_t, cd_f, nt_t, nt_f, an_t, an_f, or_t, or_f]); exact J14)
      refine x_icmp_n (a' := 41) (pc' := 37) (z := decide ((bif (wokF M n 0 true 1) then (wprF M n 0 true 1) else (-10000)) < (bif (decide ((bif (wokF M n 0 true 0) then (wprF M n 0 true 0) else (-10000)) = (-10000))) then (-10000) else (bif (wokF M n 0 true 0) then (wprF M n 0 true 0) else (-10000))))) rfl rfl rfl (ik_ge _ _) (fun q10 => ?_) (fun q10 => ?_)
      · refine x_iconst (pc' := 42) rfl rfl ?_
        refine x_goto (pc' := 57) rfl rfl ?_
        ((try rw [mnc_f q10] at J10); (try rw [q10] at J10); (try rw [q10]); (try simp only [cd_t, cd_f, nt_t, nt_f, an_t, an_f, or_t, or_f] at J10); (try simp only [cd_t, cd_f, nt_t, nt_f, an_t, an_f, or_t, or_f]); exact J10)
      · refine x_iconst (pc' := 38) rfl rfl ?_
        refine x_goto (pc' := 57) rfl rfl ?_
        ((try rw [mnc_t q10] at J10); (try rw [q10] at J10); (try rw [q10]); (try simp only [cd_t, cd_f, nt_t, nt_f, an_t, an_f, or_t, or_f] at J10); (try simp only [cd_t, cd_f, nt_t, nt_f, an_t, an_f, or_t, or_f]); exact J10)
    refine x_icmp (a' := 84) (pc' := 67) (z := decide ((bif (wokF M n 0 true 0) then (wprF M n 0 true 0) else (-10000)) = (-10000))) rfl rfl rfl rfl (fun q5 => ?_) (fun q5 => ?_)
    · ((try rw [q5] at J6); (try rw [q5]); (try simp only [cd_t, cd_f, nt_t, nt_f, an_t, an_f, or_t, or_f] at J6); (try simp only [cd_t, cd_f, nt_t, nt_f, an_t, an_f, or_t, or_f]); exact J6)
    · refine x_iload_n (pc' := 68) rfl rfl rfl ?_
      refine x_iconst (pc' := 69) rfl rfl ?_
      refine x_icmp (a' := 77) (pc' := 72) (z := true) rfl rfl rfl (by decide) (fun _ => ?_) (fun h => by cases h)
      refine x_iload (pc' := 79) rfl rfl rfl ?_
      refine x_istore_n (pc' := 80) (ls' := [_, _, _, _, _, _, _, _]) rfl rfl rfl rfl ?_
      refine x_iload (pc' := 82) rfl rfl rfl ?_
      refine x_istore (pc' := 84) (ls' := [_, _, _, _, _, _, _, _]) rfl rfl rfl rfl ?_
      ((try rw [q5] at J6); (try rw [q5]); (try simp only [cd_t, cd_f, nt_t, nt_f, an_t, an_f, or_t, or_f] at J6); (try simp only [cd_t, cd_f, nt_t, nt_f, an_t, an_f, or_t, or_f]); exact J6)
  refine x_icmp_n (a' := 41) (pc' := 37) (z := decide ((bif (wokF M n 0 true 0) then (wprF M n 0 true 0) else (-10000)) < (-10000))) rfl rfl rfl (ik_ge _ _) (fun q3 => ?_) (fun q3 => ?_)
  · refine x_iconst (pc' := 42) rfl rfl ?_
    refine x_goto (pc' := 57) rfl rfl ?_
    ((try rw [q3] at J3); (try rw [q3]); (try simp only [cd_t, cd_f, nt_t, nt_f, an_t, an_f, or_t, or_f] at J3); (try simp only [cd_t, cd_f, nt_t, nt_f, an_t, an_f, or_t, or_f]); exact J3)
  · refine x_iconst (pc' := 38) rfl rfl ?_
    refine x_goto (pc' := 57) rfl rfl ?_
    ((try rw [q3] at J3); (try rw [q3]); (try simp only [cd_t, cd_f, nt_t, nt_f, an_t, an_f, or_t, or_f] at J3); (try simp only [cd_t, cd_f, nt_t, nt_f, an_t, an_f, or_t, or_f]); exact J3)
def cb1fF (M : sM) (n : Nat) : Option Nat := (bif (decide ((bif (wokF M n 1 false 2) then (wprF M n 1 false 2) else (-10000)) = (-10000))) then (bif (decide ((bif (wokF M n 1 false 1) then (wprF M n 1 false 1) else (-10000)) = (-10000))) then (bif (decide ((bif (wokF M n 1 false 0) then (wprF M n 1 false 0) else (-10000)) = (-10000))) then none else (some 0)) else (bif (bif (decide ((bif (wokF M n 1 false 0) then (wprF M n 1 false 0) else (-10000)) = (-10000))) then none else (some 0)).isNone then (some 1) else (bif (decide ((bif (decide ((bif (wokF M n 1 false 0) then (wprF M n 1 false 0) else (-10000)) = (-10000))) then (-10000) else (bif (wokF M n 1 false 0) then (wprF M n 1 false 0) else (-10000))) < (bif (wokF M n 1 false 1) then (wprF M n 1 false 1) else (-10000)))) then (some 1) else (bif (decide ((bif (wokF M n 1 false 0) then (wprF M n 1 false 0) else (-10000)) = (-10000))) then none else (some 0))))) else (bif (bif (decide ((bif (wokF M n 1 false 1) then (wprF M n 1 false 1) else (-10000)) = (-10000))) then (bif (decide ((bif (wokF M n 1 false 0) then (wprF M n 1 false 0) else (-10000)) = (-10000))) then none else (some 0)) else (bif (bif (decide ((bif (wokF M n 1 false 0) then (wprF M n 1 false 0) else (-10000)) = (-10000))) then none else (some 0)).isNone then (some 1) else (bif (decide ((bif (decide ((bif (wokF M n 1 false 0) then (wprF M n 1 false 0) else (-10000)) = (-10000))) then (-10000) else (bif (wokF M n 1 false 0) then (wprF M n 1 false 0) else (-10000))) < (bif (wokF M n 1 false 1) then (wprF M n 1 false 1) else (-10000)))) then (some 1) else (bif (decide ((bif (wokF M n 1 false 0) then (wprF M n 1 false 0) else (-10000)) = (-10000))) then none else (some 0))))).isNone then (some 2) else (bif (decide ((bif (decide ((bif (wokF M n 1 false 1) then (wprF M n 1 false 1) else (-10000)) = (-10000))) then (bif (decide ((bif (wokF M n 1 false 0) then (wprF M n 1 false 0) else (-10000)) = (-10000))) then (-10000) else (bif (wokF M n 1 false 0) then (wprF M n 1 false 0) else (-10000))) else (bif (bif (decide ((bif (wokF M n 1 false 0) then (wprF M n 1 false 0) else (-10000)) = (-10000))) then none else (some 0)).isNone then (bif (wokF M n 1 false 1) then (wprF M n 1 false 1) else (-10000)) else (mxc (bif (decide ((bif (wokF M n 1 false 0) then (wprF M n 1 false 0) else (-10000)) = (-10000))) then (-10000) else (bif (wokF M n 1 false 0) then (wprF M n 1 false 0) else (-10000))) (bif (wokF M n 1 false 1) then (wprF M n 1 false 1) else (-10000))))) < (bif (wokF M n 1 false 2) then (wprF M n 1 false 2) else (-10000)))) then (some 2) else (bif (decide ((bif (wokF M n 1 false 1) then (wprF M n 1 false 1) else (-10000)) = (-10000))) then (bif (decide ((bif (wokF M n 1 false 0) then (wprF M n 1 false 0) else (-10000)) = (-10000))) then none else (some 0)) else (bif (bif (decide ((bif (wokF M n 1 false 0) then (wprF M n 1 false 0) else (-10000)) = (-10000))) then none else (some 0)).isNone then (some 1) else (bif (decide ((bif (decide ((bif (wokF M n 1 false 0) then (wprF M n 1 false 0) else (-10000)) = (-10000))) then (-10000) else (bif (wokF M n 1 false 0) then (wprF M n 1 false 0) else (-10000))) < (bif (wokF M n 1 false 1) then (wprF M n 1 false 1) else (-10000)))) then (some 1) else (bif (decide ((bif (wokF M n 1 false 0) then (wprF M n 1 false 0) else (-10000)) = (-10000))) then none else (some 0))))))))
set_option maxHeartbeats 4000000 in
set_option maxRecDepth 10000 in
theorem c82_1f {t : sT} {Q : sRs → sT → Prop} {M : sM} {n : Nat} {T : Nat}
    (hM : Rl t M n T)
    (hc : Sf t M n T)
    (hR : Ri M n)
    (hC : rlC t M n)
    (q : (∀ j, cb1fF M n = some j → j < 3) → Q (.inl (some (.inl (ov (cb1fF M n))))) t) :
    X 82 0 [.inr (.inr (10, (some 0))), .inr (.inr (1, (some 1))), .inl (bz false), sJk, sJk, sJk, sJk, sJk] [] t Q := by
  refine x_iconst (pc' := 1) rfl rfl ?_
  refine x_istore_n (pc' := 2) (ls' := [_, _, _, _, _, _, _, _]) rfl rfl rfl rfl ?_
  refine x_sipush (pc' := 5) rfl rfl ?_
  refine x_istore (pc' := 7) (ls' := [_, _, _, _, _, _, _, _]) rfl rfl rfl rfl ?_
  refine x_iconst (pc' := 8) rfl rfl ?_
  refine x_istore (pc' := 10) (ls' := [_, _, _, _, _, _, _, _]) rfl rfl rfl rfl ?_
  refine x_iload (pc' := 12) rfl rfl rfl ?_
  refine x_iconst (pc' := 13) rfl rfl ?_
  refine x_icmp (a' := 90) (pc' := 16) (z := false) rfl rfl rfl (by decide) (fun h => by cases h) (fun _ => ?_)
  refine x_aload_n (pc' := 17) rfl rfl rfl rfl rfl ?_
  refine x_aload_n (pc' := 18) rfl rfl rfl rfl rfl ?_
  refine x_iload (pc' := 20) rfl rfl rfl ?_
  refine x_iload_n (pc' := 21) rfl rfl rfl ?_
  refine x_cv (ls0 := [_, _, _, _, sJk, sJk, sJk, sJk]) (rest := []) rfl rfl rfl rfl rfl ?_
  refine c81_10f hM hc (Fc.ri (Fc.refl _) hR) hC ?_
  rw [cp10fF_e]
  refine sK_i (pc' := 24) rfl ?_
  refine x_istore (pc' := 26) (ls' := [_, _, _, _, _, _, _, _]) rfl rfl rfl rfl ?_
  refine x_iload_n (pc' := 27) rfl rfl rfl ?_
  refine x_if (a' := 45) (pc' := 30) (z := true) rfl rfl rfl (by decide) (fun _ => ?_) (fun h => by cases h)
  refine x_iload (pc' := 47) rfl rfl rfl ?_
  refine x_iload (pc' := 49) rfl rfl rfl ?_
  have J3 : X 82 57 [.inr (.inr (10, (some 0))), .inr (.inr (1, (some 1))), .inl (bz false), .inl (-1), .inl (-10000), .inl 0, .inl (bif (wokF M n 1 false 0) then (wprF M n 1 false 0) else (-10000)), sJk] [.inl (bz (decide ((-10000) < (bif (wokF M n 1 false 0) then (wprF M n 1 false 0) else (-10000)))))] t Q := by
    refine x_istore (pc' := 59) (ls' := [_, _, _, _, _, _, _, _]) rfl rfl rfl rfl ?_
    refine x_iload (pc' := 61) rfl rfl rfl ?_
    refine x_sipush (pc' := 64) rfl rfl ?_
    have J6 : X 82 84 [.inr (.inr (10, (some 0))), .inr (.inr (1, (some 1))), .inl (bz false), .inl (ov (bif (decide ((bif (wokF M n 1 false 0) then (wprF M n 1 false 0) else (-10000)) = (-10000))) then none else (some 0))), .inl (bif (decide ((bif (wokF M n 1 false 0) then (wprF M n 1 false 0) else (-10000)) = (-10000))) then (-10000) else (bif (wokF M n 1 false 0) then (wprF M n 1 false 0) else (-10000))), .inl 0, .inl (bif (wokF M n 1 false 0) then (wprF M n 1 false 0) else (-10000)), .inl (bz (decide ((-10000) < (bif (wokF M n 1 false 0) then (wprF M n 1 false 0) else (-10000)))))] [] t Q := by
      refine x_iinc (pc' := 87) (y := 1) (ls' := [_, _, _, _, _, _, _, _]) rfl rfl rfl rfl rfl ?_
      refine x_goto (pc' := 10) rfl rfl ?_
      refine x_iload (pc' := 12) rfl rfl rfl ?_
      refine x_iconst (pc' := 13) rfl rfl ?_
      refine x_icmp (a' := 90) (pc' := 16) (z := false) rfl rfl rfl (by decide) (fun h => by cases h) (fun _ => ?_)
      refine x_aload_n (pc' := 17) rfl rfl rfl rfl rfl ?_
      refine x_aload_n (pc' := 18) rfl rfl rfl rfl rfl ?_
      refine x_iload (pc' := 20) rfl rfl rfl ?_
      refine x_iload_n (pc' := 21) rfl rfl rfl ?_
      refine x_cv (ls0 := [_, _, _, _, sJk, sJk, sJk, sJk]) (rest := []) rfl rfl rfl rfl rfl ?_
      refine c81_11f hM hc (Fc.ri (Fc.refl _) hR) hC ?_
      rw [cp11fF_e]
      refine sK_i (pc' := 24) rfl ?_
      refine x_istore (pc' := 26) (ls' := [_, _, _, _, _, _, _, _]) rfl rfl rfl rfl ?_
      refine x_iload_n (pc' := 27) rfl rfl rfl ?_
      refine x_if (a' := 45) (pc' := 30) (z := true) rfl rfl rfl (by decide) (fun _ => ?_) (fun h => by cases h)
      refine x_iload (pc' := 47) rfl rfl rfl ?_
      refine x_iload (pc' := 49) rfl rfl rfl ?_
      have J10 : X 82 57 [.inr (.inr (10, (some 0))), .inr (.inr (1, (some 1))), .inl (bz false), .inl (ov (bif (decide ((bif (wokF M n 1 false 0) then (wprF M n 1 false 0) else (-10000)) = (-10000))) then none else (some 0))), .inl (bif (decide ((bif (wokF M n 1 false 0) then (wprF M n 1 false 0) else (-10000)) = (-10000))) then (-10000) else (bif (wokF M n 1 false 0) then (wprF M n 1 false 0) else (-10000))), .inl 1, .inl (bif (wokF M n 1 false 1) then (wprF M n 1 false 1) else (-10000)), .inl (bz (decide ((-10000) < (bif (wokF M n 1 false 0) then (wprF M n 1 false 0) else (-10000)))))] [.inl (bz (decide ((bif (decide ((bif (wokF M n 1 false 0) then (wprF M n 1 false 0) else (-10000)) = (-10000))) then (-10000) else (bif (wokF M n 1 false 0) then (wprF M n 1 false 0) else (-10000))) < (bif (wokF M n 1 false 1) then (wprF M n 1 false 1) else (-10000)))))] t Q := by
        refine x_istore (pc' := 59) (ls' := [_, _, _, _, _, _, _, _]) rfl rfl rfl rfl ?_
        refine x_iload (pc' := 61) rfl rfl rfl ?_
        refine x_sipush (pc' := 64) rfl rfl ?_
        have J14 : X 82 84 [.inr (.inr (10, (some 0))), .inr (.inr (1, (some 1))), .inl (bz false), .inl (ov (bif (decide ((bif (wokF M n 1 false 1) then (wprF M n 1 false 1) else (-10000)) = (-10000))) then (bif (decide ((bif (wokF M n 1 false 0) then (wprF M n 1 false 0) else (-10000)) = (-10000))) then none else (some 0)) else (bif (bif (decide ((bif (wokF M n 1 false 0) then (wprF M n 1 false 0) else (-10000)) = (-10000))) then none else (some 0)).isNone then (some 1) else (bif (decide ((bif (decide ((bif (wokF M n 1 false 0) then (wprF M n 1 false 0) else (-10000)) = (-10000))) then (-10000) else (bif (wokF M n 1 false 0) then (wprF M n 1 false 0) else (-10000))) < (bif (wokF M n 1 false 1) then (wprF M n 1 false 1) else (-10000)))) then (some 1) else (bif (decide ((bif (wokF M n 1 false 0) then (wprF M n 1 false 0) else (-10000)) = (-10000))) then none else (some 0)))))), .inl (bif (decide ((bif (wokF M n 1 false 1) then (wprF M n 1 false 1) else (-10000)) = (-10000))) then (bif (decide ((bif (wokF M n 1 false 0) then (wprF M n 1 false 0) else (-10000)) = (-10000))) then (-10000) else (bif (wokF M n 1 false 0) then (wprF M n 1 false 0) else (-10000))) else (bif (bif (decide ((bif (wokF M n 1 false 0) then (wprF M n 1 false 0) else (-10000)) = (-10000))) then none else (some 0)).isNone then (bif (wokF M n 1 false 1) then (wprF M n 1 false 1) else (-10000)) else (mxc (bif (decide ((bif (wokF M n 1 false 0) then (wprF M n 1 false 0) else (-10000)) = (-10000))) then (-10000) else (bif (wokF M n 1 false 0) then (wprF M n 1 false 0) else (-10000))) (bif (wokF M n 1 false 1) then (wprF M n 1 false 1) else (-10000))))), .inl 1, .inl (bif (wokF M n 1 false 1) then (wprF M n 1 false 1) else (-10000)), .inl (bz (decide ((bif (decide ((bif (wokF M n 1 false 0) then (wprF M n 1 false 0) else (-10000)) = (-10000))) then (-10000) else (bif (wokF M n 1 false 0) then (wprF M n 1 false 0) else (-10000))) < (bif (wokF M n 1 false 1) then (wprF M n 1 false 1) else (-10000)))))] [] t Q := by
          refine x_iinc (pc' := 87) (y := 2) (ls' := [_, _, _, _, _, _, _, _]) rfl rfl rfl rfl rfl ?_
          refine x_goto (pc' := 10) rfl rfl ?_
          refine x_iload (pc' := 12) rfl rfl rfl ?_
          refine x_iconst (pc' := 13) rfl rfl ?_
          refine x_icmp (a' := 90) (pc' := 16) (z := false) rfl rfl rfl (by decide) (fun h => by cases h) (fun _ => ?_)
          refine x_aload_n (pc' := 17) rfl rfl rfl rfl rfl ?_
          refine x_aload_n (pc' := 18) rfl rfl rfl rfl rfl ?_
          refine x_iload (pc' := 20) rfl rfl rfl ?_
          refine x_iload_n (pc' := 21) rfl rfl rfl ?_
          refine x_cv (ls0 := [_, _, _, _, sJk, sJk, sJk, sJk]) (rest := []) rfl rfl rfl rfl rfl ?_
          refine c81_12f hM hc (Fc.ri (Fc.refl _) hR) hC ?_
          rw [cp12fF_e]
          refine sK_i (pc' := 24) rfl ?_
          refine x_istore (pc' := 26) (ls' := [_, _, _, _, _, _, _, _]) rfl rfl rfl rfl ?_
          refine x_iload_n (pc' := 27) rfl rfl rfl ?_
          refine x_if (a' := 45) (pc' := 30) (z := true) rfl rfl rfl (by decide) (fun _ => ?_) (fun h => by cases h)
          refine x_iload (pc' := 47) rfl rfl rfl ?_
          refine x_iload (pc' := 49) rfl rfl rfl ?_
          have J18 : X 82 57 [.inr (.inr (10, (some 0))), .inr (.inr (1, (some 1))), .inl (bz false), .inl (ov (bif (decide ((bif (wokF M n 1 false 1) then (wprF M n 1 false 1) else (-10000)) = (-10000))) then (bif (decide ((bif (wokF M n 1 false 0) then (wprF M n 1 false 0) else (-10000)) = (-10000))) then none else (some 0)) else (bif (bif (decide ((bif (wokF M n 1 false 0) then (wprF M n 1 false 0) else (-10000)) = (-10000))) then none else (some 0)).isNone then (some 1) else (bif (decide ((bif (decide ((bif (wokF M n 1 false 0) then (wprF M n 1 false 0) else (-10000)) = (-10000))) then (-10000) else (bif (wokF M n 1 false 0) then (wprF M n 1 false 0) else (-10000))) < (bif (wokF M n 1 false 1) then (wprF M n 1 false 1) else (-10000)))) then (some 1) else (bif (decide ((bif (wokF M n 1 false 0) then (wprF M n 1 false 0) else (-10000)) = (-10000))) then none else (some 0)))))), .inl (bif (decide ((bif (wokF M n 1 false 1) then (wprF M n 1 false 1) else (-10000)) = (-10000))) then (bif (decide ((bif (wokF M n 1 false 0) then (wprF M n 1 false 0) else (-10000)) = (-10000))) then (-10000) else (bif (wokF M n 1 false 0) then (wprF M n 1 false 0) else (-10000))) else (bif (bif (decide ((bif (wokF M n 1 false 0) then (wprF M n 1 false 0) else (-10000)) = (-10000))) then none else (some 0)).isNone then (bif (wokF M n 1 false 1) then (wprF M n 1 false 1) else (-10000)) else (mxc (bif (decide ((bif (wokF M n 1 false 0) then (wprF M n 1 false 0) else (-10000)) = (-10000))) then (-10000) else (bif (wokF M n 1 false 0) then (wprF M n 1 false 0) else (-10000))) (bif (wokF M n 1 false 1) then (wprF M n 1 false 1) else (-10000))))), .inl 2, .inl (bif (wokF M n 1 false 2) then (wprF M n 1 false 2) else (-10000)), .inl (bz (decide ((bif (decide ((bif (wokF M n 1 false 0) then (wprF M n 1 false 0) else (-10000)) = (-10000))) then (-10000) else (bif (wokF M n 1 false 0) then (wprF M n 1 false 0) else (-10000))) < (bif (wokF M n 1 false 1) then (wprF M n 1 false 1) else (-10000)))))] [.inl (bz (decide ((bif (decide ((bif (wokF M n 1 false 1) then (wprF M n 1 false 1) else (-10000)) = (-10000))) then (bif (decide ((bif (wokF M n 1 false 0) then (wprF M n 1 false 0) else (-10000)) = (-10000))) then (-10000) else (bif (wokF M n 1 false 0) then (wprF M n 1 false 0) else (-10000))) else (bif (bif (decide ((bif (wokF M n 1 false 0) then (wprF M n 1 false 0) else (-10000)) = (-10000))) then none else (some 0)).isNone then (bif (wokF M n 1 false 1) then (wprF M n 1 false 1) else (-10000)) else (mxc (bif (decide ((bif (wokF M n 1 false 0) then (wprF M n 1 false 0) else (-10000)) = (-10000))) then (-10000) else (bif (wokF M n 1 false 0) then (wprF M n 1 false 0) else (-10000))) (bif (wokF M n 1 false 1) then (wprF M n 1 false 1) else (-10000))))) < (bif (wokF M n 1 false 2) then (wprF M n 1 false 2) else (-10000)))))] t Q := by
            refine x_istore (pc' := 59) (ls' := [_, _, _, _, _, _, _, _]) rfl rfl rfl rfl ?_
            refine x_iload (pc' := 61) rfl rfl rfl ?_
            refine x_sipush (pc' := 64) rfl rfl ?_
            have J22 : X 82 84 [.inr (.inr (10, (some 0))), .inr (.inr (1, (some 1))), .inl (bz false), .inl (ov (bif (decide ((bif (wokF M n 1 false 2) then (wprF M n 1 false 2) else (-10000)) = (-10000))) then (bif (decide ((bif (wokF M n 1 false 1) then (wprF M n 1 false 1) else (-10000)) = (-10000))) then (bif (decide ((bif (wokF M n 1 false 0) then (wprF M n 1 false 0) else (-10000)) = (-10000))) then none else (some 0)) else (bif (bif (decide ((bif (wokF M n 1 false 0) then (wprF M n 1 false 0) else (-10000)) = (-10000))) then none else (some 0)).isNone then (some 1) else (bif (decide ((bif (decide ((bif (wokF M n 1 false 0) then (wprF M n 1 false 0) else (-10000)) = (-10000))) then (-10000) else (bif (wokF M n 1 false 0) then (wprF M n 1 false 0) else (-10000))) < (bif (wokF M n 1 false 1) then (wprF M n 1 false 1) else (-10000)))) then (some 1) else (bif (decide ((bif (wokF M n 1 false 0) then (wprF M n 1 false 0) else (-10000)) = (-10000))) then none else (some 0))))) else (bif (bif (decide ((bif (wokF M n 1 false 1) then (wprF M n 1 false 1) else (-10000)) = (-10000))) then (bif (decide ((bif (wokF M n 1 false 0) then (wprF M n 1 false 0) else (-10000)) = (-10000))) then none else (some 0)) else (bif (bif (decide ((bif (wokF M n 1 false 0) then (wprF M n 1 false 0) else (-10000)) = (-10000))) then none else (some 0)).isNone then (some 1) else (bif (decide ((bif (decide ((bif (wokF M n 1 false 0) then (wprF M n 1 false 0) else (-10000)) = (-10000))) then (-10000) else (bif (wokF M n 1 false 0) then (wprF M n 1 false 0) else (-10000))) < (bif (wokF M n 1 false 1) then (wprF M n 1 false 1) else (-10000)))) then (some 1) else (bif (decide ((bif (wokF M n 1 false 0) then (wprF M n 1 false 0) else (-10000)) = (-10000))) then none else (some 0))))).isNone then (some 2) else (bif (decide ((bif (decide ((bif (wokF M n 1 false 1) then (wprF M n 1 false 1) else (-10000)) = (-10000))) then (bif (decide ((bif (wokF M n 1 false 0) then (wprF M n 1 false 0) else (-10000)) = (-10000))) then (-10000) else (bif (wokF M n 1 false 0) then (wprF M n 1 false 0) else (-10000))) else (bif (bif (decide ((bif (wokF M n 1 false 0) then (wprF M n 1 false 0) else (-10000)) = (-10000))) then none else (some 0)).isNone then (bif (wokF M n 1 false 1) then (wprF M n 1 false 1) else (-10000)) else (mxc (bif (decide ((bif (wokF M n 1 false 0) then (wprF M n 1 false 0) else (-10000)) = (-10000))) then (-10000) else (bif (wokF M n 1 false 0) then (wprF M n 1 false 0) else (-10000))) (bif (wokF M n 1 false 1) then (wprF M n 1 false 1) else (-10000))))) < (bif (wokF M n 1 false 2) then (wprF M n 1 false 2) else (-10000)))) then (some 2) else (bif (decide ((bif (wokF M n 1 false 1) then (wprF M n 1 false 1) else (-10000)) = (-10000))) then (bif (decide ((bif (wokF M n 1 false 0) then (wprF M n 1 false 0) else (-10000)) = (-10000))) then none else (some 0)) else (bif (bif (decide ((bif (wokF M n 1 false 0) then (wprF M n 1 false 0) else (-10000)) = (-10000))) then none else (some 0)).isNone then (some 1) else (bif (decide ((bif (decide ((bif (wokF M n 1 false 0) then (wprF M n 1 false 0) else (-10000)) = (-10000))) then (-10000) else (bif (wokF M n 1 false 0) then (wprF M n 1 false 0) else (-10000))) < (bif (wokF M n 1 false 1) then (wprF M n 1 false 1) else (-10000)))) then (some 1) else (bif (decide ((bif (wokF M n 1 false 0) then (wprF M n 1 false 0) else (-10000)) = (-10000))) then none else (some 0))))))))), .inl (bif (decide ((bif (wokF M n 1 false 2) then (wprF M n 1 false 2) else (-10000)) = (-10000))) then (bif (decide ((bif (wokF M n 1 false 1) then (wprF M n 1 false 1) else (-10000)) = (-10000))) then (bif (decide ((bif (wokF M n 1 false 0) then (wprF M n 1 false 0) else (-10000)) = (-10000))) then (-10000) else (bif (wokF M n 1 false 0) then (wprF M n 1 false 0) else (-10000))) else (bif (bif (decide ((bif (wokF M n 1 false 0) then (wprF M n 1 false 0) else (-10000)) = (-10000))) then none else (some 0)).isNone then (bif (wokF M n 1 false 1) then (wprF M n 1 false 1) else (-10000)) else (mxc (bif (decide ((bif (wokF M n 1 false 0) then (wprF M n 1 false 0) else (-10000)) = (-10000))) then (-10000) else (bif (wokF M n 1 false 0) then (wprF M n 1 false 0) else (-10000))) (bif (wokF M n 1 false 1) then (wprF M n 1 false 1) else (-10000))))) else (bif (bif (decide ((bif (wokF M n 1 false 1) then (wprF M n 1 false 1) else (-10000)) = (-10000))) then (bif (decide ((bif (wokF M n 1 false 0) then (wprF M n 1 false 0) else (-10000)) = (-10000))) then none else (some 0)) else (bif (bif (decide ((bif (wokF M n 1 false 0) then (wprF M n 1 false 0) else (-10000)) = (-10000))) then none else (some 0)).isNone then (some 1) else (bif (decide ((bif (decide ((bif (wokF M n 1 false 0) then (wprF M n 1 false 0) else (-10000)) = (-10000))) then (-10000) else (bif (wokF M n 1 false 0) then (wprF M n 1 false 0) else (-10000))) < (bif (wokF M n 1 false 1) then (wprF M n 1 false 1) else (-10000)))) then (some 1) else (bif (decide ((bif (wokF M n 1 false 0) then (wprF M n 1 false 0) else (-10000)) = (-10000))) then none else (some 0))))).isNone then (bif (wokF M n 1 false 2) then (wprF M n 1 false 2) else (-10000)) else (mxc (bif (decide ((bif (wokF M n 1 false 1) then (wprF M n 1 false 1) else (-10000)) = (-10000))) then (bif (decide ((bif (wokF M n 1 false 0) then (wprF M n 1 false 0) else (-10000)) = (-10000))) then (-10000) else (bif (wokF M n 1 false 0) then (wprF M n 1 false 0) else (-10000))) else (bif (bif (decide ((bif (wokF M n 1 false 0) then (wprF M n 1 false 0) else (-10000)) = (-10000))) then none else (some 0)).isNone then (bif (wokF M n 1 false 1) then (wprF M n 1 false 1) else (-10000)) else (mxc (bif (decide ((bif (wokF M n 1 false 0) then (wprF M n 1 false 0) else (-10000)) = (-10000))) then (-10000) else (bif (wokF M n 1 false 0) then (wprF M n 1 false 0) else (-10000))) (bif (wokF M n 1 false 1) then (wprF M n 1 false 1) else (-10000))))) (bif (wokF M n 1 false 2) then (wprF M n 1 false 2) else (-10000))))), .inl 2, .inl (bif (wokF M n 1 false 2) then (wprF M n 1 false 2) else (-10000)), .inl (bz (decide ((bif (decide ((bif (wokF M n 1 false 1) then (wprF M n 1 false 1) else (-10000)) = (-10000))) then (bif (decide ((bif (wokF M n 1 false 0) then (wprF M n 1 false 0) else (-10000)) = (-10000))) then (-10000) else (bif (wokF M n 1 false 0) then (wprF M n 1 false 0) else (-10000))) else (bif (bif (decide ((bif (wokF M n 1 false 0) then (wprF M n 1 false 0) else (-10000)) = (-10000))) then none else (some 0)).isNone then (bif (wokF M n 1 false 1) then (wprF M n 1 false 1) else (-10000)) else (mxc (bif (decide ((bif (wokF M n 1 false 0) then (wprF M n 1 false 0) else (-10000)) = (-10000))) then (-10000) else (bif (wokF M n 1 false 0) then (wprF M n 1 false 0) else (-10000))) (bif (wokF M n 1 false 1) then (wprF M n 1 false 1) else (-10000))))) < (bif (wokF M n 1 false 2) then (wprF M n 1 false 2) else (-10000)))))] [] t Q := by
              refine x_iinc (pc' := 87) (y := 3) (ls' := [_, _, _, _, _, _, _, _]) rfl rfl rfl rfl rfl ?_
              refine x_goto (pc' := 10) rfl rfl ?_
              refine x_iload (pc' := 12) rfl rfl rfl ?_
              refine x_iconst (pc' := 13) rfl rfl ?_
              refine x_icmp (a' := 90) (pc' := 16) (z := true) rfl rfl rfl (by decide) (fun _ => ?_) (fun h => by cases h)
              refine x_iload_n (pc' := 91) rfl rfl rfl ?_
              refine x_reti rfl rfl ?_
              exact q (obd_c (obd_c (obd_c obd_n (obd_s (by decide))) (obd_c (obd_s (by decide)) (obd_c (obd_s (by decide)) (obd_c obd_n (obd_s (by decide)))))) (obd_c (obd_s (by decide)) (obd_c (obd_s (by decide)) (obd_c (obd_c obd_n (obd_s (by decide))) (obd_c (obd_s (by decide)) (obd_c (obd_s (by decide)) (obd_c obd_n (obd_s (by decide)))))))))
            refine x_icmp (a' := 84) (pc' := 67) (z := decide ((bif (wokF M n 1 false 2) then (wprF M n 1 false 2) else (-10000)) = (-10000))) rfl rfl rfl rfl (fun q20 => ?_) (fun q20 => ?_)
            · ((try rw [q20] at J22); (try rw [q20]); (try simp only [cd_t, cd_f, nt_t, nt_f, an_t, an_f, or_t, or_f] at J22); (try simp only [cd_t, cd_f, nt_t, nt_f, an_t, an_f, or_t, or_f]); exact J22)
            · refine x_iload_n (pc' := 68) rfl rfl rfl ?_
              refine x_iconst (pc' := 69) rfl rfl ?_
              refine x_icmp (a' := 77) (pc' := 72) (z := (bif (decide ((bif (wokF M n 1 false 1) then (wprF M n 1 false 1) else (-10000)) = (-10000))) then (bif (decide ((bif (wokF M n 1 false 0) then (wprF M n 1 false 0) else (-10000)) = (-10000))) then none else (some 0)) else (bif (bif (decide ((bif (wokF M n 1 false 0) then (wprF M n 1 false 0) else (-10000)) = (-10000))) then none else (some 0)).isNone then (some 1) else (bif (decide ((bif (decide ((bif (wokF M n 1 false 0) then (wprF M n 1 false 0) else (-10000)) = (-10000))) then (-10000) else (bif (wokF M n 1 false 0) then (wprF M n 1 false 0) else (-10000))) < (bif (wokF M n 1 false 1) then (wprF M n 1 false 1) else (-10000)))) then (some 1) else (bif (decide ((bif (wokF M n 1 false 0) then (wprF M n 1 false 0) else (-10000)) = (-10000))) then none else (some 0))))).isNone) rfl rfl rfl (ov_eq (ov_31 (N := 3) (obd_c (obd_c obd_n (obd_s (by decide))) (obd_c (obd_s (by decide)) (obd_c (obd_s (by decide)) (obd_c obd_n (obd_s (by decide)))))) (by decide))) (fun q21 => ?_) (fun q21 => ?_)
              · refine x_iload (pc' := 79) rfl rfl rfl ?_
                refine x_istore_n (pc' := 80) (ls' := [_, _, _, _, _, _, _, _]) rfl rfl rfl rfl ?_
                refine x_iload (pc' := 82) rfl rfl rfl ?_
                refine x_istore (pc' := 84) (ls' := [_, _, _, _, _, _, _, _]) rfl rfl rfl rfl ?_
                ((try rw [q21] at J22); (try rw [q21]); (try rw [q20] at J22); (try rw [q20]); (try simp only [cd_t, cd_f, nt_t, nt_f, an_t, an_f, or_t, or_f] at J22); (try simp only [cd_t, cd_f, nt_t, nt_f, an_t, an_f, or_t, or_f]); exact J22)
              · refine x_iload (pc' := 74) rfl rfl rfl ?_
                refine x_ifeq_z (a' := 84) (pc' := 77) (z := (decide ((bif (decide ((bif (wokF M n 1 false 1) then (wprF M n 1 false 1) else (-10000)) = (-10000))) then (bif (decide ((bif (wokF M n 1 false 0) then (wprF M n 1 false 0) else (-10000)) = (-10000))) then (-10000) else (bif (wokF M n 1 false 0) then (wprF M n 1 false 0) else (-10000))) else (bif (bif (decide ((bif (wokF M n 1 false 0) then (wprF M n 1 false 0) else (-10000)) = (-10000))) then none else (some 0)).isNone then (bif (wokF M n 1 false 1) then (wprF M n 1 false 1) else (-10000)) else (mxc (bif (decide ((bif (wokF M n 1 false 0) then (wprF M n 1 false 0) else (-10000)) = (-10000))) then (-10000) else (bif (wokF M n 1 false 0) then (wprF M n 1 false 0) else (-10000))) (bif (wokF M n 1 false 1) then (wprF M n 1 false 1) else (-10000))))) < (bif (wokF M n 1 false 2) then (wprF M n 1 false 2) else (-10000))))) rfl rfl rfl (fun q22 => ?_) (fun q22 => ?_)
                · ((try rw [q22] at J22); (try rw [q22]); (try rw [q21] at J22); (try rw [q21]); (try rw [q20] at J22); (try rw [q20]); (try simp only [cd_t, cd_f, nt_t, nt_f, an_t, an_f, or_t, or_f] at J22); (try simp only [cd_t, cd_f, nt_t, nt_f, an_t, an_f, or_t, or_f]); exact J22)
                · refine x_iload (pc' := 79) rfl rfl rfl ?_
                  refine x_istore_n (pc' := 80) (ls' := [_, _, _, _, _, _, _, _]) rfl rfl rfl rfl ?_
                  refine x_iload (pc' := 82) rfl rfl rfl ?_
                  refine x_istore (pc' := 84) (ls' := [_, _, _, _, _, _, _, _]) rfl rfl rfl rfl ?_
                  ((try rw [q22] at J22); (try rw [q22]); (try rw [q21] at J22); (try rw [q21]); (try rw [q20] at J22); (try rw [q20]); (try simp only [cd_t, cd_f, nt_t, nt_f, an_t, an_f, or_t, or_f] at J22); (try simp only [cd_t, cd_f, nt_t, nt_f, an_t, an_f, or_t, or_f]); exact J22)
          refine x_icmp_n (a' := 56) (pc' := 52) (z := decide ((bif (decide ((bif (wokF M n 1 false 1) then (wprF M n 1 false 1) else (-10000)) = (-10000))) then (bif (decide ((bif (wokF M n 1 false 0) then (wprF M n 1 false 0) else (-10000)) = (-10000))) then (-10000) else (bif (wokF M n 1 false 0) then (wprF M n 1 false 0) else (-10000))) else (bif (bif (decide ((bif (wokF M n 1 false 0) then (wprF M n 1 false 0) else (-10000)) = (-10000))) then none else (some 0)).isNone then (bif (wokF M n 1 false 1) then (wprF M n 1 false 1) else (-10000)) else (mxc (bif (decide ((bif (wokF M n 1 false 0) then (wprF M n 1 false 0) else (-10000)) = (-10000))) then (-10000) else (bif (wokF M n 1 false 0) then (wprF M n 1 false 0) else (-10000))) (bif (wokF M n 1 false 1) then (wprF M n 1 false 1) else (-10000))))) < (bif (wokF M n 1 false 2) then (wprF M n 1 false 2) else (-10000)))) rfl rfl rfl (ik_le _ _) (fun q18 => ?_) (fun q18 => ?_)
          · refine x_iconst (pc' := 57) rfl rfl ?_
            ((try rw [mxc_f q18] at J18); (try rw [q18] at J18); (try rw [q18]); (try simp only [cd_t, cd_f, nt_t, nt_f, an_t, an_f, or_t, or_f] at J18); (try simp only [cd_t, cd_f, nt_t, nt_f, an_t, an_f, or_t, or_f]); exact J18)
          · refine x_iconst (pc' := 53) rfl rfl ?_
            refine x_goto (pc' := 57) rfl rfl ?_
            ((try rw [mxc_t q18] at J18); (try rw [q18] at J18); (try rw [q18]); (try simp only [cd_t, cd_f, nt_t, nt_f, an_t, an_f, or_t, or_f] at J18); (try simp only [cd_t, cd_f, nt_t, nt_f, an_t, an_f, or_t, or_f]); exact J18)
        refine x_icmp (a' := 84) (pc' := 67) (z := decide ((bif (wokF M n 1 false 1) then (wprF M n 1 false 1) else (-10000)) = (-10000))) rfl rfl rfl rfl (fun q12 => ?_) (fun q12 => ?_)
        · ((try rw [q12] at J14); (try rw [q12]); (try simp only [cd_t, cd_f, nt_t, nt_f, an_t, an_f, or_t, or_f] at J14); (try simp only [cd_t, cd_f, nt_t, nt_f, an_t, an_f, or_t, or_f]); exact J14)
        · refine x_iload_n (pc' := 68) rfl rfl rfl ?_
          refine x_iconst (pc' := 69) rfl rfl ?_
          refine x_icmp (a' := 77) (pc' := 72) (z := (bif (decide ((bif (wokF M n 1 false 0) then (wprF M n 1 false 0) else (-10000)) = (-10000))) then none else (some 0)).isNone) rfl rfl rfl (ov_eq (ov_31 (N := 3) (obd_c obd_n (obd_s (by decide))) (by decide))) (fun q13 => ?_) (fun q13 => ?_)
          · refine x_iload (pc' := 79) rfl rfl rfl ?_
            refine x_istore_n (pc' := 80) (ls' := [_, _, _, _, _, _, _, _]) rfl rfl rfl rfl ?_
            refine x_iload (pc' := 82) rfl rfl rfl ?_
            refine x_istore (pc' := 84) (ls' := [_, _, _, _, _, _, _, _]) rfl rfl rfl rfl ?_
            ((try rw [q13] at J14); (try rw [q13]); (try rw [q12] at J14); (try rw [q12]); (try simp only [cd_t, cd_f, nt_t, nt_f, an_t, an_f, or_t, or_f] at J14); (try simp only [cd_t, cd_f, nt_t, nt_f, an_t, an_f, or_t, or_f]); exact J14)
          · refine x_iload (pc' := 74) rfl rfl rfl ?_
            refine x_ifeq_z (a' := 84) (pc' := 77) (z := (decide ((bif (decide ((bif (wokF M n 1 false 0) then (wprF M n 1 false 0) else (-10000)) = (-10000))) then (-10000) else (bif (wokF M n 1 false 0) then (wprF M n 1 false 0) else (-10000))) < (bif (wokF M n 1 false 1) then (wprF M n 1 false 1) else (-10000))))) rfl rfl rfl (fun q14 => ?_) (fun q14 => ?_)
            · ((try rw [q14] at J14); (try rw [q14]); (try rw [q13] at J14); (try rw [q13]); (try rw [q12] at J14); (try rw [q12]); (try simp only [cd_t, cd_f, nt_t, nt_f, an_t, an_f, or_t, or_f] at J14); (try simp only [cd_t, cd_f, nt_t, nt_f, an_t, an_f, or_t, or_f]); exact J14)
            · refine x_iload (pc' := 79) rfl rfl rfl ?_
              refine x_istore_n (pc' := 80) (ls' := [_, _, _, _, _, _, _, _]) rfl rfl rfl rfl ?_
              refine x_iload (pc' := 82) rfl rfl rfl ?_
              refine x_istore (pc' := 84) (ls' := [_, _, _, _, _, _, _, _]) rfl rfl rfl rfl ?_
              ((try rw [q14] at J14); (try rw [q14]); (try rw [q13] at J14); (try rw [q13]); (try rw [q12] at J14); (try rw [q12]); (try simp only [cd_t, cd_f, nt_t, nt_f, an_t, an_f, or_t, or_f] at J14); (try simp only [cd_t, cd_f, nt_t, nt_f, an_t, an_f, or_t, or_f]); exact J14)
      refine x_icmp_n (a' := 56) (pc' := 52) (z := decide ((bif (decide ((bif (wokF M n 1 false 0) then (wprF M n 1 false 0) else (-10000)) = (-10000))) then (-10000) else (bif (wokF M n 1 false 0) then (wprF M n 1 false 0) else (-10000))) < (bif (wokF M n 1 false 1) then (wprF M n 1 false 1) else (-10000)))) rfl rfl rfl (ik_le _ _) (fun q10 => ?_) (fun q10 => ?_)
      · refine x_iconst (pc' := 57) rfl rfl ?_
        ((try rw [mxc_f q10] at J10); (try rw [q10] at J10); (try rw [q10]); (try simp only [cd_t, cd_f, nt_t, nt_f, an_t, an_f, or_t, or_f] at J10); (try simp only [cd_t, cd_f, nt_t, nt_f, an_t, an_f, or_t, or_f]); exact J10)
      · refine x_iconst (pc' := 53) rfl rfl ?_
        refine x_goto (pc' := 57) rfl rfl ?_
        ((try rw [mxc_t q10] at J10); (try rw [q10] at J10); (try rw [q10]); (try simp only [cd_t, cd_f, nt_t, nt_f, an_t, an_f, or_t, or_f] at J10); (try simp only [cd_t, cd_f, nt_t, nt_f, an_t, an_f, or_t, or_f]); exact J10)
    refine x_icmp (a' := 84) (pc' := 67) (z := decide ((bif (wokF M n 1 false 0) then (wprF M n 1 false 0) else (-10000)) = (-10000))) rfl rfl rfl rfl (fun q5 => ?_) (fun q5 => ?_)
    · ((try rw [q5] at J6); (try rw [q5]); (try simp only [cd_t, cd_f, nt_t, nt_f, an_t, an_f, or_t, or_f] at J6); (try simp only [cd_t, cd_f, nt_t, nt_f, an_t, an_f, or_t, or_f]); exact J6)
    · refine x_iload_n (pc' := 68) rfl rfl rfl ?_
      refine x_iconst (pc' := 69) rfl rfl ?_
      refine x_icmp (a' := 77) (pc' := 72) (z := true) rfl rfl rfl (by decide) (fun _ => ?_) (fun h => by cases h)
      refine x_iload (pc' := 79) rfl rfl rfl ?_
      refine x_istore_n (pc' := 80) (ls' := [_, _, _, _, _, _, _, _]) rfl rfl rfl rfl ?_
      refine x_iload (pc' := 82) rfl rfl rfl ?_
      refine x_istore (pc' := 84) (ls' := [_, _, _, _, _, _, _, _]) rfl rfl rfl rfl ?_
      ((try rw [q5] at J6); (try rw [q5]); (try simp only [cd_t, cd_f, nt_t, nt_f, an_t, an_f, or_t, or_f] at J6); (try simp only [cd_t, cd_f, nt_t, nt_f, an_t, an_f, or_t, or_f]); exact J6)
  refine x_icmp_n (a' := 56) (pc' := 52) (z := decide ((-10000) < (bif (wokF M n 1 false 0) then (wprF M n 1 false 0) else (-10000)))) rfl rfl rfl (ik_le _ _) (fun q3 => ?_) (fun q3 => ?_)
  · refine x_iconst (pc' := 57) rfl rfl ?_
    ((try rw [q3] at J3); (try rw [q3]); (try simp only [cd_t, cd_f, nt_t, nt_f, an_t, an_f, or_t, or_f] at J3); (try simp only [cd_t, cd_f, nt_t, nt_f, an_t, an_f, or_t, or_f]); exact J3)
  · refine x_iconst (pc' := 53) rfl rfl ?_
    refine x_goto (pc' := 57) rfl rfl ?_
    ((try rw [q3] at J3); (try rw [q3]); (try simp only [cd_t, cd_f, nt_t, nt_f, an_t, an_f, or_t, or_f] at J3); (try simp only [cd_t, cd_f, nt_t, nt_f, an_t, an_f, or_t, or_f]); exact J3)
def cb1tF (M : sM) (n : Nat) : Option Nat := (bif (decide ((bif (wokF M n 1 true 2) then (wprF M n 1 true 2) else (-10000)) = (-10000))) then (bif (decide ((bif (wokF M n 1 true 1) then (wprF M n 1 true 1) else (-10000)) = (-10000))) then (bif (decide ((bif (wokF M n 1 true 0) then (wprF M n 1 true 0) else (-10000)) = (-10000))) then none else (some 0)) else (bif (bif (decide ((bif (wokF M n 1 true 0) then (wprF M n 1 true 0) else (-10000)) = (-10000))) then none else (some 0)).isNone then (some 1) else (bif (decide ((bif (wokF M n 1 true 1) then (wprF M n 1 true 1) else (-10000)) < (bif (decide ((bif (wokF M n 1 true 0) then (wprF M n 1 true 0) else (-10000)) = (-10000))) then (-10000) else (bif (wokF M n 1 true 0) then (wprF M n 1 true 0) else (-10000))))) then (some 1) else (bif (decide ((bif (wokF M n 1 true 0) then (wprF M n 1 true 0) else (-10000)) = (-10000))) then none else (some 0))))) else (bif (bif (decide ((bif (wokF M n 1 true 1) then (wprF M n 1 true 1) else (-10000)) = (-10000))) then (bif (decide ((bif (wokF M n 1 true 0) then (wprF M n 1 true 0) else (-10000)) = (-10000))) then none else (some 0)) else (bif (bif (decide ((bif (wokF M n 1 true 0) then (wprF M n 1 true 0) else (-10000)) = (-10000))) then none else (some 0)).isNone then (some 1) else (bif (decide ((bif (wokF M n 1 true 1) then (wprF M n 1 true 1) else (-10000)) < (bif (decide ((bif (wokF M n 1 true 0) then (wprF M n 1 true 0) else (-10000)) = (-10000))) then (-10000) else (bif (wokF M n 1 true 0) then (wprF M n 1 true 0) else (-10000))))) then (some 1) else (bif (decide ((bif (wokF M n 1 true 0) then (wprF M n 1 true 0) else (-10000)) = (-10000))) then none else (some 0))))).isNone then (some 2) else (bif (decide ((bif (wokF M n 1 true 2) then (wprF M n 1 true 2) else (-10000)) < (bif (decide ((bif (wokF M n 1 true 1) then (wprF M n 1 true 1) else (-10000)) = (-10000))) then (bif (decide ((bif (wokF M n 1 true 0) then (wprF M n 1 true 0) else (-10000)) = (-10000))) then (-10000) else (bif (wokF M n 1 true 0) then (wprF M n 1 true 0) else (-10000))) else (bif (bif (decide ((bif (wokF M n 1 true 0) then (wprF M n 1 true 0) else (-10000)) = (-10000))) then none else (some 0)).isNone then (bif (wokF M n 1 true 1) then (wprF M n 1 true 1) else (-10000)) else (mnc (bif (wokF M n 1 true 1) then (wprF M n 1 true 1) else (-10000)) (bif (decide ((bif (wokF M n 1 true 0) then (wprF M n 1 true 0) else (-10000)) = (-10000))) then (-10000) else (bif (wokF M n 1 true 0) then (wprF M n 1 true 0) else (-10000)))))))) then (some 2) else (bif (decide ((bif (wokF M n 1 true 1) then (wprF M n 1 true 1) else (-10000)) = (-10000))) then (bif (decide ((bif (wokF M n 1 true 0) then (wprF M n 1 true 0) else (-10000)) = (-10000))) then none else (some 0)) else (bif (bif (decide ((bif (wokF M n 1 true 0) then (wprF M n 1 true 0) else (-10000)) = (-10000))) then none else (some 0)).isNone then (some 1) else (bif (decide ((bif (wokF M n 1 true 1) then (wprF M n 1 true 1) else (-10000)) < (bif (decide ((bif (wokF M n 1 true 0) then (wprF M n 1 true 0) else (-10000)) = (-10000))) then (-10000) else (bif (wokF M n 1 true 0) then (wprF M n 1 true 0) else (-10000))))) then (some 1) else (bif (decide ((bif (wokF M n 1 true 0) then (wprF M n 1 true 0) else (-10000)) = (-10000))) then none else (some 0))))))))
set_option maxHeartbeats 4000000 in
set_option maxRecDepth 10000 in
theorem c82_1t {t : sT} {Q : sRs → sT → Prop} {M : sM} {n : Nat} {T : Nat}
    (hM : Rl t M n T)
    (hc : Sf t M n T)
    (hR : Ri M n)
    (hC : rlC t M n)
    (q : (∀ j, cb1tF M n = some j → j < 3) → Q (.inl (some (.inl (ov (cb1tF M n))))) t) :
    X 82 0 [.inr (.inr (10, (some 0))), .inr (.inr (1, (some 1))), .inl (bz true), sJk, sJk, sJk, sJk, sJk] [] t Q := by
  refine x_iconst (pc' := 1) rfl rfl ?_
  refine x_istore_n (pc' := 2) (ls' := [_, _, _, _, _, _, _, _]) rfl rfl rfl rfl ?_
  refine x_sipush (pc' := 5) rfl rfl ?_
  refine x_istore (pc' := 7) (ls' := [_, _, _, _, _, _, _, _]) rfl rfl rfl rfl ?_
  refine x_iconst (pc' := 8) rfl rfl ?_
  refine x_istore (pc' := 10) (ls' := [_, _, _, _, _, _, _, _]) rfl rfl rfl rfl ?_
  refine x_iload (pc' := 12) rfl rfl rfl ?_
  refine x_iconst (pc' := 13) rfl rfl ?_
  refine x_icmp (a' := 90) (pc' := 16) (z := false) rfl rfl rfl (by decide) (fun h => by cases h) (fun _ => ?_)
  refine x_aload_n (pc' := 17) rfl rfl rfl rfl rfl ?_
  refine x_aload_n (pc' := 18) rfl rfl rfl rfl rfl ?_
  refine x_iload (pc' := 20) rfl rfl rfl ?_
  refine x_iload_n (pc' := 21) rfl rfl rfl ?_
  refine x_cv (ls0 := [_, _, _, _, sJk, sJk, sJk, sJk]) (rest := []) rfl rfl rfl rfl rfl ?_
  refine c81_10t hM hc (Fc.ri (Fc.refl _) hR) hC ?_
  rw [cp10tF_e]
  refine sK_i (pc' := 24) rfl ?_
  refine x_istore (pc' := 26) (ls' := [_, _, _, _, _, _, _, _]) rfl rfl rfl rfl ?_
  refine x_iload_n (pc' := 27) rfl rfl rfl ?_
  refine x_if (a' := 45) (pc' := 30) (z := false) rfl rfl rfl (by decide) (fun h => by cases h) (fun _ => ?_)
  refine x_iload (pc' := 32) rfl rfl rfl ?_
  refine x_iload (pc' := 34) rfl rfl rfl ?_
  have J3 : X 82 57 [.inr (.inr (10, (some 0))), .inr (.inr (1, (some 1))), .inl (bz true), .inl (-1), .inl (-10000), .inl 0, .inl (bif (wokF M n 1 true 0) then (wprF M n 1 true 0) else (-10000)), sJk] [.inl (bz (decide ((bif (wokF M n 1 true 0) then (wprF M n 1 true 0) else (-10000)) < (-10000))))] t Q := by
    refine x_istore (pc' := 59) (ls' := [_, _, _, _, _, _, _, _]) rfl rfl rfl rfl ?_
    refine x_iload (pc' := 61) rfl rfl rfl ?_
    refine x_sipush (pc' := 64) rfl rfl ?_
    have J6 : X 82 84 [.inr (.inr (10, (some 0))), .inr (.inr (1, (some 1))), .inl (bz true), .inl (ov (bif (decide ((bif (wokF M n 1 true 0) then (wprF M n 1 true 0) else (-10000)) = (-10000))) then none else (some 0))), .inl (bif (decide ((bif (wokF M n 1 true 0) then (wprF M n 1 true 0) else (-10000)) = (-10000))) then (-10000) else (bif (wokF M n 1 true 0) then (wprF M n 1 true 0) else (-10000))), .inl 0, .inl (bif (wokF M n 1 true 0) then (wprF M n 1 true 0) else (-10000)), .inl (bz (decide ((bif (wokF M n 1 true 0) then (wprF M n 1 true 0) else (-10000)) < (-10000))))] [] t Q := by
      refine x_iinc (pc' := 87) (y := 1) (ls' := [_, _, _, _, _, _, _, _]) rfl rfl rfl rfl rfl ?_
      refine x_goto (pc' := 10) rfl rfl ?_
      refine x_iload (pc' := 12) rfl rfl rfl ?_
      refine x_iconst (pc' := 13) rfl rfl ?_
      refine x_icmp (a' := 90) (pc' := 16) (z := false) rfl rfl rfl (by decide) (fun h => by cases h) (fun _ => ?_)
      refine x_aload_n (pc' := 17) rfl rfl rfl rfl rfl ?_
      refine x_aload_n (pc' := 18) rfl rfl rfl rfl rfl ?_
      refine x_iload (pc' := 20) rfl rfl rfl ?_
      refine x_iload_n (pc' := 21) rfl rfl rfl ?_
      refine x_cv (ls0 := [_, _, _, _, sJk, sJk, sJk, sJk]) (rest := []) rfl rfl rfl rfl rfl ?_
      refine c81_11t hM hc (Fc.ri (Fc.refl _) hR) hC ?_
      rw [cp11tF_e]
      refine sK_i (pc' := 24) rfl ?_
      refine x_istore (pc' := 26) (ls' := [_, _, _, _, _, _, _, _]) rfl rfl rfl rfl ?_
      refine x_iload_n (pc' := 27) rfl rfl rfl ?_
      refine x_if (a' := 45) (pc' := 30) (z := false) rfl rfl rfl (by decide) (fun h => by cases h) (fun _ => ?_)
      refine x_iload (pc' := 32) rfl rfl rfl ?_
      refine x_iload (pc' := 34) rfl rfl rfl ?_
      have J10 : X 82 57 [.inr (.inr (10, (some 0))), .inr (.inr (1, (some 1))), .inl (bz true), .inl (ov (bif (decide ((bif (wokF M n 1 true 0) then (wprF M n 1 true 0) else (-10000)) = (-10000))) then none else (some 0))), .inl (bif (decide ((bif (wokF M n 1 true 0) then (wprF M n 1 true 0) else (-10000)) = (-10000))) then (-10000) else (bif (wokF M n 1 true 0) then (wprF M n 1 true 0) else (-10000))), .inl 1, .inl (bif (wokF M n 1 true 1) then (wprF M n 1 true 1) else (-10000)), .inl (bz (decide ((bif (wokF M n 1 true 0) then (wprF M n 1 true 0) else (-10000)) < (-10000))))] [.inl (bz (decide ((bif (wokF M n 1 true 1) then (wprF M n 1 true 1) else (-10000)) < (bif (decide ((bif (wokF M n 1 true 0) then (wprF M n 1 true 0) else (-10000)) = (-10000))) then (-10000) else (bif (wokF M n 1 true 0) then (wprF M n 1 true 0) else (-10000))))))] t Q := by
        refine x_istore (pc' := 59) (ls' := [_, _, _, _, _, _, _, _]) rfl rfl rfl rfl ?_
        refine x_iload (pc' := 61) rfl rfl rfl ?_
        refine x_sipush (pc' := 64) rfl rfl ?_
        have J14 : X 82 84 [.inr (.inr (10, (some 0))), .inr (.inr (1, (some 1))), .inl (bz true), .inl (ov (bif (decide ((bif (wokF M n 1 true 1) then (wprF M n 1 true 1) else (-10000)) = (-10000))) then (bif (decide ((bif (wokF M n 1 true 0) then (wprF M n 1 true 0) else (-10000)) = (-10000))) then none else (some 0)) else (bif (bif (decide ((bif (wokF M n 1 true 0) then (wprF M n 1 true 0) else (-10000)) = (-10000))) then none else (some 0)).isNone then (some 1) else (bif (decide ((bif (wokF M n 1 true 1) then (wprF M n 1 true 1) else (-10000)) < (bif (decide ((bif (wokF M n 1 true 0) then (wprF M n 1 true 0) else (-10000)) = (-10000))) then (-10000) else (bif (wokF M n 1 true 0) then (wprF M n 1 true 0) else (-10000))))) then (some 1) else (bif (decide ((bif (wokF M n 1 true 0) then (wprF M n 1 true 0) else (-10000)) = (-10000))) then none else (some 0)))))), .inl (bif (decide ((bif (wokF M n 1 true 1) then (wprF M n 1 true 1) else (-10000)) = (-10000))) then (bif (decide ((bif (wokF M n 1 true 0) then (wprF M n 1 true 0) else (-10000)) = (-10000))) then (-10000) else (bif (wokF M n 1 true 0) then (wprF M n 1 true 0) else (-10000))) else (bif (bif (decide ((bif (wokF M n 1 true 0) then (wprF M n 1 true 0) else (-10000)) = (-10000))) then none else (some 0)).isNone then (bif (wokF M n 1 true 1) then (wprF M n 1 true 1) else (-10000)) else (mnc (bif (wokF M n 1 true 1) then (wprF M n 1 true 1) else (-10000)) (bif (decide ((bif (wokF M n 1 true 0) then (wprF M n 1 true 0) else (-10000)) = (-10000))) then (-10000) else (bif (wokF M n 1 true 0) then (wprF M n 1 true 0) else (-10000)))))), .inl 1, .inl (bif (wokF M n 1 true 1) then (wprF M n 1 true 1) else (-10000)), .inl (bz (decide ((bif (wokF M n 1 true 1) then (wprF M n 1 true 1) else (-10000)) < (bif (decide ((bif (wokF M n 1 true 0) then (wprF M n 1 true 0) else (-10000)) = (-10000))) then (-10000) else (bif (wokF M n 1 true 0) then (wprF M n 1 true 0) else (-10000))))))] [] t Q := by
          refine x_iinc (pc' := 87) (y := 2) (ls' := [_, _, _, _, _, _, _, _]) rfl rfl rfl rfl rfl ?_
          refine x_goto (pc' := 10) rfl rfl ?_
          refine x_iload (pc' := 12) rfl rfl rfl ?_
          refine x_iconst (pc' := 13) rfl rfl ?_
          refine x_icmp (a' := 90) (pc' := 16) (z := false) rfl rfl rfl (by decide) (fun h => by cases h) (fun _ => ?_)
          refine x_aload_n (pc' := 17) rfl rfl rfl rfl rfl ?_
          refine x_aload_n (pc' := 18) rfl rfl rfl rfl rfl ?_
          refine x_iload (pc' := 20) rfl rfl rfl ?_
          refine x_iload_n (pc' := 21) rfl rfl rfl ?_
          refine x_cv (ls0 := [_, _, _, _, sJk, sJk, sJk, sJk]) (rest := []) rfl rfl rfl rfl rfl ?_
          refine c81_12t hM hc (Fc.ri (Fc.refl _) hR) hC ?_
          rw [cp12tF_e]
          refine sK_i (pc' := 24) rfl ?_
          refine x_istore (pc' := 26) (ls' := [_, _, _, _, _, _, _, _]) rfl rfl rfl rfl ?_
          refine x_iload_n (pc' := 27) rfl rfl rfl ?_
          refine x_if (a' := 45) (pc' := 30) (z := false) rfl rfl rfl (by decide) (fun h => by cases h) (fun _ => ?_)
          refine x_iload (pc' := 32) rfl rfl rfl ?_
          refine x_iload (pc' := 34) rfl rfl rfl ?_
          have J18 : X 82 57 [.inr (.inr (10, (some 0))), .inr (.inr (1, (some 1))), .inl (bz true), .inl (ov (bif (decide ((bif (wokF M n 1 true 1) then (wprF M n 1 true 1) else (-10000)) = (-10000))) then (bif (decide ((bif (wokF M n 1 true 0) then (wprF M n 1 true 0) else (-10000)) = (-10000))) then none else (some 0)) else (bif (bif (decide ((bif (wokF M n 1 true 0) then (wprF M n 1 true 0) else (-10000)) = (-10000))) then none else (some 0)).isNone then (some 1) else (bif (decide ((bif (wokF M n 1 true 1) then (wprF M n 1 true 1) else (-10000)) < (bif (decide ((bif (wokF M n 1 true 0) then (wprF M n 1 true 0) else (-10000)) = (-10000))) then (-10000) else (bif (wokF M n 1 true 0) then (wprF M n 1 true 0) else (-10000))))) then (some 1) else (bif (decide ((bif (wokF M n 1 true 0) then (wprF M n 1 true 0) else (-10000)) = (-10000))) then none else (some 0)))))), .inl (bif (decide ((bif (wokF M n 1 true 1) then (wprF M n 1 true 1) else (-10000)) = (-10000))) then (bif (decide ((bif (wokF M n 1 true 0) then (wprF M n 1 true 0) else (-10000)) = (-10000))) then (-10000) else (bif (wokF M n 1 true 0) then (wprF M n 1 true 0) else (-10000))) else (bif (bif (decide ((bif (wokF M n 1 true 0) then (wprF M n 1 true 0) else (-10000)) = (-10000))) then none else (some 0)).isNone then (bif (wokF M n 1 true 1) then (wprF M n 1 true 1) else (-10000)) else (mnc (bif (wokF M n 1 true 1) then (wprF M n 1 true 1) else (-10000)) (bif (decide ((bif (wokF M n 1 true 0) then (wprF M n 1 true 0) else (-10000)) = (-10000))) then (-10000) else (bif (wokF M n 1 true 0) then (wprF M n 1 true 0) else (-10000)))))), .inl 2, .inl (bif (wokF M n 1 true 2) then (wprF M n 1 true 2) else (-10000)), .inl (bz (decide ((bif (wokF M n 1 true 1) then (wprF M n 1 true 1) else (-10000)) < (bif (decide ((bif (wokF M n 1 true 0) then (wprF M n 1 true 0) else (-10000)) = (-10000))) then (-10000) else (bif (wokF M n 1 true 0) then (wprF M n 1 true 0) else (-10000))))))] [.inl (bz (decide ((bif (wokF M n 1 true 2) then (wprF M n 1 true 2) else (-10000)) < (bif (decide ((bif (wokF M n 1 true 1) then (wprF M n 1 true 1) else (-10000)) = (-10000))) then (bif (decide ((bif (wokF M n 1 true 0) then (wprF M n 1 true 0) else (-10000)) = (-10000))) then (-10000) else (bif (wokF M n 1 true 0) then (wprF M n 1 true 0) else (-10000))) else (bif (bif (decide ((bif (wokF M n 1 true 0) then (wprF M n 1 true 0) else (-10000)) = (-10000))) then none else (some 0)).isNone then (bif (wokF M n 1 true 1) then (wprF M n 1 true 1) else (-10000)) else (mnc (bif (wokF M n 1 true 1) then (wprF M n 1 true 1) else (-10000)) (bif (decide ((bif (wokF M n 1 true 0) then (wprF M n 1 true 0) else (-10000)) = (-10000))) then (-10000) else (bif (wokF M n 1 true 0) then (wprF M n 1 true 0) else (-10000)))))))))] t Q := by
            refine x_istore (pc' := 59) (ls' := [_, _, _, _, _, _, _, _]) rfl rfl rfl rfl ?_
            refine x_iload (pc' := 61) rfl rfl rfl ?_
            refine x_sipush (pc' := 64) rfl rfl ?_
            have J22 : X 82 84 [.inr (.inr (10, (some 0))), .inr (.inr (1, (some 1))), .inl (bz true), .inl (ov (bif (decide ((bif (wokF M n 1 true 2) then (wprF M n 1 true 2) else (-10000)) = (-10000))) then (bif (decide ((bif (wokF M n 1 true 1) then (wprF M n 1 true 1) else (-10000)) = (-10000))) then (bif (decide ((bif (wokF M n 1 true 0) then (wprF M n 1 true 0) else (-10000)) = (-10000))) then none else (some 0)) else (bif (bif (decide ((bif (wokF M n 1 true 0) then (wprF M n 1 true 0) else (-10000)) = (-10000))) then none else (some 0)).isNone then (some 1) else (bif (decide ((bif (wokF M n 1 true 1) then (wprF M n 1 true 1) else (-10000)) < (bif (decide ((bif (wokF M n 1 true 0) then (wprF M n 1 true 0) else (-10000)) = (-10000))) then (-10000) else (bif (wokF M n 1 true 0) then (wprF M n 1 true 0) else (-10000))))) then (some 1) else (bif (decide ((bif (wokF M n 1 true 0) then (wprF M n 1 true 0) else (-10000)) = (-10000))) then none else (some 0))))) else (bif (bif (decide ((bif (wokF M n 1 true 1) then (wprF M n 1 true 1) else (-10000)) = (-10000))) then (bif (decide ((bif (wokF M n 1 true 0) then (wprF M n 1 true 0) else (-10000)) = (-10000))) then none else (some 0)) else (bif (bif (decide ((bif (wokF M n 1 true 0) then (wprF M n 1 true 0) else (-10000)) = (-10000))) then none else (some 0)).isNone then (some 1) else (bif (decide ((bif (wokF M n 1 true 1) then (wprF M n 1 true 1) else (-10000)) < (bif (decide ((bif (wokF M n 1 true 0) then (wprF M n 1 true 0) else (-10000)) = (-10000))) then (-10000) else (bif (wokF M n 1 true 0) then (wprF M n 1 true 0) else (-10000))))) then (some 1) else (bif (decide ((bif (wokF M n 1 true 0) then (wprF M n 1 true 0) else (-10000)) = (-10000))) then none else (some 0))))).isNone then (some 2) else (bif (decide ((bif (wokF M n 1 true 2) then (wprF M n 1 true 2) else (-10000)) < (bif (decide ((bif (wokF M n 1 true 1) then (wprF M n 1 true 1) else (-10000)) = (-10000))) then (bif (decide ((bif (wokF M n 1 true 0) then (wprF M n 1 true 0) else (-10000)) = (-10000))) then (-10000) else (bif (wokF M n 1 true 0) then (wprF M n 1 true 0) else (-10000))) else (bif (bif (decide ((bif (wokF M n 1 true 0) then (wprF M n 1 true 0) else (-10000)) = (-10000))) then none else (some 0)).isNone then (bif (wokF M n 1 true 1) then (wprF M n 1 true 1) else (-10000)) else (mnc (bif (wokF M n 1 true 1) then (wprF M n 1 true 1) else (-10000)) (bif (decide ((bif (wokF M n 1 true 0) then (wprF M n 1 true 0) else (-10000)) = (-10000))) then (-10000) else (bif (wokF M n 1 true 0) then (wprF M n 1 true 0) else (-10000)))))))) then (some 2) else (bif (decide ((bif (wokF M n 1 true 1) then (wprF M n 1 true 1) else (-10000)) = (-10000))) then (bif (decide ((bif (wokF M n 1 true 0) then (wprF M n 1 true 0) else (-10000)) = (-10000))) then none else (some 0)) else (bif (bif (decide ((bif (wokF M n 1 true 0) then (wprF M n 1 true 0) else (-10000)) = (-10000))) then none else (some 0)).isNone then (some 1) else (bif (decide ((bif (wokF M n 1 true 1) then (wprF M n 1 true 1) else (-10000)) < (bif (decide ((bif (wokF M n 1 true 0) then (wprF M n 1 true 0) else (-10000)) = (-10000))) then (-10000) else (bif (wokF M n 1 true 0) then (wprF M n 1 true 0) else (-10000))))) then (some 1) else (bif (decide ((bif (wokF M n 1 true 0) then (wprF M n 1 true 0) else (-10000)) = (-10000))) then none else (some 0))))))))), .inl (bif (decide ((bif (wokF M n 1 true 2) then (wprF M n 1 true 2) else (-10000)) = (-10000))) then (bif (decide ((bif (wokF M n 1 true 1) then (wprF M n 1 true 1) else (-10000)) = (-10000))) then (bif (decide ((bif (wokF M n 1 true 0) then (wprF M n 1 true 0) else (-10000)) = (-10000))) then (-10000) else (bif (wokF M n 1 true 0) then (wprF M n 1 true 0) else (-10000))) else (bif (bif (decide ((bif (wokF M n 1 true 0) then (wprF M n 1 true 0) else (-10000)) = (-10000))) then none else (some 0)).isNone then (bif (wokF M n 1 true 1) then (wprF M n 1 true 1) else (-10000)) else (mnc (bif (wokF M n 1 true 1) then (wprF M n 1 true 1) else (-10000)) (bif (decide ((bif (wokF M n 1 true 0) then (wprF M n 1 true 0) else (-10000)) = (-10000))) then (-10000) else (bif (wokF M n 1 true 0) then (wprF M n 1 true 0) else (-10000)))))) else (bif (bif (decide ((bif (wokF M n 1 true 1) then (wprF M n 1 true 1) else (-10000)) = (-10000))) then (bif (decide ((bif (wokF M n 1 true 0) then (wprF M n 1 true 0) else (-10000)) = (-10000))) then none else (some 0)) else (bif (bif (decide ((bif (wokF M n 1 true 0) then (wprF M n 1 true 0) else (-10000)) = (-10000))) then none else (some 0)).isNone then (some 1) else (bif (decide ((bif (wokF M n 1 true 1) then (wprF M n 1 true 1) else (-10000)) < (bif (decide ((bif (wokF M n 1 true 0) then (wprF M n 1 true 0) else (-10000)) = (-10000))) then (-10000) else (bif (wokF M n 1 true 0) then (wprF M n 1 true 0) else (-10000))))) then (some 1) else (bif (decide ((bif (wokF M n 1 true 0) then (wprF M n 1 true 0) else (-10000)) = (-10000))) then none else (some 0))))).isNone then (bif (wokF M n 1 true 2) then (wprF M n 1 true 2) else (-10000)) else (mnc (bif (wokF M n 1 true 2) then (wprF M n 1 true 2) else (-10000)) (bif (decide ((bif (wokF M n 1 true 1) then (wprF M n 1 true 1) else (-10000)) = (-10000))) then (bif (decide ((bif (wokF M n 1 true 0) then (wprF M n 1 true 0) else (-10000)) = (-10000))) then (-10000) else (bif (wokF M n 1 true 0) then (wprF M n 1 true 0) else (-10000))) else (bif (bif (decide ((bif (wokF M n 1 true 0) then (wprF M n 1 true 0) else (-10000)) = (-10000))) then none else (some 0)).isNone then (bif (wokF M n 1 true 1) then (wprF M n 1 true 1) else (-10000)) else (mnc (bif (wokF M n 1 true 1) then (wprF M n 1 true 1) else (-10000)) (bif (decide ((bif (wokF M n 1 true 0) then (wprF M n 1 true 0) else (-10000)) = (-10000))) then (-10000) else (bif (wokF M n 1 true 0) then (wprF M n 1 true 0) else (-10000))))))))), .inl 2, .inl (bif (wokF M n 1 true 2) then (wprF M n 1 true 2) else (-10000)), .inl (bz (decide ((bif (wokF M n 1 true 2) then (wprF M n 1 true 2) else (-10000)) < (bif (decide ((bif (wokF M n 1 true 1) then (wprF M n 1 true 1) else (-10000)) = (-10000))) then (bif (decide ((bif (wokF M n 1 true 0) then (wprF M n 1 true 0) else (-10000)) = (-10000))) then (-10000) else (bif (wokF M n 1 true 0) then (wprF M n 1 true 0) else (-10000))) else (bif (bif (decide ((bif (wokF M n 1 true 0) then (wprF M n 1 true 0) else (-10000)) = (-10000))) then none else (some 0)).isNone then (bif (wokF M n 1 true 1) then (wprF M n 1 true 1) else (-10000)) else (mnc (bif (wokF M n 1 true 1) then (wprF M n 1 true 1) else (-10000)) (bif (decide ((bif (wokF M n 1 true 0) then (wprF M n 1 true 0) else (-10000)) = (-10000))) then (-10000) else (bif (wokF M n 1 true 0) then (wprF M n 1 true 0) else (-10000)))))))))] [] t Q := by
              refine x_iinc (pc' := 87) (y := 3) (ls' := [_, _, _, _, _, _, _, _]) rfl rfl rfl rfl rfl ?_
              refine x_goto (pc' := 10) rfl rfl ?_
              refine x_iload (pc' := 12) rfl rfl rfl ?_
              refine x_iconst (pc' := 13) rfl rfl ?_
              refine x_icmp (a' := 90) (pc' := 16) (z := true) rfl rfl rfl (by decide) (fun _ => ?_) (fun h => by cases h)
              refine x_iload_n (pc' := 91) rfl rfl rfl ?_
              refine x_reti rfl rfl ?_
              exact q (obd_c (obd_c (obd_c obd_n (obd_s (by decide))) (obd_c (obd_s (by decide)) (obd_c (obd_s (by decide)) (obd_c obd_n (obd_s (by decide)))))) (obd_c (obd_s (by decide)) (obd_c (obd_s (by decide)) (obd_c (obd_c obd_n (obd_s (by decide))) (obd_c (obd_s (by decide)) (obd_c (obd_s (by decide)) (obd_c obd_n (obd_s (by decide)))))))))
            refine x_icmp (a' := 84) (pc' := 67) (z := decide ((bif (wokF M n 1 true 2) then (wprF M n 1 true 2) else (-10000)) = (-10000))) rfl rfl rfl rfl (fun q20 => ?_) (fun q20 => ?_)
            · ((try rw [q20] at J22); (try rw [q20]); (try simp only [cd_t, cd_f, nt_t, nt_f, an_t, an_f, or_t, or_f] at J22); (try simp only [cd_t, cd_f, nt_t, nt_f, an_t, an_f, or_t, or_f]); exact J22)
            · refine x_iload_n (pc' := 68) rfl rfl rfl ?_
              refine x_iconst (pc' := 69) rfl rfl ?_
              refine x_icmp (a' := 77) (pc' := 72) (z := (bif (decide ((bif (wokF M n 1 true 1) then (wprF M n 1 true 1) else (-10000)) = (-10000))) then (bif (decide ((bif (wokF M n 1 true 0) then (wprF M n 1 true 0) else (-10000)) = (-10000))) then none else (some 0)) else (bif (bif (decide ((bif (wokF M n 1 true 0) then (wprF M n 1 true 0) else (-10000)) = (-10000))) then none else (some 0)).isNone then (some 1) else (bif (decide ((bif (wokF M n 1 true 1) then (wprF M n 1 true 1) else (-10000)) < (bif (decide ((bif (wokF M n 1 true 0) then (wprF M n 1 true 0) else (-10000)) = (-10000))) then (-10000) else (bif (wokF M n 1 true 0) then (wprF M n 1 true 0) else (-10000))))) then (some 1) else (bif (decide ((bif (wokF M n 1 true 0) then (wprF M n 1 true 0) else (-10000)) = (-10000))) then none else (some 0))))).isNone) rfl rfl rfl (ov_eq (ov_31 (N := 3) (obd_c (obd_c obd_n (obd_s (by decide))) (obd_c (obd_s (by decide)) (obd_c (obd_s (by decide)) (obd_c obd_n (obd_s (by decide)))))) (by decide))) (fun q21 => ?_) (fun q21 => ?_)
              · refine x_iload (pc' := 79) rfl rfl rfl ?_
                refine x_istore_n (pc' := 80) (ls' := [_, _, _, _, _, _, _, _]) rfl rfl rfl rfl ?_
                refine x_iload (pc' := 82) rfl rfl rfl ?_
                refine x_istore (pc' := 84) (ls' := [_, _, _, _, _, _, _, _]) rfl rfl rfl rfl ?_
                ((try rw [q21] at J22); (try rw [q21]); (try rw [q20] at J22); (try rw [q20]); (try simp only [cd_t, cd_f, nt_t, nt_f, an_t, an_f, or_t, or_f] at J22); (try simp only [cd_t, cd_f, nt_t, nt_f, an_t, an_f, or_t, or_f]); exact J22)
              · refine x_iload (pc' := 74) rfl rfl rfl ?_
                refine x_ifeq_z (a' := 84) (pc' := 77) (z := (decide ((bif (wokF M n 1 true 2) then (wprF M n 1 true 2) else (-10000)) < (bif (decide ((bif (wokF M n 1 true 1) then (wprF M n 1 true 1) else (-10000)) = (-10000))) then (bif (decide ((bif (wokF M n 1 true 0) then (wprF M n 1 true 0) else (-10000)) = (-10000))) then (-10000) else (bif (wokF M n 1 true 0) then (wprF M n 1 true 0) else (-10000))) else (bif (bif (decide ((bif (wokF M n 1 true 0) then (wprF M n 1 true 0) else (-10000)) = (-10000))) then none else (some 0)).isNone then (bif (wokF M n 1 true 1) then (wprF M n 1 true 1) else (-10000)) else (mnc (bif (wokF M n 1 true 1) then (wprF M n 1 true 1) else (-10000)) (bif (decide ((bif (wokF M n 1 true 0) then (wprF M n 1 true 0) else (-10000)) = (-10000))) then (-10000) else (bif (wokF M n 1 true 0) then (wprF M n 1 true 0) else (-10000))))))))) rfl rfl rfl (fun q22 => ?_) (fun q22 => ?_)
                · ((try rw [q22] at J22); (try rw [q22]); (try rw [q21] at J22); (try rw [q21]); (try rw [q20] at J22); (try rw [q20]); (try simp only [cd_t, cd_f, nt_t, nt_f, an_t, an_f, or_t, or_f] at J22); (try simp only [cd_t, cd_f, nt_t, nt_f, an_t, an_f, or_t, or_f]); exact J22)
                · refine x_iload (pc' := 79) rfl rfl rfl ?_
                  refine x_istore_n (pc' := 80) (ls' := [_, _, _, _, _, _, _, _]) rfl rfl rfl rfl ?_
                  refine x_iload (pc' := 82) rfl rfl rfl ?_
                  refine x_istore (pc' := 84) (ls' := [_, _, _, _, _, _, _, _]) rfl rfl rfl rfl ?_
                  ((try rw [q22] at J22); (try rw [q22]); (try rw [q21] at J22); (try rw [q21]); (try rw [q20] at J22); (try rw [q20]); (try simp only [cd_t, cd_f, nt_t, nt_f, an_t, an_f, or_t, or_f] at J22); (try simp only [cd_t, cd_f, nt_t, nt_f, an_t, an_f, or_t, or_f]); exact J22)
          refine x_icmp_n (a' := 41) (pc' := 37) (z := decide ((bif (wokF M n 1 true 2) then (wprF M n 1 true 2) else (-10000)) < (bif (decide ((bif (wokF M n 1 true 1) then (wprF M n 1 true 1) else (-10000)) = (-10000))) then (bif (decide ((bif (wokF M n 1 true 0) then (wprF M n 1 true 0) else (-10000)) = (-10000))) then (-10000) else (bif (wokF M n 1 true 0) then (wprF M n 1 true 0) else (-10000))) else (bif (bif (decide ((bif (wokF M n 1 true 0) then (wprF M n 1 true 0) else (-10000)) = (-10000))) then none else (some 0)).isNone then (bif (wokF M n 1 true 1) then (wprF M n 1 true 1) else (-10000)) else (mnc (bif (wokF M n 1 true 1) then (wprF M n 1 true 1) else (-10000)) (bif (decide ((bif (wokF M n 1 true 0) then (wprF M n 1 true 0) else (-10000)) = (-10000))) then (-10000) else (bif (wokF M n 1 true 0) then (wprF M n 1 true 0) else (-10000)))))))) rfl rfl rfl (ik_ge _ _) (fun q18 => ?_) (fun q18 => ?_)
          · refine x_iconst (pc' := 42) rfl rfl ?_
            refine x_goto (pc' := 57) rfl rfl ?_
            ((try rw [mnc_f q18] at J18); (try rw [q18] at J18); (try rw [q18]); (try simp only [cd_t, cd_f, nt_t, nt_f, an_t, an_f, or_t, or_f] at J18); (try simp only [cd_t, cd_f, nt_t, nt_f, an_t, an_f, or_t, or_f]); exact J18)
          · refine x_iconst (pc' := 38) rfl rfl ?_
            refine x_goto (pc' := 57) rfl rfl ?_
            ((try rw [mnc_t q18] at J18); (try rw [q18] at J18); (try rw [q18]); (try simp only [cd_t, cd_f, nt_t, nt_f, an_t, an_f, or_t, or_f] at J18); (try simp only [cd_t, cd_f, nt_t, nt_f, an_t, an_f, or_t, or_f]); exact J18)
        refine x_icmp (a' := 84) (pc' := 67) (z := decide ((bif (wokF M n 1 true 1) then (wprF M n 1 true 1) else (-10000)) = (-10000))) rfl rfl rfl rfl (fun q12 => ?_) (fun q12 => ?_)
        · ((try rw [q12] at J14); (try rw [q12]); (try simp only [cd_t, cd_f, nt_t, nt_f, an_t, an_f, or_t, or_f] at J14); (try simp only [cd_t, cd_f, nt_t, nt_f, an_t, an_f, or_t, or_f]); exact J14)
        · refine x_iload_n (pc' := 68) rfl rfl rfl ?_
          refine x_iconst (pc' := 69) rfl rfl ?_
          refine x_icmp (a' := 77) (pc' := 72) (z := (bif (decide ((bif (wokF M n 1 true 0) then (wprF M n 1 true 0) else (-10000)) = (-10000))) then none else (some 0)).isNone) rfl rfl rfl (ov_eq (ov_31 (N := 3) (obd_c obd_n (obd_s (by decide))) (by decide))) (fun q13 => ?_) (fun q13 => ?_)
          · refine x_iload (pc' := 79) rfl rfl rfl ?_
            refine x_istore_n (pc' := 80) (ls' := [_, _, _, _, _, _, _, _]) rfl rfl rfl rfl ?_
            refine x_iload (pc' := 82) rfl rfl rfl ?_
            refine x_istore (pc' := 84) (ls' := [_, _, _, _, _, _, _, _]) rfl rfl rfl rfl ?_
            ((try rw [q13] at J14); (try rw [q13]); (try rw [q12] at J14); (try rw [q12]); (try simp only [cd_t, cd_f, nt_t, nt_f, an_t, an_f, or_t, or_f] at J14); (try simp only [cd_t, cd_f, nt_t, nt_f, an_t, an_f, or_t, or_f]); exact J14)
          · refine x_iload (pc' := 74) rfl rfl rfl ?_
            refine x_ifeq_z (a' := 84) (pc' := 77) (z := (decide ((bif (wokF M n 1 true 1) then (wprF M n 1 true 1) else (-10000)) < (bif (decide ((bif (wokF M n 1 true 0) then (wprF M n 1 true 0) else (-10000)) = (-10000))) then (-10000) else (bif (wokF M n 1 true 0) then (wprF M n 1 true 0) else (-10000)))))) rfl rfl rfl (fun q14 => ?_) (fun q14 => ?_)
            · ((try rw [q14] at J14); (try rw [q14]); (try rw [q13] at J14); (try rw [q13]); (try rw [q12] at J14); (try rw [q12]); (try simp only [cd_t, cd_f, nt_t, nt_f, an_t, an_f, or_t, or_f] at J14); (try simp only [cd_t, cd_f, nt_t, nt_f, an_t, an_f, or_t, or_f]); exact J14)
            · refine x_iload (pc' := 79) rfl rfl rfl ?_
              refine x_istore_n (pc' := 80) (ls' := [_, _, _, _, _, _, _, _]) rfl rfl rfl rfl ?_
              refine x_iload (pc' := 82) rfl rfl rfl ?_
              refine x_istore (pc' := 84) (ls' := [_, _, _, _, _, _, _, _]) rfl rfl rfl rfl ?_
              ((try rw [q14] at J14); (try rw [q14]); (try rw [q13] at J14); (try rw [q13]); (try rw [q12] at J14); (try rw [q12]); (try simp only [cd_t, cd_f, nt_t, nt_f, an_t, an_f, or_t, or_f] at J14); (try simp only [cd_t, cd_f, nt_t, nt_f, an_t, an_f, or_t, or_f]); exact J14)
      refine x_icmp_n (a' := 41) (pc' := 37) (z := decide ((bif (wokF M n 1 true 1) then (wprF M n 1 true 1) else (-10000)) < (bif (decide ((bif (wokF M n 1 true 0) then (wprF M n 1 true 0) else (-10000)) = (-10000))) then (-10000) else (bif (wokF M n 1 true 0) then (wprF M n 1 true 0) else (-10000))))) rfl rfl rfl (ik_ge _ _) (fun q10 => ?_) (fun q10 => ?_)
      · refine x_iconst (pc' := 42) rfl rfl ?_
        refine x_goto (pc' := 57) rfl rfl ?_
        ((try rw [mnc_f q10] at J10); (try rw [q10] at J10); (try rw [q10]); (try simp only [cd_t, cd_f, nt_t, nt_f, an_t, an_f, or_t, or_f] at J10); (try simp only [cd_t, cd_f, nt_t, nt_f, an_t, an_f, or_t, or_f]); exact J10)
      · refine x_iconst (pc' := 38) rfl rfl ?_
        refine x_goto (pc' := 57) rfl rfl ?_
        ((try rw [mnc_t q10] at J10); (try rw [q10] at J10); (try rw [q10]); (try simp only [cd_t, cd_f, nt_t, nt_f, an_t, an_f, or_t, or_f] at J10); (try simp only [cd_t, cd_f, nt_t, nt_f, an_t, an_f, or_t, or_f]); exact J10)
    refine x_icmp (a' := 84) (pc' := 67) (z := decide ((bif (wokF M n 1 true 0) then (wprF M n 1 true 0) else (-10000)) = (-10000))) rfl rfl rfl rfl (fun q5 => ?_) (fun q5 => ?_)
    · ((try rw [q5] at J6); (try rw [q5]); (try simp only [cd_t, cd_f, nt_t, nt_f, an_t, an_f, or_t, or_f] at J6); (try simp only [cd_t, cd_f, nt_t, nt_f, an_t, an_f, or_t, or_f]); exact J6)
    · refine x_iload_n (pc' := 68) rfl rfl rfl ?_
      refine x_iconst (pc' := 69) rfl rfl ?_
      refine x_icmp (a' := 77) (pc' := 72) (z := true) rfl rfl rfl (by decide) (fun _ => ?_) (fun h => by cases h)
      refine x_iload (pc' := 79) rfl rfl rfl ?_
      refine x_istore_n (pc' := 80) (ls' := [_, _, _, _, _, _, _, _]) rfl rfl rfl rfl ?_
      refine x_iload (pc' := 82) rfl rfl rfl ?_
      refine x_istore (pc' := 84) (ls' := [_, _, _, _, _, _, _, _]) rfl rfl rfl rfl ?_
      ((try rw [q5] at J6); (try rw [q5]); (try simp only [cd_t, cd_f, nt_t, nt_f, an_t, an_f, or_t, or_f] at J6); (try simp only [cd_t, cd_f, nt_t, nt_f, an_t, an_f, or_t, or_f]); exact J6)
  refine x_icmp_n (a' := 41) (pc' := 37) (z := decide ((bif (wokF M n 1 true 0) then (wprF M n 1 true 0) else (-10000)) < (-10000))) rfl rfl rfl (ik_ge _ _) (fun q3 => ?_) (fun q3 => ?_)
  · refine x_iconst (pc' := 42) rfl rfl ?_
    refine x_goto (pc' := 57) rfl rfl ?_
    ((try rw [q3] at J3); (try rw [q3]); (try simp only [cd_t, cd_f, nt_t, nt_f, an_t, an_f, or_t, or_f] at J3); (try simp only [cd_t, cd_f, nt_t, nt_f, an_t, an_f, or_t, or_f]); exact J3)
  · refine x_iconst (pc' := 38) rfl rfl ?_
    refine x_goto (pc' := 57) rfl rfl ?_
    ((try rw [q3] at J3); (try rw [q3]); (try simp only [cd_t, cd_f, nt_t, nt_f, an_t, an_f, or_t, or_f] at J3); (try simp only [cd_t, cd_f, nt_t, nt_f, an_t, an_f, or_t, or_f]); exact J3)
def cb2fF (M : sM) (n : Nat) : Option Nat := (bif (decide ((bif (wokF M n 2 false 2) then (wprF M n 2 false 2) else (-10000)) = (-10000))) then (bif (decide ((bif (wokF M n 2 false 1) then (wprF M n 2 false 1) else (-10000)) = (-10000))) then (bif (decide ((bif (wokF M n 2 false 0) then (wprF M n 2 false 0) else (-10000)) = (-10000))) then none else (some 0)) else (bif (bif (decide ((bif (wokF M n 2 false 0) then (wprF M n 2 false 0) else (-10000)) = (-10000))) then none else (some 0)).isNone then (some 1) else (bif (decide ((bif (decide ((bif (wokF M n 2 false 0) then (wprF M n 2 false 0) else (-10000)) = (-10000))) then (-10000) else (bif (wokF M n 2 false 0) then (wprF M n 2 false 0) else (-10000))) < (bif (wokF M n 2 false 1) then (wprF M n 2 false 1) else (-10000)))) then (some 1) else (bif (decide ((bif (wokF M n 2 false 0) then (wprF M n 2 false 0) else (-10000)) = (-10000))) then none else (some 0))))) else (bif (bif (decide ((bif (wokF M n 2 false 1) then (wprF M n 2 false 1) else (-10000)) = (-10000))) then (bif (decide ((bif (wokF M n 2 false 0) then (wprF M n 2 false 0) else (-10000)) = (-10000))) then none else (some 0)) else (bif (bif (decide ((bif (wokF M n 2 false 0) then (wprF M n 2 false 0) else (-10000)) = (-10000))) then none else (some 0)).isNone then (some 1) else (bif (decide ((bif (decide ((bif (wokF M n 2 false 0) then (wprF M n 2 false 0) else (-10000)) = (-10000))) then (-10000) else (bif (wokF M n 2 false 0) then (wprF M n 2 false 0) else (-10000))) < (bif (wokF M n 2 false 1) then (wprF M n 2 false 1) else (-10000)))) then (some 1) else (bif (decide ((bif (wokF M n 2 false 0) then (wprF M n 2 false 0) else (-10000)) = (-10000))) then none else (some 0))))).isNone then (some 2) else (bif (decide ((bif (decide ((bif (wokF M n 2 false 1) then (wprF M n 2 false 1) else (-10000)) = (-10000))) then (bif (decide ((bif (wokF M n 2 false 0) then (wprF M n 2 false 0) else (-10000)) = (-10000))) then (-10000) else (bif (wokF M n 2 false 0) then (wprF M n 2 false 0) else (-10000))) else (bif (bif (decide ((bif (wokF M n 2 false 0) then (wprF M n 2 false 0) else (-10000)) = (-10000))) then none else (some 0)).isNone then (bif (wokF M n 2 false 1) then (wprF M n 2 false 1) else (-10000)) else (mxc (bif (decide ((bif (wokF M n 2 false 0) then (wprF M n 2 false 0) else (-10000)) = (-10000))) then (-10000) else (bif (wokF M n 2 false 0) then (wprF M n 2 false 0) else (-10000))) (bif (wokF M n 2 false 1) then (wprF M n 2 false 1) else (-10000))))) < (bif (wokF M n 2 false 2) then (wprF M n 2 false 2) else (-10000)))) then (some 2) else (bif (decide ((bif (wokF M n 2 false 1) then (wprF M n 2 false 1) else (-10000)) = (-10000))) then (bif (decide ((bif (wokF M n 2 false 0) then (wprF M n 2 false 0) else (-10000)) = (-10000))) then none else (some 0)) else (bif (bif (decide ((bif (wokF M n 2 false 0) then (wprF M n 2 false 0) else (-10000)) = (-10000))) then none else (some 0)).isNone then (some 1) else (bif (decide ((bif (decide ((bif (wokF M n 2 false 0) then (wprF M n 2 false 0) else (-10000)) = (-10000))) then (-10000) else (bif (wokF M n 2 false 0) then (wprF M n 2 false 0) else (-10000))) < (bif (wokF M n 2 false 1) then (wprF M n 2 false 1) else (-10000)))) then (some 1) else (bif (decide ((bif (wokF M n 2 false 0) then (wprF M n 2 false 0) else (-10000)) = (-10000))) then none else (some 0))))))))
set_option maxHeartbeats 4000000 in
set_option maxRecDepth 10000 in
theorem c82_2f {t : sT} {Q : sRs → sT → Prop} {M : sM} {n : Nat} {T : Nat}
    (hM : Rl t M n T)
    (hc : Sf t M n T)
    (hR : Ri M n)
    (hC : rlC t M n)
    (q : (∀ j, cb2fF M n = some j → j < 3) → Q (.inl (some (.inl (ov (cb2fF M n))))) t) :
    X 82 0 [.inr (.inr (10, (some 0))), .inr (.inr (1, (some 2))), .inl (bz false), sJk, sJk, sJk, sJk, sJk] [] t Q := by
  refine x_iconst (pc' := 1) rfl rfl ?_
  refine x_istore_n (pc' := 2) (ls' := [_, _, _, _, _, _, _, _]) rfl rfl rfl rfl ?_
  refine x_sipush (pc' := 5) rfl rfl ?_
  refine x_istore (pc' := 7) (ls' := [_, _, _, _, _, _, _, _]) rfl rfl rfl rfl ?_
  refine x_iconst (pc' := 8) rfl rfl ?_
  refine x_istore (pc' := 10) (ls' := [_, _, _, _, _, _, _, _]) rfl rfl rfl rfl ?_
  refine x_iload (pc' := 12) rfl rfl rfl ?_
  refine x_iconst (pc' := 13) rfl rfl ?_
  refine x_icmp (a' := 90) (pc' := 16) (z := false) rfl rfl rfl (by decide) (fun h => by cases h) (fun _ => ?_)
  refine x_aload_n (pc' := 17) rfl rfl rfl rfl rfl ?_
  refine x_aload_n (pc' := 18) rfl rfl rfl rfl rfl ?_
  refine x_iload (pc' := 20) rfl rfl rfl ?_
  refine x_iload_n (pc' := 21) rfl rfl rfl ?_
  refine x_cv (ls0 := [_, _, _, _, sJk, sJk, sJk, sJk]) (rest := []) rfl rfl rfl rfl rfl ?_
  refine c81_20f hM hc (Fc.ri (Fc.refl _) hR) hC ?_
  rw [cp20fF_e]
  refine sK_i (pc' := 24) rfl ?_
  refine x_istore (pc' := 26) (ls' := [_, _, _, _, _, _, _, _]) rfl rfl rfl rfl ?_
  refine x_iload_n (pc' := 27) rfl rfl rfl ?_
  refine x_if (a' := 45) (pc' := 30) (z := true) rfl rfl rfl (by decide) (fun _ => ?_) (fun h => by cases h)
  refine x_iload (pc' := 47) rfl rfl rfl ?_
  refine x_iload (pc' := 49) rfl rfl rfl ?_
  have J3 : X 82 57 [.inr (.inr (10, (some 0))), .inr (.inr (1, (some 2))), .inl (bz false), .inl (-1), .inl (-10000), .inl 0, .inl (bif (wokF M n 2 false 0) then (wprF M n 2 false 0) else (-10000)), sJk] [.inl (bz (decide ((-10000) < (bif (wokF M n 2 false 0) then (wprF M n 2 false 0) else (-10000)))))] t Q := by
    refine x_istore (pc' := 59) (ls' := [_, _, _, _, _, _, _, _]) rfl rfl rfl rfl ?_
    refine x_iload (pc' := 61) rfl rfl rfl ?_
    refine x_sipush (pc' := 64) rfl rfl ?_
    have J6 : X 82 84 [.inr (.inr (10, (some 0))), .inr (.inr (1, (some 2))), .inl (bz false), .inl (ov (bif (decide ((bif (wokF M n 2 false 0) then (wprF M n 2 false 0) else (-10000)) = (-10000))) then none else (some 0))), .inl (bif (decide ((bif (wokF M n 2 false 0) then (wprF M n 2 false 0) else (-10000)) = (-10000))) then (-10000) else (bif (wokF M n 2 false 0) then (wprF M n 2 false 0) else (-10000))), .inl 0, .inl (bif (wokF M n 2 false 0) then (wprF M n 2 false 0) else (-10000)), .inl (bz (decide ((-10000) < (bif (wokF M n 2 false 0) then (wprF M n 2 false 0) else (-10000)))))] [] t Q := by
      refine x_iinc (pc' := 87) (y := 1) (ls' := [_, _, _, _, _, _, _, _]) rfl rfl rfl rfl rfl ?_
      refine x_goto (pc' := 10) rfl rfl ?_
      refine x_iload (pc' := 12) rfl rfl rfl ?_
      refine x_iconst (pc' := 13) rfl rfl ?_
      refine x_icmp (a' := 90) (pc' := 16) (z := false) rfl rfl rfl (by decide) (fun h => by cases h) (fun _ => ?_)
      refine x_aload_n (pc' := 17) rfl rfl rfl rfl rfl ?_
      refine x_aload_n (pc' := 18) rfl rfl rfl rfl rfl ?_
      refine x_iload (pc' := 20) rfl rfl rfl ?_
      refine x_iload_n (pc' := 21) rfl rfl rfl ?_
      refine x_cv (ls0 := [_, _, _, _, sJk, sJk, sJk, sJk]) (rest := []) rfl rfl rfl rfl rfl ?_
      refine c81_21f hM hc (Fc.ri (Fc.refl _) hR) hC ?_
      rw [cp21fF_e]
      refine sK_i (pc' := 24) rfl ?_
      refine x_istore (pc' := 26) (ls' := [_, _, _, _, _, _, _, _]) rfl rfl rfl rfl ?_
      refine x_iload_n (pc' := 27) rfl rfl rfl ?_
      refine x_if (a' := 45) (pc' := 30) (z := true) rfl rfl rfl (by decide) (fun _ => ?_) (fun h => by cases h)
      refine x_iload (pc' := 47) rfl rfl rfl ?_
      refine x_iload (pc' := 49) rfl rfl rfl ?_
      have J10 : X 82 57 [.inr (.inr (10, (some 0))), .inr (.inr (1, (some 2))), .inl (bz false), .inl (ov (bif (decide ((bif (wokF M n 2 false 0) then (wprF M n 2 false 0) else (-10000)) = (-10000))) then none else (some 0))), .inl (bif (decide ((bif (wokF M n 2 false 0) then (wprF M n 2 false 0) else (-10000)) = (-10000))) then (-10000) else (bif (wokF M n 2 false 0) then (wprF M n 2 false 0) else (-10000))), .inl 1, .inl (bif (wokF M n 2 false 1) then (wprF M n 2 false 1) else (-10000)), .inl (bz (decide ((-10000) < (bif (wokF M n 2 false 0) then (wprF M n 2 false 0) else (-10000)))))] [.inl (bz (decide ((bif (decide ((bif (wokF M n 2 false 0) then (wprF M n 2 false 0) else (-10000)) = (-10000))) then (-10000) else (bif (wokF M n 2 false 0) then (wprF M n 2 false 0) else (-10000))) < (bif (wokF M n 2 false 1) then (wprF M n 2 false 1) else (-10000)))))] t Q := by
        refine x_istore (pc' := 59) (ls' := [_, _, _, _, _, _, _, _]) rfl rfl rfl rfl ?_
        refine x_iload (pc' := 61) rfl rfl rfl ?_
        refine x_sipush (pc' := 64) rfl rfl ?_
        have J14 : X 82 84 [.inr (.inr (10, (some 0))), .inr (.inr (1, (some 2))), .inl (bz false), .inl (ov (bif (decide ((bif (wokF M n 2 false 1) then (wprF M n 2 false 1) else (-10000)) = (-10000))) then (bif (decide ((bif (wokF M n 2 false 0) then (wprF M n 2 false 0) else (-10000)) = (-10000))) then none else (some 0)) else (bif (bif (decide ((bif (wokF M n 2 false 0) then (wprF M n 2 false 0) else (-10000)) = (-10000))) then none else (some 0)).isNone then (some 1) else (bif (decide ((bif (decide ((bif (wokF M n 2 false 0) then (wprF M n 2 false 0) else (-10000)) = (-10000))) then (-10000) else (bif (wokF M n 2 false 0) then (wprF M n 2 false 0) else (-10000))) < (bif (wokF M n 2 false 1) then (wprF M n 2 false 1) else (-10000)))) then (some 1) else (bif (decide ((bif (wokF M n 2 false 0) then (wprF M n 2 false 0) else (-10000)) = (-10000))) then none else (some 0)))))), .inl (bif (decide ((bif (wokF M n 2 false 1) then (wprF M n 2 false 1) else (-10000)) = (-10000))) then (bif (decide ((bif (wokF M n 2 false 0) then (wprF M n 2 false 0) else (-10000)) = (-10000))) then (-10000) else (bif (wokF M n 2 false 0) then (wprF M n 2 false 0) else (-10000))) else (bif (bif (decide ((bif (wokF M n 2 false 0) then (wprF M n 2 false 0) else (-10000)) = (-10000))) then none else (some 0)).isNone then (bif (wokF M n 2 false 1) then (wprF M n 2 false 1) else (-10000)) else (mxc (bif (decide ((bif (wokF M n 2 false 0) then (wprF M n 2 false 0) else (-10000)) = (-10000))) then (-10000) else (bif (wokF M n 2 false 0) then (wprF M n 2 false 0) else (-10000))) (bif (wokF M n 2 false 1) then (wprF M n 2 false 1) else (-10000))))), .inl 1, .inl (bif (wokF M n 2 false 1) then (wprF M n 2 false 1) else (-10000)), .inl (bz (decide ((bif (decide ((bif (wokF M n 2 false 0) then (wprF M n 2 false 0) else (-10000)) = (-10000))) then (-10000) else (bif (wokF M n 2 false 0) then (wprF M n 2 false 0) else (-10000))) < (bif (wokF M n 2 false 1) then (wprF M n 2 false 1) else (-10000)))))] [] t Q := by
          refine x_iinc (pc' := 87) (y := 2) (ls' := [_, _, _, _, _, _, _, _]) rfl rfl rfl rfl rfl ?_
          refine x_goto (pc' := 10) rfl rfl ?_
          refine x_iload (pc' := 12) rfl rfl rfl ?_
          refine x_iconst (pc' := 13) rfl rfl ?_
          refine x_icmp (a' := 90) (pc' := 16) (z := false) rfl rfl rfl (by decide) (fun h => by cases h) (fun _ => ?_)
          refine x_aload_n (pc' := 17) rfl rfl rfl rfl rfl ?_
          refine x_aload_n (pc' := 18) rfl rfl rfl rfl rfl ?_
          refine x_iload (pc' := 20) rfl rfl rfl ?_
          refine x_iload_n (pc' := 21) rfl rfl rfl ?_
          refine x_cv (ls0 := [_, _, _, _, sJk, sJk, sJk, sJk]) (rest := []) rfl rfl rfl rfl rfl ?_
          refine c81_22f hM hc (Fc.ri (Fc.refl _) hR) hC ?_
          rw [cp22fF_e]
          refine sK_i (pc' := 24) rfl ?_
          refine x_istore (pc' := 26) (ls' := [_, _, _, _, _, _, _, _]) rfl rfl rfl rfl ?_
          refine x_iload_n (pc' := 27) rfl rfl rfl ?_
          refine x_if (a' := 45) (pc' := 30) (z := true) rfl rfl rfl (by decide) (fun _ => ?_) (fun h => by cases h)
          refine x_iload (pc' := 47) rfl rfl rfl ?_
          refine x_iload (pc' := 49) rfl rfl rfl ?_
          have J18 : X 82 57 [.inr (.inr (10, (some 0))), .inr (.inr (1, (some 2))), .inl (bz false), .inl (ov (bif (decide ((bif (wokF M n 2 false 1) then (wprF M n 2 false 1) else (-10000)) = (-10000))) then (bif (decide ((bif (wokF M n 2 false 0) then (wprF M n 2 false 0) else (-10000)) = (-10000))) then none else (some 0)) else (bif (bif (decide ((bif (wokF M n 2 false 0) then (wprF M n 2 false 0) else (-10000)) = (-10000))) then none else (some 0)).isNone then (some 1) else (bif (decide ((bif (decide ((bif (wokF M n 2 false 0) then (wprF M n 2 false 0) else (-10000)) = (-10000))) then (-10000) else (bif (wokF M n 2 false 0) then (wprF M n 2 false 0) else (-10000))) < (bif (wokF M n 2 false 1) then (wprF M n 2 false 1) else (-10000)))) then (some 1) else (bif (decide ((bif (wokF M n 2 false 0) then (wprF M n 2 false 0) else (-10000)) = (-10000))) then none else (some 0)))))), .inl (bif (decide ((bif (wokF M n 2 false 1) then (wprF M n 2 false 1) else (-10000)) = (-10000))) then (bif (decide ((bif (wokF M n 2 false 0) then (wprF M n 2 false 0) else (-10000)) = (-10000))) then (-10000) else (bif (wokF M n 2 false 0) then (wprF M n 2 false 0) else (-10000))) else (bif (bif (decide ((bif (wokF M n 2 false 0) then (wprF M n 2 false 0) else (-10000)) = (-10000))) then none else (some 0)).isNone then (bif (wokF M n 2 false 1) then (wprF M n 2 false 1) else (-10000)) else (mxc (bif (decide ((bif (wokF M n 2 false 0) then (wprF M n 2 false 0) else (-10000)) = (-10000))) then (-10000) else (bif (wokF M n 2 false 0) then (wprF M n 2 false 0) else (-10000))) (bif (wokF M n 2 false 1) then (wprF M n 2 false 1) else (-10000))))), .inl 2, .inl (bif (wokF M n 2 false 2) then (wprF M n 2 false 2) else (-10000)), .inl (bz (decide ((bif (decide ((bif (wokF M n 2 false 0) then (wprF M n 2 false 0) else (-10000)) = (-10000))) then (-10000) else (bif (wokF M n 2 false 0) then (wprF M n 2 false 0) else (-10000))) < (bif (wokF M n 2 false 1) then (wprF M n 2 false 1) else (-10000)))))] [.inl (bz (decide ((bif (decide ((bif (wokF M n 2 false 1) then (wprF M n 2 false 1) else (-10000)) = (-10000))) then (bif (decide ((bif (wokF M n 2 false 0) then (wprF M n 2 false 0) else (-10000)) = (-10000))) then (-10000) else (bif (wokF M n 2 false 0) then (wprF M n 2 false 0) else (-10000))) else (bif (bif (decide ((bif (wokF M n 2 false 0) then (wprF M n 2 false 0) else (-10000)) = (-10000))) then none else (some 0)).isNone then (bif (wokF M n 2 false 1) then (wprF M n 2 false 1) else (-10000)) else (mxc (bif (decide ((bif (wokF M n 2 false 0) then (wprF M n 2 false 0) else (-10000)) = (-10000))) then (-10000) else (bif (wokF M n 2 false 0) then (wprF M n 2 false 0) else (-10000))) (bif (wokF M n 2 false 1) then (wprF M n 2 false 1) else (-10000))))) < (bif (wokF M n 2 false 2) then (wprF M n 2 false 2) else (-10000)))))] t Q := by
            refine x_istore (pc' := 59) (ls' := [_, _, _, _, _, _, _, _]) rfl rfl rfl rfl ?_
            refine x_iload (pc' := 61) rfl rfl rfl ?_
            refine x_sipush (pc' := 64) rfl rfl ?_
            have J22 : X 82 84 [.inr (.inr (10, (some 0))), .inr (.inr (1, (some 2))), .inl (bz false), .inl (ov (bif (decide ((bif (wokF M n 2 false 2) then (wprF M n 2 false 2) else (-10000)) = (-10000))) then (bif (decide ((bif (wokF M n 2 false 1) then (wprF M n 2 false 1) else (-10000)) = (-10000))) then (bif (decide ((bif (wokF M n 2 false 0) then (wprF M n 2 false 0) else (-10000)) = (-10000))) then none else (some 0)) else (bif (bif (decide ((bif (wokF M n 2 false 0) then (wprF M n 2 false 0) else (-10000)) = (-10000))) then none else (some 0)).isNone then (some 1) else (bif (decide ((bif (decide ((bif (wokF M n 2 false 0) then (wprF M n 2 false 0) else (-10000)) = (-10000))) then (-10000) else (bif (wokF M n 2 false 0) then (wprF M n 2 false 0) else (-10000))) < (bif (wokF M n 2 false 1) then (wprF M n 2 false 1) else (-10000)))) then (some 1) else (bif (decide ((bif (wokF M n 2 false 0) then (wprF M n 2 false 0) else (-10000)) = (-10000))) then none else (some 0))))) else (bif (bif (decide ((bif (wokF M n 2 false 1) then (wprF M n 2 false 1) else (-10000)) = (-10000))) then (bif (decide ((bif (wokF M n 2 false 0) then (wprF M n 2 false 0) else (-10000)) = (-10000))) then none else (some 0)) else (bif (bif (decide ((bif (wokF M n 2 false 0) then (wprF M n 2 false 0) else (-10000)) = (-10000))) then none else (some 0)).isNone then (some 1) else (bif (decide ((bif (decide ((bif (wokF M n 2 false 0) then (wprF M n 2 false 0) else (-10000)) = (-10000))) then (-10000) else (bif (wokF M n 2 false 0) then (wprF M n 2 false 0) else (-10000))) < (bif (wokF M n 2 false 1) then (wprF M n 2 false 1) else (-10000)))) then (some 1) else (bif (decide ((bif (wokF M n 2 false 0) then (wprF M n 2 false 0) else (-10000)) = (-10000))) then none else (some 0))))).isNone then (some 2) else (bif (decide ((bif (decide ((bif (wokF M n 2 false 1) then (wprF M n 2 false 1) else (-10000)) = (-10000))) then (bif (decide ((bif (wokF M n 2 false 0) then (wprF M n 2 false 0) else (-10000)) = (-10000))) then (-10000) else (bif (wokF M n 2 false 0) then (wprF M n 2 false 0) else (-10000))) else (bif (bif (decide ((bif (wokF M n 2 false 0) then (wprF M n 2 false 0) else (-10000)) = (-10000))) then none else (some 0)).isNone then (bif (wokF M n 2 false 1) then (wprF M n 2 false 1) else (-10000)) else (mxc (bif (decide ((bif (wokF M n 2 false 0) then (wprF M n 2 false 0) else (-10000)) = (-10000))) then (-10000) else (bif (wokF M n 2 false 0) then (wprF M n 2 false 0) else (-10000))) (bif (wokF M n 2 false 1) then (wprF M n 2 false 1) else (-10000))))) < (bif (wokF M n 2 false 2) then (wprF M n 2 false 2) else (-10000)))) then (some 2) else (bif (decide ((bif (wokF M n 2 false 1) then (wprF M n 2 false 1) else (-10000)) = (-10000))) then (bif (decide ((bif (wokF M n 2 false 0) then (wprF M n 2 false 0) else (-10000)) = (-10000))) then none else (some 0)) else (bif (bif (decide ((bif (wokF M n 2 false 0) then (wprF M n 2 false 0) else (-10000)) = (-10000))) then none else (some 0)).isNone then (some 1) else (bif (decide ((bif (decide ((bif (wokF M n 2 false 0) then (wprF M n 2 false 0) else (-10000)) = (-10000))) then (-10000) else (bif (wokF M n 2 false 0) then (wprF M n 2 false 0) else (-10000))) < (bif (wokF M n 2 false 1) then (wprF M n 2 false 1) else (-10000)))) then (some 1) else (bif (decide ((bif (wokF M n 2 false 0) then (wprF M n 2 false 0) else (-10000)) = (-10000))) then none else (some 0))))))))), .inl (bif (decide ((bif (wokF M n 2 false 2) then (wprF M n 2 false 2) else (-10000)) = (-10000))) then (bif (decide ((bif (wokF M n 2 false 1) then (wprF M n 2 false 1) else (-10000)) = (-10000))) then (bif (decide ((bif (wokF M n 2 false 0) then (wprF M n 2 false 0) else (-10000)) = (-10000))) then (-10000) else (bif (wokF M n 2 false 0) then (wprF M n 2 false 0) else (-10000))) else (bif (bif (decide ((bif (wokF M n 2 false 0) then (wprF M n 2 false 0) else (-10000)) = (-10000))) then none else (some 0)).isNone then (bif (wokF M n 2 false 1) then (wprF M n 2 false 1) else (-10000)) else (mxc (bif (decide ((bif (wokF M n 2 false 0) then (wprF M n 2 false 0) else (-10000)) = (-10000))) then (-10000) else (bif (wokF M n 2 false 0) then (wprF M n 2 false 0) else (-10000))) (bif (wokF M n 2 false 1) then (wprF M n 2 false 1) else (-10000))))) else (bif (bif (decide ((bif (wokF M n 2 false 1) then (wprF M n 2 false 1) else (-10000)) = (-10000))) then (bif (decide ((bif (wokF M n 2 false 0) then (wprF M n 2 false 0) else (-10000)) = (-10000))) then none else (some 0)) else (bif (bif (decide ((bif (wokF M n 2 false 0) then (wprF M n 2 false 0) else (-10000)) = (-10000))) then none else (some 0)).isNone then (some 1) else (bif (decide ((bif (decide ((bif (wokF M n 2 false 0) then (wprF M n 2 false 0) else (-10000)) = (-10000))) then (-10000) else (bif (wokF M n 2 false 0) then (wprF M n 2 false 0) else (-10000))) < (bif (wokF M n 2 false 1) then (wprF M n 2 false 1) else (-10000)))) then (some 1) else (bif (decide ((bif (wokF M n 2 false 0) then (wprF M n 2 false 0) else (-10000)) = (-10000))) then none else (some 0))))).isNone then (bif (wokF M n 2 false 2) then (wprF M n 2 false 2) else (-10000)) else (mxc (bif (decide ((bif (wokF M n 2 false 1) then (wprF M n 2 false 1) else (-10000)) = (-10000))) then (bif (decide ((bif (wokF M n 2 false 0) then (wprF M n 2 false 0) else (-10000)) = (-10000))) then (-10000) else (bif (wokF M n 2 false 0) then (wprF M n 2 false 0) else (-10000))) else (bif (bif (decide ((bif (wokF M n 2 false 0) then (wprF M n 2 false 0) else (-10000)) = (-10000))) then none else (some 0)).isNone then (bif (wokF M n 2 false 1) then (wprF M n 2 false 1) else (-10000)) else (mxc (bif (decide ((bif (wokF M n 2 false 0) then (wprF M n 2 false 0) else (-10000)) = (-10000))) then (-10000) else (bif (wokF M n 2 false 0) then (wprF M n 2 false 0) else (-10000))) (bif (wokF M n 2 false 1) then (wprF M n 2 false 1) else (-10000))))) (bif (wokF M n 2 false 2) then (wprF M n 2 false 2) else (-10000))))), .inl 2, .inl (bif (wokF M n 2 false 2) then (wprF M n 2 false 2) else (-10000)), .inl (bz (decide ((bif (decide ((bif (wokF M n 2 false 1) then (wprF M n 2 false 1) else (-10000)) = (-10000))) then (bif (decide ((bif (wokF M n 2 false 0) then (wprF M n 2 false 0) else (-10000)) = (-10000))) then (-10000) else (bif (wokF M n 2 false 0) then (wprF M n 2 false 0) else (-10000))) else (bif (bif (decide ((bif (wokF M n 2 false 0) then (wprF M n 2 false 0) else (-10000)) = (-10000))) then none else (some 0)).isNone then (bif (wokF M n 2 false 1) then (wprF M n 2 false 1) else (-10000)) else (mxc (bif (decide ((bif (wokF M n 2 false 0) then (wprF M n 2 false 0) else (-10000)) = (-10000))) then (-10000) else (bif (wokF M n 2 false 0) then (wprF M n 2 false 0) else (-10000))) (bif (wokF M n 2 false 1) then (wprF M n 2 false 1) else (-10000))))) < (bif (wokF M n 2 false 2) then (wprF M n 2 false 2) else (-10000)))))] [] t Q := by
              refine x_iinc (pc' := 87) (y := 3) (ls' := [_, _, _, _, _, _, _, _]) rfl rfl rfl rfl rfl ?_
              refine x_goto (pc' := 10) rfl rfl ?_
              refine x_iload (pc' := 12) rfl rfl rfl ?_
              refine x_iconst (pc' := 13) rfl rfl ?_
              refine x_icmp (a' := 90) (pc' := 16) (z := true) rfl rfl rfl (by decide) (fun _ => ?_) (fun h => by cases h)
              refine x_iload_n (pc' := 91) rfl rfl rfl ?_
              refine x_reti rfl rfl ?_
              exact q (obd_c (obd_c (obd_c obd_n (obd_s (by decide))) (obd_c (obd_s (by decide)) (obd_c (obd_s (by decide)) (obd_c obd_n (obd_s (by decide)))))) (obd_c (obd_s (by decide)) (obd_c (obd_s (by decide)) (obd_c (obd_c obd_n (obd_s (by decide))) (obd_c (obd_s (by decide)) (obd_c (obd_s (by decide)) (obd_c obd_n (obd_s (by decide)))))))))
            refine x_icmp (a' := 84) (pc' := 67) (z := decide ((bif (wokF M n 2 false 2) then (wprF M n 2 false 2) else (-10000)) = (-10000))) rfl rfl rfl rfl (fun q20 => ?_) (fun q20 => ?_)
            · ((try rw [q20] at J22); (try rw [q20]); (try simp only [cd_t, cd_f, nt_t, nt_f, an_t, an_f, or_t, or_f] at J22); (try simp only [cd_t, cd_f, nt_t, nt_f, an_t, an_f, or_t, or_f]); exact J22)
            · refine x_iload_n (pc' := 68) rfl rfl rfl ?_
              refine x_iconst (pc' := 69) rfl rfl ?_
              refine x_icmp (a' := 77) (pc' := 72) (z := (bif (decide ((bif (wokF M n 2 false 1) then (wprF M n 2 false 1) else (-10000)) = (-10000))) then (bif (decide ((bif (wokF M n 2 false 0) then (wprF M n 2 false 0) else (-10000)) = (-10000))) then none else (some 0)) else (bif (bif (decide ((bif (wokF M n 2 false 0) then (wprF M n 2 false 0) else (-10000)) = (-10000))) then none else (some 0)).isNone then (some 1) else (bif (decide ((bif (decide ((bif (wokF M n 2 false 0) then (wprF M n 2 false 0) else (-10000)) = (-10000))) then (-10000) else (bif (wokF M n 2 false 0) then (wprF M n 2 false 0) else (-10000))) < (bif (wokF M n 2 false 1) then (wprF M n 2 false 1) else (-10000)))) then (some 1) else (bif (decide ((bif (wokF M n 2 false 0) then (wprF M n 2 false 0) else (-10000)) = (-10000))) then none else (some 0))))).isNone) rfl rfl rfl (ov_eq (ov_31 (N := 3) (obd_c (obd_c obd_n (obd_s (by decide))) (obd_c (obd_s (by decide)) (obd_c (obd_s (by decide)) (obd_c obd_n (obd_s (by decide)))))) (by decide))) (fun q21 => ?_) (fun q21 => ?_)
              · refine x_iload (pc' := 79) rfl rfl rfl ?_
                refine x_istore_n (pc' := 80) (ls' := [_, _, _, _, _, _, _, _]) rfl rfl rfl rfl ?_
                refine x_iload (pc' := 82) rfl rfl rfl ?_
                refine x_istore (pc' := 84) (ls' := [_, _, _, _, _, _, _, _]) rfl rfl rfl rfl ?_
                ((try rw [q21] at J22); (try rw [q21]); (try rw [q20] at J22); (try rw [q20]); (try simp only [cd_t, cd_f, nt_t, nt_f, an_t, an_f, or_t, or_f] at J22); (try simp only [cd_t, cd_f, nt_t, nt_f, an_t, an_f, or_t, or_f]); exact J22)
              · refine x_iload (pc' := 74) rfl rfl rfl ?_
                refine x_ifeq_z (a' := 84) (pc' := 77) (z := (decide ((bif (decide ((bif (wokF M n 2 false 1) then (wprF M n 2 false 1) else (-10000)) = (-10000))) then (bif (decide ((bif (wokF M n 2 false 0) then (wprF M n 2 false 0) else (-10000)) = (-10000))) then (-10000) else (bif (wokF M n 2 false 0) then (wprF M n 2 false 0) else (-10000))) else (bif (bif (decide ((bif (wokF M n 2 false 0) then (wprF M n 2 false 0) else (-10000)) = (-10000))) then none else (some 0)).isNone then (bif (wokF M n 2 false 1) then (wprF M n 2 false 1) else (-10000)) else (mxc (bif (decide ((bif (wokF M n 2 false 0) then (wprF M n 2 false 0) else (-10000)) = (-10000))) then (-10000) else (bif (wokF M n 2 false 0) then (wprF M n 2 false 0) else (-10000))) (bif (wokF M n 2 false 1) then (wprF M n 2 false 1) else (-10000))))) < (bif (wokF M n 2 false 2) then (wprF M n 2 false 2) else (-10000))))) rfl rfl rfl (fun q22 => ?_) (fun q22 => ?_)
                · ((try rw [q22] at J22); (try rw [q22]); (try rw [q21] at J22); (try rw [q21]); (try rw [q20] at J22); (try rw [q20]); (try simp only [cd_t, cd_f, nt_t, nt_f, an_t, an_f, or_t, or_f] at J22); (try simp only [cd_t, cd_f, nt_t, nt_f, an_t, an_f, or_t, or_f]); exact J22)
                · refine x_iload (pc' := 79) rfl rfl rfl ?_
                  refine x_istore_n (pc' := 80) (ls' := [_, _, _, _, _, _, _, _]) rfl rfl rfl rfl ?_
                  refine x_iload (pc' := 82) rfl rfl rfl ?_
                  refine x_istore (pc' := 84) (ls' := [_, _, _, _, _, _, _, _]) rfl rfl rfl rfl ?_
                  ((try rw [q22] at J22); (try rw [q22]); (try rw [q21] at J22); (try rw [q21]); (try rw [q20] at J22); (try rw [q20]); (try simp only [cd_t, cd_f, nt_t, nt_f, an_t, an_f, or_t, or_f] at J22); (try simp only [cd_t, cd_f, nt_t, nt_f, an_t, an_f, or_t, or_f]); exact J22)
          refine x_icmp_n (a' := 56) (pc' := 52) (z := decide ((bif (decide ((bif (wokF M n 2 false 1) then (wprF M n 2 false 1) else (-10000)) = (-10000))) then (bif (decide ((bif (wokF M n 2 false 0) then (wprF M n 2 false 0) else (-10000)) = (-10000))) then (-10000) else (bif (wokF M n 2 false 0) then (wprF M n 2 false 0) else (-10000))) else (bif (bif (decide ((bif (wokF M n 2 false 0) then (wprF M n 2 false 0) else (-10000)) = (-10000))) then none else (some 0)).isNone then (bif (wokF M n 2 false 1) then (wprF M n 2 false 1) else (-10000)) else (mxc (bif (decide ((bif (wokF M n 2 false 0) then (wprF M n 2 false 0) else (-10000)) = (-10000))) then (-10000) else (bif (wokF M n 2 false 0) then (wprF M n 2 false 0) else (-10000))) (bif (wokF M n 2 false 1) then (wprF M n 2 false 1) else (-10000))))) < (bif (wokF M n 2 false 2) then (wprF M n 2 false 2) else (-10000)))) rfl rfl rfl (ik_le _ _) (fun q18 => ?_) (fun q18 => ?_)
          · refine x_iconst (pc' := 57) rfl rfl ?_
            ((try rw [mxc_f q18] at J18); (try rw [q18] at J18); (try rw [q18]); (try simp only [cd_t, cd_f, nt_t, nt_f, an_t, an_f, or_t, or_f] at J18); (try simp only [cd_t, cd_f, nt_t, nt_f, an_t, an_f, or_t, or_f]); exact J18)
          · refine x_iconst (pc' := 53) rfl rfl ?_
            refine x_goto (pc' := 57) rfl rfl ?_
            ((try rw [mxc_t q18] at J18); (try rw [q18] at J18); (try rw [q18]); (try simp only [cd_t, cd_f, nt_t, nt_f, an_t, an_f, or_t, or_f] at J18); (try simp only [cd_t, cd_f, nt_t, nt_f, an_t, an_f, or_t, or_f]); exact J18)
        refine x_icmp (a' := 84) (pc' := 67) (z := decide ((bif (wokF M n 2 false 1) then (wprF M n 2 false 1) else (-10000)) = (-10000))) rfl rfl rfl rfl (fun q12 => ?_) (fun q12 => ?_)
        · ((try rw [q12] at J14); (try rw [q12]); (try simp only [cd_t, cd_f, nt_t, nt_f, an_t, an_f, or_t, or_f] at J14); (try simp only [cd_t, cd_f, nt_t, nt_f, an_t, an_f, or_t, or_f]); exact J14)
        · refine x_iload_n (pc' := 68) rfl rfl rfl ?_
          refine x_iconst (pc' := 69) rfl rfl ?_
          refine x_icmp (a' := 77) (pc' := 72) (z := (bif (decide ((bif (wokF M n 2 false 0) then (wprF M n 2 false 0) else (-10000)) = (-10000))) then none else (some 0)).isNone) rfl rfl rfl (ov_eq (ov_31 (N := 3) (obd_c obd_n (obd_s (by decide))) (by decide))) (fun q13 => ?_) (fun q13 => ?_)
          · refine x_iload (pc' := 79) rfl rfl rfl ?_
            refine x_istore_n (pc' := 80) (ls' := [_, _, _, _, _, _, _, _]) rfl rfl rfl rfl ?_
            refine x_iload (pc' := 82) rfl rfl rfl ?_
            refine x_istore (pc' := 84) (ls' := [_, _, _, _, _, _, _, _]) rfl rfl rfl rfl ?_
            ((try rw [q13] at J14); (try rw [q13]); (try rw [q12] at J14); (try rw [q12]); (try simp only [cd_t, cd_f, nt_t, nt_f, an_t, an_f, or_t, or_f] at J14); (try simp only [cd_t, cd_f, nt_t, nt_f, an_t, an_f, or_t, or_f]); exact J14)
          · refine x_iload (pc' := 74) rfl rfl rfl ?_
            refine x_ifeq_z (a' := 84) (pc' := 77) (z := (decide ((bif (decide ((bif (wokF M n 2 false 0) then (wprF M n 2 false 0) else (-10000)) = (-10000))) then (-10000) else (bif (wokF M n 2 false 0) then (wprF M n 2 false 0) else (-10000))) < (bif (wokF M n 2 false 1) then (wprF M n 2 false 1) else (-10000))))) rfl rfl rfl (fun q14 => ?_) (fun q14 => ?_)
            · ((try rw [q14] at J14); (try rw [q14]); (try rw [q13] at J14); (try rw [q13]); (try rw [q12] at J14); (try rw [q12]); (try simp only [cd_t, cd_f, nt_t, nt_f, an_t, an_f, or_t, or_f] at J14); (try simp only [cd_t, cd_f, nt_t, nt_f, an_t, an_f, or_t, or_f]); exact J14)
            · refine x_iload (pc' := 79) rfl rfl rfl ?_
              refine x_istore_n (pc' := 80) (ls' := [_, _, _, _, _, _, _, _]) rfl rfl rfl rfl ?_
              refine x_iload (pc' := 82) rfl rfl rfl ?_
              refine x_istore (pc' := 84) (ls' := [_, _, _, _, _, _, _, _]) rfl rfl rfl rfl ?_
              ((try rw [q14] at J14); (try rw [q14]); (try rw [q13] at J14); (try rw [q13]); (try rw [q12] at J14); (try rw [q12]); (try simp only [cd_t, cd_f, nt_t, nt_f, an_t, an_f, or_t, or_f] at J14); (try simp only [cd_t, cd_f, nt_t, nt_f, an_t, an_f, or_t, or_f]); exact J14)
      refine x_icmp_n (a' := 56) (pc' := 52) (z := decide ((bif (decide ((bif (wokF M n 2 false 0) then (wprF M n 2 false 0) else (-10000)) = (-10000))) then (-10000) else (bif (wokF M n 2 false 0) then (wprF M n 2 false 0) else (-10000))) < (bif (wokF M n 2 false 1) then (wprF M n 2 false 1) else (-10000)))) rfl rfl rfl (ik_le _ _) (fun q10 => ?_) (fun q10 => ?_)
      · refine x_iconst (pc' := 57) rfl rfl ?_
        ((try rw [mxc_f q10] at J10); (try rw [q10] at J10); (try rw [q10]); (try simp only [cd_t, cd_f, nt_t, nt_f, an_t, an_f, or_t, or_f] at J10); (try simp only [cd_t, cd_f, nt_t, nt_f, an_t, an_f, or_t, or_f]); exact J10)
      · refine x_iconst (pc' := 53) rfl rfl ?_
        refine x_goto (pc' := 57) rfl rfl ?_
        ((try rw [mxc_t q10] at J10); (try rw [q10] at J10); (try rw [q10]); (try simp only [cd_t, cd_f, nt_t, nt_f, an_t, an_f, or_t, or_f] at J10); (try simp only [cd_t, cd_f, nt_t, nt_f, an_t, an_f, or_t, or_f]); exact J10)
    refine x_icmp (a' := 84) (pc' := 67) (z := decide ((bif (wokF M n 2 false 0) then (wprF M n 2 false 0) else (-10000)) = (-10000))) rfl rfl rfl rfl (fun q5 => ?_) (fun q5 => ?_)
    · ((try rw [q5] at J6); (try rw [q5]); (try simp only [cd_t, cd_f, nt_t, nt_f, an_t, an_f, or_t, or_f] at J6); (try simp only [cd_t, cd_f, nt_t, nt_f, an_t, an_f, or_t, or_f]); exact J6)
    · refine x_iload_n (pc' := 68) rfl rfl rfl ?_
      refine x_iconst (pc' := 69) rfl rfl ?_
      refine x_icmp (a' := 77) (pc' := 72) (z := true) rfl rfl rfl (by decide) (fun _ => ?_) (fun h => by cases h)
      refine x_iload (pc' := 79) rfl rfl rfl ?_
      refine x_istore_n (pc' := 80) (ls' := [_, _, _, _, _, _, _, _]) rfl rfl rfl rfl ?_
      refine x_iload (pc' := 82) rfl rfl rfl ?_
      refine x_istore (pc' := 84) (ls' := [_, _, _, _, _, _, _, _]) rfl rfl rfl rfl ?_
      ((try rw [q5] at J6); (try rw [q5]); (try simp only [cd_t, cd_f, nt_t, nt_f, an_t, an_f, or_t, or_f] at J6); (try simp only [cd_t, cd_f, nt_t, nt_f, an_t, an_f, or_t, or_f]); exact J6)
  refine x_icmp_n (a' := 56) (pc' := 52) (z := decide ((-10000) < (bif (wokF M n 2 false 0) then (wprF M n 2 false 0) else (-10000)))) rfl rfl rfl (ik_le _ _) (fun q3 => ?_) (fun q3 => ?_)
  · refine x_iconst (pc' := 57) rfl rfl ?_
    ((try rw [q3] at J3); (try rw [q3]); (try simp only [cd_t, cd_f, nt_t, nt_f, an_t, an_f, or_t, or_f] at J3); (try simp only [cd_t, cd_f, nt_t, nt_f, an_t, an_f, or_t, or_f]); exact J3)
  · refine x_iconst (pc' := 53) rfl rfl ?_
    refine x_goto (pc' := 57) rfl rfl ?_
    ((try rw [q3] at J3); (try rw [q3]); (try simp only [cd_t, cd_f, nt_t, nt_f, an_t, an_f, or_t, or_f] at J3); (try simp only [cd_t, cd_f, nt_t, nt_f, an_t, an_f, or_t, or_f]); exact J3)
def cb2tF (M : sM) (n : Nat) : Option Nat := (bif (decide ((bif (wokF M n 2 true 2) then (wprF M n 2 true 2) else (-10000)) = (-10000))) then (bif (decide ((bif (wokF M n 2 true 1) then (wprF M n 2 true 1) else (-10000)) = (-10000))) then (bif (decide ((bif (wokF M n 2 true 0) then (wprF M n 2 true 0) else (-10000)) = (-10000))) then none else (some 0)) else (bif (bif (decide ((bif (wokF M n 2 true 0) then (wprF M n 2 true 0) else (-10000)) = (-10000))) then none else (some 0)).isNone then (some 1) else (bif (decide ((bif (wokF M n 2 true 1) then (wprF M n 2 true 1) else (-10000)) < (bif (decide ((bif (wokF M n 2 true 0) then (wprF M n 2 true 0) else (-10000)) = (-10000))) then (-10000) else (bif (wokF M n 2 true 0) then (wprF M n 2 true 0) else (-10000))))) then (some 1) else (bif (decide ((bif (wokF M n 2 true 0) then (wprF M n 2 true 0) else (-10000)) = (-10000))) then none else (some 0))))) else (bif (bif (decide ((bif (wokF M n 2 true 1) then (wprF M n 2 true 1) else (-10000)) = (-10000))) then (bif (decide ((bif (wokF M n 2 true 0) then (wprF M n 2 true 0) else (-10000)) = (-10000))) then none else (some 0)) else (bif (bif (decide ((bif (wokF M n 2 true 0) then (wprF M n 2 true 0) else (-10000)) = (-10000))) then none else (some 0)).isNone then (some 1) else (bif (decide ((bif (wokF M n 2 true 1) then (wprF M n 2 true 1) else (-10000)) < (bif (decide ((bif (wokF M n 2 true 0) then (wprF M n 2 true 0) else (-10000)) = (-10000))) then (-10000) else (bif (wokF M n 2 true 0) then (wprF M n 2 true 0) else (-10000))))) then (some 1) else (bif (decide ((bif (wokF M n 2 true 0) then (wprF M n 2 true 0) else (-10000)) = (-10000))) then none else (some 0))))).isNone then (some 2) else (bif (decide ((bif (wokF M n 2 true 2) then (wprF M n 2 true 2) else (-10000)) < (bif (decide ((bif (wokF M n 2 true 1) then (wprF M n 2 true 1) else (-10000)) = (-10000))) then (bif (decide ((bif (wokF M n 2 true 0) then (wprF M n 2 true 0) else (-10000)) = (-10000))) then (-10000) else (bif (wokF M n 2 true 0) then (wprF M n 2 true 0) else (-10000))) else (bif (bif (decide ((bif (wokF M n 2 true 0) then (wprF M n 2 true 0) else (-10000)) = (-10000))) then none else (some 0)).isNone then (bif (wokF M n 2 true 1) then (wprF M n 2 true 1) else (-10000)) else (mnc (bif (wokF M n 2 true 1) then (wprF M n 2 true 1) else (-10000)) (bif (decide ((bif (wokF M n 2 true 0) then (wprF M n 2 true 0) else (-10000)) = (-10000))) then (-10000) else (bif (wokF M n 2 true 0) then (wprF M n 2 true 0) else (-10000)))))))) then (some 2) else (bif (decide ((bif (wokF M n 2 true 1) then (wprF M n 2 true 1) else (-10000)) = (-10000))) then (bif (decide ((bif (wokF M n 2 true 0) then (wprF M n 2 true 0) else (-10000)) = (-10000))) then none else (some 0)) else (bif (bif (decide ((bif (wokF M n 2 true 0) then (wprF M n 2 true 0) else (-10000)) = (-10000))) then none else (some 0)).isNone then (some 1) else (bif (decide ((bif (wokF M n 2 true 1) then (wprF M n 2 true 1) else (-10000)) < (bif (decide ((bif (wokF M n 2 true 0) then (wprF M n 2 true 0) else (-10000)) = (-10000))) then (-10000) else (bif (wokF M n 2 true 0) then (wprF M n 2 true 0) else (-10000))))) then (some 1) else (bif (decide ((bif (wokF M n 2 true 0) then (wprF M n 2 true 0) else (-10000)) = (-10000))) then none else (some 0))))))))
set_option maxHeartbeats 4000000 in
set_option maxRecDepth 10000 in
theorem c82_2t {t : sT} {Q : sRs → sT → Prop} {M : sM} {n : Nat} {T : Nat}
    (hM : Rl t M n T)
    (hc : Sf t M n T)
    (hR : Ri M n)
    (hC : rlC t M n)
    (q : (∀ j, cb2tF M n = some j → j < 3) → Q (.inl (some (.inl (ov (cb2tF M n))))) t) :
    X 82 0 [.inr (.inr (10, (some 0))), .inr (.inr (1, (some 2))), .inl (bz true), sJk, sJk, sJk, sJk, sJk] [] t Q := by
  refine x_iconst (pc' := 1) rfl rfl ?_
  refine x_istore_n (pc' := 2) (ls' := [_, _, _, _, _, _, _, _]) rfl rfl rfl rfl ?_
  refine x_sipush (pc' := 5) rfl rfl ?_
  refine x_istore (pc' := 7) (ls' := [_, _, _, _, _, _, _, _]) rfl rfl rfl rfl ?_
  refine x_iconst (pc' := 8) rfl rfl ?_
  refine x_istore (pc' := 10) (ls' := [_, _, _, _, _, _, _, _]) rfl rfl rfl rfl ?_
  refine x_iload (pc' := 12) rfl rfl rfl ?_
  refine x_iconst (pc' := 13) rfl rfl ?_
  refine x_icmp (a' := 90) (pc' := 16) (z := false) rfl rfl rfl (by decide) (fun h => by cases h) (fun _ => ?_)
  refine x_aload_n (pc' := 17) rfl rfl rfl rfl rfl ?_
  refine x_aload_n (pc' := 18) rfl rfl rfl rfl rfl ?_
  refine x_iload (pc' := 20) rfl rfl rfl ?_
  refine x_iload_n (pc' := 21) rfl rfl rfl ?_
  refine x_cv (ls0 := [_, _, _, _, sJk, sJk, sJk, sJk]) (rest := []) rfl rfl rfl rfl rfl ?_
  refine c81_20t hM hc (Fc.ri (Fc.refl _) hR) hC ?_
  rw [cp20tF_e]
  refine sK_i (pc' := 24) rfl ?_
  refine x_istore (pc' := 26) (ls' := [_, _, _, _, _, _, _, _]) rfl rfl rfl rfl ?_
  refine x_iload_n (pc' := 27) rfl rfl rfl ?_
  refine x_if (a' := 45) (pc' := 30) (z := false) rfl rfl rfl (by decide) (fun h => by cases h) (fun _ => ?_)
  refine x_iload (pc' := 32) rfl rfl rfl ?_
  refine x_iload (pc' := 34) rfl rfl rfl ?_
  have J3 : X 82 57 [.inr (.inr (10, (some 0))), .inr (.inr (1, (some 2))), .inl (bz true), .inl (-1), .inl (-10000), .inl 0, .inl (bif (wokF M n 2 true 0) then (wprF M n 2 true 0) else (-10000)), sJk] [.inl (bz (decide ((bif (wokF M n 2 true 0) then (wprF M n 2 true 0) else (-10000)) < (-10000))))] t Q := by
    refine x_istore (pc' := 59) (ls' := [_, _, _, _, _, _, _, _]) rfl rfl rfl rfl ?_
    refine x_iload (pc' := 61) rfl rfl rfl ?_
    refine x_sipush (pc' := 64) rfl rfl ?_
    have J6 : X 82 84 [.inr (.inr (10, (some 0))), .inr (.inr (1, (some 2))), .inl (bz true), .inl (ov (bif (decide ((bif (wokF M n 2 true 0) then (wprF M n 2 true 0) else (-10000)) = (-10000))) then none else (some 0))), .inl (bif (decide ((bif (wokF M n 2 true 0) then (wprF M n 2 true 0) else (-10000)) = (-10000))) then (-10000) else (bif (wokF M n 2 true 0) then (wprF M n 2 true 0) else (-10000))), .inl 0, .inl (bif (wokF M n 2 true 0) then (wprF M n 2 true 0) else (-10000)), .inl (bz (decide ((bif (wokF M n 2 true 0) then (wprF M n 2 true 0) else (-10000)) < (-10000))))] [] t Q := by
      refine x_iinc (pc' := 87) (y := 1) (ls' := [_, _, _, _, _, _, _, _]) rfl rfl rfl rfl rfl ?_
      refine x_goto (pc' := 10) rfl rfl ?_
      refine x_iload (pc' := 12) rfl rfl rfl ?_
      refine x_iconst (pc' := 13) rfl rfl ?_
      refine x_icmp (a' := 90) (pc' := 16) (z := false) rfl rfl rfl (by decide) (fun h => by cases h) (fun _ => ?_)
      refine x_aload_n (pc' := 17) rfl rfl rfl rfl rfl ?_
      refine x_aload_n (pc' := 18) rfl rfl rfl rfl rfl ?_
      refine x_iload (pc' := 20) rfl rfl rfl ?_
      refine x_iload_n (pc' := 21) rfl rfl rfl ?_
      refine x_cv (ls0 := [_, _, _, _, sJk, sJk, sJk, sJk]) (rest := []) rfl rfl rfl rfl rfl ?_
      refine c81_21t hM hc (Fc.ri (Fc.refl _) hR) hC ?_
      rw [cp21tF_e]
      refine sK_i (pc' := 24) rfl ?_
      refine x_istore (pc' := 26) (ls' := [_, _, _, _, _, _, _, _]) rfl rfl rfl rfl ?_
      refine x_iload_n (pc' := 27) rfl rfl rfl ?_
      refine x_if (a' := 45) (pc' := 30) (z := false) rfl rfl rfl (by decide) (fun h => by cases h) (fun _ => ?_)
      refine x_iload (pc' := 32) rfl rfl rfl ?_
      refine x_iload (pc' := 34) rfl rfl rfl ?_
      have J10 : X 82 57 [.inr (.inr (10, (some 0))), .inr (.inr (1, (some 2))), .inl (bz true), .inl (ov (bif (decide ((bif (wokF M n 2 true 0) then (wprF M n 2 true 0) else (-10000)) = (-10000))) then none else (some 0))), .inl (bif (decide ((bif (wokF M n 2 true 0) then (wprF M n 2 true 0) else (-10000)) = (-10000))) then (-10000) else (bif (wokF M n 2 true 0) then (wprF M n 2 true 0) else (-10000))), .inl 1, .inl (bif (wokF M n 2 true 1) then (wprF M n 2 true 1) else (-10000)), .inl (bz (decide ((bif (wokF M n 2 true 0) then (wprF M n 2 true 0) else (-10000)) < (-10000))))] [.inl (bz (decide ((bif (wokF M n 2 true 1) then (wprF M n 2 true 1) else (-10000)) < (bif (decide ((bif (wokF M n 2 true 0) then (wprF M n 2 true 0) else (-10000)) = (-10000))) then (-10000) else (bif (wokF M n 2 true 0) then (wprF M n 2 true 0) else (-10000))))))] t Q := by
        refine x_istore (pc' := 59) (ls' := [_, _, _, _, _, _, _, _]) rfl rfl rfl rfl ?_
        refine x_iload (pc' := 61) rfl rfl rfl ?_
        refine x_sipush (pc' := 64) rfl rfl ?_
        have J14 : X 82 84 [.inr (.inr (10, (some 0))), .inr (.inr (1, (some 2))), .inl (bz true), .inl (ov (bif (decide ((bif (wokF M n 2 true 1) then (wprF M n 2 true 1) else (-10000)) = (-10000))) then (bif (decide ((bif (wokF M n 2 true 0) then (wprF M n 2 true 0) else (-10000)) = (-10000))) then none else (some 0)) else (bif (bif (decide ((bif (wokF M n 2 true 0) then (wprF M n 2 true 0) else (-10000)) = (-10000))) then none else (some 0)).isNone then (some 1) else (bif (decide ((bif (wokF M n 2 true 1) then (wprF M n 2 true 1) else (-10000)) < (bif (decide ((bif (wokF M n 2 true 0) then (wprF M n 2 true 0) else (-10000)) = (-10000))) then (-10000) else (bif (wokF M n 2 true 0) then (wprF M n 2 true 0) else (-10000))))) then (some 1) else (bif (decide ((bif (wokF M n 2 true 0) then (wprF M n 2 true 0) else (-10000)) = (-10000))) then none else (some 0)))))), .inl (bif (decide ((bif (wokF M n 2 true 1) then (wprF M n 2 true 1) else (-10000)) = (-10000))) then (bif (decide ((bif (wokF M n 2 true 0) then (wprF M n 2 true 0) else (-10000)) = (-10000))) then (-10000) else (bif (wokF M n 2 true 0) then (wprF M n 2 true 0) else (-10000))) else (bif (bif (decide ((bif (wokF M n 2 true 0) then (wprF M n 2 true 0) else (-10000)) = (-10000))) then none else (some 0)).isNone then (bif (wokF M n 2 true 1) then (wprF M n 2 true 1) else (-10000)) else (mnc (bif (wokF M n 2 true 1) then (wprF M n 2 true 1) else (-10000)) (bif (decide ((bif (wokF M n 2 true 0) then (wprF M n 2 true 0) else (-10000)) = (-10000))) then (-10000) else (bif (wokF M n 2 true 0) then (wprF M n 2 true 0) else (-10000)))))), .inl 1, .inl (bif (wokF M n 2 true 1) then (wprF M n 2 true 1) else (-10000)), .inl (bz (decide ((bif (wokF M n 2 true 1) then (wprF M n 2 true 1) else (-10000)) < (bif (decide ((bif (wokF M n 2 true 0) then (wprF M n 2 true 0) else (-10000)) = (-10000))) then (-10000) else (bif (wokF M n 2 true 0) then (wprF M n 2 true 0) else (-10000))))))] [] t Q := by
          refine x_iinc (pc' := 87) (y := 2) (ls' := [_, _, _, _, _, _, _, _]) rfl rfl rfl rfl rfl ?_
          refine x_goto (pc' := 10) rfl rfl ?_
          refine x_iload (pc' := 12) rfl rfl rfl ?_
          refine x_iconst (pc' := 13) rfl rfl ?_
          refine x_icmp (a' := 90) (pc' := 16) (z := false) rfl rfl rfl (by decide) (fun h => by cases h) (fun _ => ?_)
          refine x_aload_n (pc' := 17) rfl rfl rfl rfl rfl ?_
          refine x_aload_n (pc' := 18) rfl rfl rfl rfl rfl ?_
          refine x_iload (pc' := 20) rfl rfl rfl ?_
          refine x_iload_n (pc' := 21) rfl rfl rfl ?_
          refine x_cv (ls0 := [_, _, _, _, sJk, sJk, sJk, sJk]) (rest := []) rfl rfl rfl rfl rfl ?_
          refine c81_22t hM hc (Fc.ri (Fc.refl _) hR) hC ?_
          rw [cp22tF_e]
          refine sK_i (pc' := 24) rfl ?_
          refine x_istore (pc' := 26) (ls' := [_, _, _, _, _, _, _, _]) rfl rfl rfl rfl ?_
          refine x_iload_n (pc' := 27) rfl rfl rfl ?_
          refine x_if (a' := 45) (pc' := 30) (z := false) rfl rfl rfl (by decide) (fun h => by cases h) (fun _ => ?_)
          refine x_iload (pc' := 32) rfl rfl rfl ?_
          refine x_iload (pc' := 34) rfl rfl rfl ?_
          have J18 : X 82 57 [.inr (.inr (10, (some 0))), .inr (.inr (1, (some 2))), .inl (bz true), .inl (ov (bif (decide ((bif (wokF M n 2 true 1) then (wprF M n 2 true 1) else (-10000)) = (-10000))) then (bif (decide ((bif (wokF M n 2 true 0) then (wprF M n 2 true 0) else (-10000)) = (-10000))) then none else (some 0)) else (bif (bif (decide ((bif (wokF M n 2 true 0) then (wprF M n 2 true 0) else (-10000)) = (-10000))) then none else (some 0)).isNone then (some 1) else (bif (decide ((bif (wokF M n 2 true 1) then (wprF M n 2 true 1) else (-10000)) < (bif (decide ((bif (wokF M n 2 true 0) then (wprF M n 2 true 0) else (-10000)) = (-10000))) then (-10000) else (bif (wokF M n 2 true 0) then (wprF M n 2 true 0) else (-10000))))) then (some 1) else (bif (decide ((bif (wokF M n 2 true 0) then (wprF M n 2 true 0) else (-10000)) = (-10000))) then none else (some 0)))))), .inl (bif (decide ((bif (wokF M n 2 true 1) then (wprF M n 2 true 1) else (-10000)) = (-10000))) then (bif (decide ((bif (wokF M n 2 true 0) then (wprF M n 2 true 0) else (-10000)) = (-10000))) then (-10000) else (bif (wokF M n 2 true 0) then (wprF M n 2 true 0) else (-10000))) else (bif (bif (decide ((bif (wokF M n 2 true 0) then (wprF M n 2 true 0) else (-10000)) = (-10000))) then none else (some 0)).isNone then (bif (wokF M n 2 true 1) then (wprF M n 2 true 1) else (-10000)) else (mnc (bif (wokF M n 2 true 1) then (wprF M n 2 true 1) else (-10000)) (bif (decide ((bif (wokF M n 2 true 0) then (wprF M n 2 true 0) else (-10000)) = (-10000))) then (-10000) else (bif (wokF M n 2 true 0) then (wprF M n 2 true 0) else (-10000)))))), .inl 2, .inl (bif (wokF M n 2 true 2) then (wprF M n 2 true 2) else (-10000)), .inl (bz (decide ((bif (wokF M n 2 true 1) then (wprF M n 2 true 1) else (-10000)) < (bif (decide ((bif (wokF M n 2 true 0) then (wprF M n 2 true 0) else (-10000)) = (-10000))) then (-10000) else (bif (wokF M n 2 true 0) then (wprF M n 2 true 0) else (-10000))))))] [.inl (bz (decide ((bif (wokF M n 2 true 2) then (wprF M n 2 true 2) else (-10000)) < (bif (decide ((bif (wokF M n 2 true 1) then (wprF M n 2 true 1) else (-10000)) = (-10000))) then (bif (decide ((bif (wokF M n 2 true 0) then (wprF M n 2 true 0) else (-10000)) = (-10000))) then (-10000) else (bif (wokF M n 2 true 0) then (wprF M n 2 true 0) else (-10000))) else (bif (bif (decide ((bif (wokF M n 2 true 0) then (wprF M n 2 true 0) else (-10000)) = (-10000))) then none else (some 0)).isNone then (bif (wokF M n 2 true 1) then (wprF M n 2 true 1) else (-10000)) else (mnc (bif (wokF M n 2 true 1) then (wprF M n 2 true 1) else (-10000)) (bif (decide ((bif (wokF M n 2 true 0) then (wprF M n 2 true 0) else (-10000)) = (-10000))) then (-10000) else (bif (wokF M n 2 true 0) then (wprF M n 2 true 0) else (-10000)))))))))] t Q := by
            refine x_istore (pc' := 59) (ls' := [_, _, _, _, _, _, _, _]) rfl rfl rfl rfl ?_
            refine x_iload (pc' := 61) rfl rfl rfl ?_
            refine x_sipush (pc' := 64) rfl rfl ?_
            have J22 : X 82 84 [.inr (.inr (10, (some 0))), .inr (.inr (1, (some 2))), .inl (bz true), .inl (ov (bif (decide ((bif (wokF M n 2 true 2) then (wprF M n 2 true 2) else (-10000)) = (-10000))) then (bif (decide ((bif (wokF M n 2 true 1) then (wprF M n 2 true 1) else (-10000)) = (-10000))) then (bif (decide ((bif (wokF M n 2 true 0) then (wprF M n 2 true 0) else (-10000)) = (-10000))) then none else (some 0)) else (bif (bif (decide ((bif (wokF M n 2 true 0) then (wprF M n 2 true 0) else (-10000)) = (-10000))) then none else (some 0)).isNone then (some 1) else (bif (decide ((bif (wokF M n 2 true 1) then (wprF M n 2 true 1) else (-10000)) < (bif (decide ((bif (wokF M n 2 true 0) then (wprF M n 2 true 0) else (-10000)) = (-10000))) then (-10000) else (bif (wokF M n 2 true 0) then (wprF M n 2 true 0) else (-10000))))) then (some 1) else (bif (decide ((bif (wokF M n 2 true 0) then (wprF M n 2 true 0) else (-10000)) = (-10000))) then none else (some 0))))) else (bif (bif (decide ((bif (wokF M n 2 true 1) then (wprF M n 2 true 1) else (-10000)) = (-10000))) then (bif (decide ((bif (wokF M n 2 true 0) then (wprF M n 2 true 0) else (-10000)) = (-10000))) then none else (some 0)) else (bif (bif (decide ((bif (wokF M n 2 true 0) then (wprF M n 2 true 0) else (-10000)) = (-10000))) then none else (some 0)).isNone then (some 1) else (bif (decide ((bif (wokF M n 2 true 1) then (wprF M n 2 true 1) else (-10000)) < (bif (decide ((bif (wokF M n 2 true 0) then (wprF M n 2 true 0) else (-10000)) = (-10000))) then (-10000) else (bif (wokF M n 2 true 0) then (wprF M n 2 true 0) else (-10000))))) then (some 1) else (bif (decide ((bif (wokF M n 2 true 0) then (wprF M n 2 true 0) else (-10000)) = (-10000))) then none else (some 0))))).isNone then (some 2) else (bif (decide ((bif (wokF M n 2 true 2) then (wprF M n 2 true 2) else (-10000)) < (bif (decide ((bif (wokF M n 2 true 1) then (wprF M n 2 true 1) else (-10000)) = (-10000))) then (bif (decide ((bif (wokF M n 2 true 0) then (wprF M n 2 true 0) else (-10000)) = (-10000))) then (-10000) else (bif (wokF M n 2 true 0) then (wprF M n 2 true 0) else (-10000))) else (bif (bif (decide ((bif (wokF M n 2 true 0) then (wprF M n 2 true 0) else (-10000)) = (-10000))) then none else (some 0)).isNone then (bif (wokF M n 2 true 1) then (wprF M n 2 true 1) else (-10000)) else (mnc (bif (wokF M n 2 true 1) then (wprF M n 2 true 1) else (-10000)) (bif (decide ((bif (wokF M n 2 true 0) then (wprF M n 2 true 0) else (-10000)) = (-10000))) then (-10000) else (bif (wokF M n 2 true 0) then (wprF M n 2 true 0) else (-10000)))))))) then (some 2) else (bif (decide ((bif (wokF M n 2 true 1) then (wprF M n 2 true 1) else (-10000)) = (-10000))) then (bif (decide ((bif (wokF M n 2 true 0) then (wprF M n 2 true 0) else (-10000)) = (-10000))) then none else (some 0)) else (bif (bif (decide ((bif (wokF M n 2 true 0) then (wprF M n 2 true 0) else (-10000)) = (-10000))) then none else (some 0)).isNone then (some 1) else (bif (decide ((bif (wokF M n 2 true 1) then (wprF M n 2 true 1) else (-10000)) < (bif (decide ((bif (wokF M n 2 true 0) then (wprF M n 2 true 0) else (-10000)) = (-10000))) then (-10000) else (bif (wokF M n 2 true 0) then (wprF M n 2 true 0) else (-10000))))) then (some 1) else (bif (decide ((bif (wokF M n 2 true 0) then (wprF M n 2 true 0) else (-10000)) = (-10000))) then none else (some 0))))))))), .inl (bif (decide ((bif (wokF M n 2 true 2) then (wprF M n 2 true 2) else (-10000)) = (-10000))) then (bif (decide ((bif (wokF M n 2 true 1) then (wprF M n 2 true 1) else (-10000)) = (-10000))) then (bif (decide ((bif (wokF M n 2 true 0) then (wprF M n 2 true 0) else (-10000)) = (-10000))) then (-10000) else (bif (wokF M n 2 true 0) then (wprF M n 2 true 0) else (-10000))) else (bif (bif (decide ((bif (wokF M n 2 true 0) then (wprF M n 2 true 0) else (-10000)) = (-10000))) then none else (some 0)).isNone then (bif (wokF M n 2 true 1) then (wprF M n 2 true 1) else (-10000)) else (mnc (bif (wokF M n 2 true 1) then (wprF M n 2 true 1) else (-10000)) (bif (decide ((bif (wokF M n 2 true 0) then (wprF M n 2 true 0) else (-10000)) = (-10000))) then (-10000) else (bif (wokF M n 2 true 0) then (wprF M n 2 true 0) else (-10000)))))) else (bif (bif (decide ((bif (wokF M n 2 true 1) then (wprF M n 2 true 1) else (-10000)) = (-10000))) then (bif (decide ((bif (wokF M n 2 true 0) then (wprF M n 2 true 0) else (-10000)) = (-10000))) then none else (some 0)) else (bif (bif (decide ((bif (wokF M n 2 true 0) then (wprF M n 2 true 0) else (-10000)) = (-10000))) then none else (some 0)).isNone then (some 1) else (bif (decide ((bif (wokF M n 2 true 1) then (wprF M n 2 true 1) else (-10000)) < (bif (decide ((bif (wokF M n 2 true 0) then (wprF M n 2 true 0) else (-10000)) = (-10000))) then (-10000) else (bif (wokF M n 2 true 0) then (wprF M n 2 true 0) else (-10000))))) then (some 1) else (bif (decide ((bif (wokF M n 2 true 0) then (wprF M n 2 true 0) else (-10000)) = (-10000))) then none else (some 0))))).isNone then (bif (wokF M n 2 true 2) then (wprF M n 2 true 2) else (-10000)) else (mnc (bif (wokF M n 2 true 2) then (wprF M n 2 true 2) else (-10000)) (bif (decide ((bif (wokF M n 2 true 1) then (wprF M n 2 true 1) else (-10000)) = (-10000))) then (bif (decide ((bif (wokF M n 2 true 0) then (wprF M n 2 true 0) else (-10000)) = (-10000))) then (-10000) else (bif (wokF M n 2 true 0) then (wprF M n 2 true 0) else (-10000))) else (bif (bif (decide ((bif (wokF M n 2 true 0) then (wprF M n 2 true 0) else (-10000)) = (-10000))) then none else (some 0)).isNone then (bif (wokF M n 2 true 1) then (wprF M n 2 true 1) else (-10000)) else (mnc (bif (wokF M n 2 true 1) then (wprF M n 2 true 1) else (-10000)) (bif (decide ((bif (wokF M n 2 true 0) then (wprF M n 2 true 0) else (-10000)) = (-10000))) then (-10000) else (bif (wokF M n 2 true 0) then (wprF M n 2 true 0) else (-10000))))))))), .inl 2, .inl (bif (wokF M n 2 true 2) then (wprF M n 2 true 2) else (-10000)), .inl (bz (decide ((bif (wokF M n 2 true 2) then (wprF M n 2 true 2) else (-10000)) < (bif (decide ((bif (wokF M n 2 true 1) then (wprF M n 2 true 1) else (-10000)) = (-10000))) then (bif (decide ((bif (wokF M n 2 true 0) then (wprF M n 2 true 0) else (-10000)) = (-10000))) then (-10000) else (bif (wokF M n 2 true 0) then (wprF M n 2 true 0) else (-10000))) else (bif (bif (decide ((bif (wokF M n 2 true 0) then (wprF M n 2 true 0) else (-10000)) = (-10000))) then none else (some 0)).isNone then (bif (wokF M n 2 true 1) then (wprF M n 2 true 1) else (-10000)) else (mnc (bif (wokF M n 2 true 1) then (wprF M n 2 true 1) else (-10000)) (bif (decide ((bif (wokF M n 2 true 0) then (wprF M n 2 true 0) else (-10000)) = (-10000))) then (-10000) else (bif (wokF M n 2 true 0) then (wprF M n 2 true 0) else (-10000)))))))))] [] t Q := by
              refine x_iinc (pc' := 87) (y := 3) (ls' := [_, _, _, _, _, _, _, _]) rfl rfl rfl rfl rfl ?_
              refine x_goto (pc' := 10) rfl rfl ?_
              refine x_iload (pc' := 12) rfl rfl rfl ?_
              refine x_iconst (pc' := 13) rfl rfl ?_
              refine x_icmp (a' := 90) (pc' := 16) (z := true) rfl rfl rfl (by decide) (fun _ => ?_) (fun h => by cases h)
              refine x_iload_n (pc' := 91) rfl rfl rfl ?_
              refine x_reti rfl rfl ?_
              exact q (obd_c (obd_c (obd_c obd_n (obd_s (by decide))) (obd_c (obd_s (by decide)) (obd_c (obd_s (by decide)) (obd_c obd_n (obd_s (by decide)))))) (obd_c (obd_s (by decide)) (obd_c (obd_s (by decide)) (obd_c (obd_c obd_n (obd_s (by decide))) (obd_c (obd_s (by decide)) (obd_c (obd_s (by decide)) (obd_c obd_n (obd_s (by decide)))))))))
            refine x_icmp (a' := 84) (pc' := 67) (z := decide ((bif (wokF M n 2 true 2) then (wprF M n 2 true 2) else (-10000)) = (-10000))) rfl rfl rfl rfl (fun q20 => ?_) (fun q20 => ?_)
            · ((try rw [q20] at J22); (try rw [q20]); (try simp only [cd_t, cd_f, nt_t, nt_f, an_t, an_f, or_t, or_f] at J22); (try simp only [cd_t, cd_f, nt_t, nt_f, an_t, an_f, or_t, or_f]); exact J22)
            · refine x_iload_n (pc' := 68) rfl rfl rfl ?_
              refine x_iconst (pc' := 69) rfl rfl ?_
              refine x_icmp (a' := 77) (pc' := 72) (z := (bif (decide ((bif (wokF M n 2 true 1) then (wprF M n 2 true 1) else (-10000)) = (-10000))) then (bif (decide ((bif (wokF M n 2 true 0) then (wprF M n 2 true 0) else (-10000)) = (-10000))) then none else (some 0)) else (bif (bif (decide ((bif (wokF M n 2 true 0) then (wprF M n 2 true 0) else (-10000)) = (-10000))) then none else (some 0)).isNone then (some 1) else (bif (decide ((bif (wokF M n 2 true 1) then (wprF M n 2 true 1) else (-10000)) < (bif (decide ((bif (wokF M n 2 true 0) then (wprF M n 2 true 0) else (-10000)) = (-10000))) then (-10000) else (bif (wokF M n 2 true 0) then (wprF M n 2 true 0) else (-10000))))) then (some 1) else (bif (decide ((bif (wokF M n 2 true 0) then (wprF M n 2 true 0) else (-10000)) = (-10000))) then none else (some 0))))).isNone) rfl rfl rfl (ov_eq (ov_31 (N := 3) (obd_c (obd_c obd_n (obd_s (by decide))) (obd_c (obd_s (by decide)) (obd_c (obd_s (by decide)) (obd_c obd_n (obd_s (by decide)))))) (by decide))) (fun q21 => ?_) (fun q21 => ?_)
              · refine x_iload (pc' := 79) rfl rfl rfl ?_
                refine x_istore_n (pc' := 80) (ls' := [_, _, _, _, _, _, _, _]) rfl rfl rfl rfl ?_
                refine x_iload (pc' := 82) rfl rfl rfl ?_
                refine x_istore (pc' := 84) (ls' := [_, _, _, _, _, _, _, _]) rfl rfl rfl rfl ?_
                ((try rw [q21] at J22); (try rw [q21]); (try rw [q20] at J22); (try rw [q20]); (try simp only [cd_t, cd_f, nt_t, nt_f, an_t, an_f, or_t, or_f] at J22); (try simp only [cd_t, cd_f, nt_t, nt_f, an_t, an_f, or_t, or_f]); exact J22)
              · refine x_iload (pc' := 74) rfl rfl rfl ?_
                refine x_ifeq_z (a' := 84) (pc' := 77) (z := (decide ((bif (wokF M n 2 true 2) then (wprF M n 2 true 2) else (-10000)) < (bif (decide ((bif (wokF M n 2 true 1) then (wprF M n 2 true 1) else (-10000)) = (-10000))) then (bif (decide ((bif (wokF M n 2 true 0) then (wprF M n 2 true 0) else (-10000)) = (-10000))) then (-10000) else (bif (wokF M n 2 true 0) then (wprF M n 2 true 0) else (-10000))) else (bif (bif (decide ((bif (wokF M n 2 true 0) then (wprF M n 2 true 0) else (-10000)) = (-10000))) then none else (some 0)).isNone then (bif (wokF M n 2 true 1) then (wprF M n 2 true 1) else (-10000)) else (mnc (bif (wokF M n 2 true 1) then (wprF M n 2 true 1) else (-10000)) (bif (decide ((bif (wokF M n 2 true 0) then (wprF M n 2 true 0) else (-10000)) = (-10000))) then (-10000) else (bif (wokF M n 2 true 0) then (wprF M n 2 true 0) else (-10000))))))))) rfl rfl rfl (fun q22 => ?_) (fun q22 => ?_)
                · ((try rw [q22] at J22); (try rw [q22]); (try rw [q21] at J22); (try rw [q21]); (try rw [q20] at J22); (try rw [q20]); (try simp only [cd_t, cd_f, nt_t, nt_f, an_t, an_f, or_t, or_f] at J22); (try simp only [cd_t, cd_f, nt_t, nt_f, an_t, an_f, or_t, or_f]); exact J22)
                · refine x_iload (pc' := 79) rfl rfl rfl ?_
                  refine x_istore_n (pc' := 80) (ls' := [_, _, _, _, _, _, _, _]) rfl rfl rfl rfl ?_
                  refine x_iload (pc' := 82) rfl rfl rfl ?_
                  refine x_istore (pc' := 84) (ls' := [_, _, _, _, _, _, _, _]) rfl rfl rfl rfl ?_
                  ((try rw [q22] at J22); (try rw [q22]); (try rw [q21] at J22); (try rw [q21]); (try rw [q20] at J22); (try rw [q20]); (try simp only [cd_t, cd_f, nt_t, nt_f, an_t, an_f, or_t, or_f] at J22); (try simp only [cd_t, cd_f, nt_t, nt_f, an_t, an_f, or_t, or_f]); exact J22)
          refine x_icmp_n (a' := 41) (pc' := 37) (z := decide ((bif (wokF M n 2 true 2) then (wprF M n 2 true 2) else (-10000)) < (bif (decide ((bif (wokF M n 2 true 1) then (wprF M n 2 true 1) else (-10000)) = (-10000))) then (bif (decide ((bif (wokF M n 2 true 0) then (wprF M n 2 true 0) else (-10000)) = (-10000))) then (-10000) else (bif (wokF M n 2 true 0) then (wprF M n 2 true 0) else (-10000))) else (bif (bif (decide ((bif (wokF M n 2 true 0) then (wprF M n 2 true 0) else (-10000)) = (-10000))) then none else (some 0)).isNone then (bif (wokF M n 2 true 1) then (wprF M n 2 true 1) else (-10000)) else (mnc (bif (wokF M n 2 true 1) then (wprF M n 2 true 1) else (-10000)) (bif (decide ((bif (wokF M n 2 true 0) then (wprF M n 2 true 0) else (-10000)) = (-10000))) then (-10000) else (bif (wokF M n 2 true 0) then (wprF M n 2 true 0) else (-10000)))))))) rfl rfl rfl (ik_ge _ _) (fun q18 => ?_) (fun q18 => ?_)
          · refine x_iconst (pc' := 42) rfl rfl ?_
            refine x_goto (pc' := 57) rfl rfl ?_
            ((try rw [mnc_f q18] at J18); (try rw [q18] at J18); (try rw [q18]); (try simp only [cd_t, cd_f, nt_t, nt_f, an_t, an_f, or_t, or_f] at J18); (try simp only [cd_t, cd_f, nt_t, nt_f, an_t, an_f, or_t, or_f]); exact J18)
          · refine x_iconst (pc' := 38) rfl rfl ?_
            refine x_goto (pc' := 57) rfl rfl ?_
            ((try rw [mnc_t q18] at J18); (try rw [q18] at J18); (try rw [q18]); (try simp only [cd_t, cd_f, nt_t, nt_f, an_t, an_f, or_t, or_f] at J18); (try simp only [cd_t, cd_f, nt_t, nt_f, an_t, an_f, or_t, or_f]); exact J18)
        refine x_icmp (a' := 84) (pc' := 67) (z := decide ((bif (wokF M n 2 true 1) then (wprF M n 2 true 1) else (-10000)) = (-10000))) rfl rfl rfl rfl (fun q12 => ?_) (fun q12 => ?_)
        · ((try rw [q12] at J14); (try rw [q12]); (try simp only [cd_t, cd_f, nt_t, nt_f, an_t, an_f, or_t, or_f] at J14); (try simp only [cd_t, cd_f, nt_t, nt_f, an_t, an_f, or_t, or_f]); exact J14)
        · refine x_iload_n (pc' := 68) rfl rfl rfl ?_
          refine x_iconst (pc' := 69) rfl rfl ?_
          refine x_icmp (a' := 77) (pc' := 72) (z := (bif (decide ((bif (wokF M n 2 true 0) then (wprF M n 2 true 0) else (-10000)) = (-10000))) then none else (some 0)).isNone) rfl rfl rfl (ov_eq (ov_31 (N := 3) (obd_c obd_n (obd_s (by decide))) (by decide))) (fun q13 => ?_) (fun q13 => ?_)
          · refine x_iload (pc' := 79) rfl rfl rfl ?_
            refine x_istore_n (pc' := 80) (ls' := [_, _, _, _, _, _, _, _]) rfl rfl rfl rfl ?_
            refine x_iload (pc' := 82) rfl rfl rfl ?_
            refine x_istore (pc' := 84) (ls' := [_, _, _, _, _, _, _, _]) rfl rfl rfl rfl ?_
            ((try rw [q13] at J14); (try rw [q13]); (try rw [q12] at J14); (try rw [q12]); (try simp only [cd_t, cd_f, nt_t, nt_f, an_t, an_f, or_t, or_f] at J14); (try simp only [cd_t, cd_f, nt_t, nt_f, an_t, an_f, or_t, or_f]); exact J14)
          · refine x_iload (pc' := 74) rfl rfl rfl ?_
            refine x_ifeq_z (a' := 84) (pc' := 77) (z := (decide ((bif (wokF M n 2 true 1) then (wprF M n 2 true 1) else (-10000)) < (bif (decide ((bif (wokF M n 2 true 0) then (wprF M n 2 true 0) else (-10000)) = (-10000))) then (-10000) else (bif (wokF M n 2 true 0) then (wprF M n 2 true 0) else (-10000)))))) rfl rfl rfl (fun q14 => ?_) (fun q14 => ?_)
            · ((try rw [q14] at J14); (try rw [q14]); (try rw [q13] at J14); (try rw [q13]); (try rw [q12] at J14); (try rw [q12]); (try simp only [cd_t, cd_f, nt_t, nt_f, an_t, an_f, or_t, or_f] at J14); (try simp only [cd_t, cd_f, nt_t, nt_f, an_t, an_f, or_t, or_f]); exact J14)
            · refine x_iload (pc' := 79) rfl rfl rfl ?_
              refine x_istore_n (pc' := 80) (ls' := [_, _, _, _, _, _, _, _]) rfl rfl rfl rfl ?_
              refine x_iload (pc' := 82) rfl rfl rfl ?_
              refine x_istore (pc' := 84) (ls' := [_, _, _, _, _, _, _, _]) rfl rfl rfl rfl ?_
              ((try rw [q14] at J14); (try rw [q14]); (try rw [q13] at J14); (try rw [q13]); (try rw [q12] at J14); (try rw [q12]); (try simp only [cd_t, cd_f, nt_t, nt_f, an_t, an_f, or_t, or_f] at J14); (try simp only [cd_t, cd_f, nt_t, nt_f, an_t, an_f, or_t, or_f]); exact J14)
      refine x_icmp_n (a' := 41) (pc' := 37) (z := decide ((bif (wokF M n 2 true 1) then (wprF M n 2 true 1) else (-10000)) < (bif (decide ((bif (wokF M n 2 true 0) then (wprF M n 2 true 0) else (-10000)) = (-10000))) then (-10000) else (bif (wokF M n 2 true 0) then (wprF M n 2 true 0) else (-10000))))) rfl rfl rfl (ik_ge _ _) (fun q10 => ?_) (fun q10 => ?_)
      · refine x_iconst (pc' := 42) rfl rfl ?_
        refine x_goto (pc' := 57) rfl rfl ?_
        ((try rw [mnc_f q10] at J10); (try rw [q10] at J10); (try rw [q10]); (try simp only [cd_t, cd_f, nt_t, nt_f, an_t, an_f, or_t, or_f] at J10); (try simp only [cd_t, cd_f, nt_t, nt_f, an_t, an_f, or_t, or_f]); exact J10)
      · refine x_iconst (pc' := 38) rfl rfl ?_
        refine x_goto (pc' := 57) rfl rfl ?_
        ((try rw [mnc_t q10] at J10); (try rw [q10] at J10); (try rw [q10]); (try simp only [cd_t, cd_f, nt_t, nt_f, an_t, an_f, or_t, or_f] at J10); (try simp only [cd_t, cd_f, nt_t, nt_f, an_t, an_f, or_t, or_f]); exact J10)
    refine x_icmp (a' := 84) (pc' := 67) (z := decide ((bif (wokF M n 2 true 0) then (wprF M n 2 true 0) else (-10000)) = (-10000))) rfl rfl rfl rfl (fun q5 => ?_) (fun q5 => ?_)
    · ((try rw [q5] at J6); (try rw [q5]); (try simp only [cd_t, cd_f, nt_t, nt_f, an_t, an_f, or_t, or_f] at J6); (try simp only [cd_t, cd_f, nt_t, nt_f, an_t, an_f, or_t, or_f]); exact J6)
    · refine x_iload_n (pc' := 68) rfl rfl rfl ?_
      refine x_iconst (pc' := 69) rfl rfl ?_
      refine x_icmp (a' := 77) (pc' := 72) (z := true) rfl rfl rfl (by decide) (fun _ => ?_) (fun h => by cases h)
      refine x_iload (pc' := 79) rfl rfl rfl ?_
      refine x_istore_n (pc' := 80) (ls' := [_, _, _, _, _, _, _, _]) rfl rfl rfl rfl ?_
      refine x_iload (pc' := 82) rfl rfl rfl ?_
      refine x_istore (pc' := 84) (ls' := [_, _, _, _, _, _, _, _]) rfl rfl rfl rfl ?_
      ((try rw [q5] at J6); (try rw [q5]); (try simp only [cd_t, cd_f, nt_t, nt_f, an_t, an_f, or_t, or_f] at J6); (try simp only [cd_t, cd_f, nt_t, nt_f, an_t, an_f, or_t, or_f]); exact J6)
  refine x_icmp_n (a' := 41) (pc' := 37) (z := decide ((bif (wokF M n 2 true 0) then (wprF M n 2 true 0) else (-10000)) < (-10000))) rfl rfl rfl (ik_ge _ _) (fun q3 => ?_) (fun q3 => ?_)
  · refine x_iconst (pc' := 42) rfl rfl ?_
    refine x_goto (pc' := 57) rfl rfl ?_
    ((try rw [q3] at J3); (try rw [q3]); (try simp only [cd_t, cd_f, nt_t, nt_f, an_t, an_f, or_t, or_f] at J3); (try simp only [cd_t, cd_f, nt_t, nt_f, an_t, an_f, or_t, or_f]); exact J3)
  · refine x_iconst (pc' := 38) rfl rfl ?_
    refine x_goto (pc' := 57) rfl rfl ?_
    ((try rw [q3] at J3); (try rw [q3]); (try simp only [cd_t, cd_f, nt_t, nt_f, an_t, an_f, or_t, or_f] at J3); (try simp only [cd_t, cd_f, nt_t, nt_f, an_t, an_f, or_t, or_f]); exact J3)
def cb3fF (M : sM) (n : Nat) : Option Nat := (bif (decide ((bif (wokF M n 3 false 1) then (wprF M n 3 false 1) else (-10000)) = (-10000))) then (bif (decide ((bif (wokF M n 3 false 0) then (wprF M n 3 false 0) else (-10000)) = (-10000))) then none else (some 0)) else (bif (bif (decide ((bif (wokF M n 3 false 0) then (wprF M n 3 false 0) else (-10000)) = (-10000))) then none else (some 0)).isNone then (some 1) else (bif (decide ((bif (decide ((bif (wokF M n 3 false 0) then (wprF M n 3 false 0) else (-10000)) = (-10000))) then (-10000) else (bif (wokF M n 3 false 0) then (wprF M n 3 false 0) else (-10000))) < (bif (wokF M n 3 false 1) then (wprF M n 3 false 1) else (-10000)))) then (some 1) else (bif (decide ((bif (wokF M n 3 false 0) then (wprF M n 3 false 0) else (-10000)) = (-10000))) then none else (some 0)))))
set_option maxHeartbeats 4000000 in
set_option maxRecDepth 10000 in
theorem c82_3f {t : sT} {Q : sRs → sT → Prop} {M : sM} {n : Nat} {T : Nat}
    (hM : Rl t M n T)
    (hc : Sf t M n T)
    (hR : Ri M n)
    (hC : rlC t M n)
    (q : (∀ j, cb3fF M n = some j → j < 3) → Q (.inl (some (.inl (ov (cb3fF M n))))) t) :
    X 82 0 [.inr (.inr (10, (some 0))), .inr (.inr (1, (some 3))), .inl (bz false), sJk, sJk, sJk, sJk, sJk] [] t Q := by
  refine x_iconst (pc' := 1) rfl rfl ?_
  refine x_istore_n (pc' := 2) (ls' := [_, _, _, _, _, _, _, _]) rfl rfl rfl rfl ?_
  refine x_sipush (pc' := 5) rfl rfl ?_
  refine x_istore (pc' := 7) (ls' := [_, _, _, _, _, _, _, _]) rfl rfl rfl rfl ?_
  refine x_iconst (pc' := 8) rfl rfl ?_
  refine x_istore (pc' := 10) (ls' := [_, _, _, _, _, _, _, _]) rfl rfl rfl rfl ?_
  refine x_iload (pc' := 12) rfl rfl rfl ?_
  refine x_iconst (pc' := 13) rfl rfl ?_
  refine x_icmp (a' := 90) (pc' := 16) (z := false) rfl rfl rfl (by decide) (fun h => by cases h) (fun _ => ?_)
  refine x_aload_n (pc' := 17) rfl rfl rfl rfl rfl ?_
  refine x_aload_n (pc' := 18) rfl rfl rfl rfl rfl ?_
  refine x_iload (pc' := 20) rfl rfl rfl ?_
  refine x_iload_n (pc' := 21) rfl rfl rfl ?_
  refine x_cv (ls0 := [_, _, _, _, sJk, sJk, sJk, sJk]) (rest := []) rfl rfl rfl rfl rfl ?_
  refine c81_30f hM hc (Fc.ri (Fc.refl _) hR) hC ?_
  rw [cp30fF_e]
  refine sK_i (pc' := 24) rfl ?_
  refine x_istore (pc' := 26) (ls' := [_, _, _, _, _, _, _, _]) rfl rfl rfl rfl ?_
  refine x_iload_n (pc' := 27) rfl rfl rfl ?_
  refine x_if (a' := 45) (pc' := 30) (z := true) rfl rfl rfl (by decide) (fun _ => ?_) (fun h => by cases h)
  refine x_iload (pc' := 47) rfl rfl rfl ?_
  refine x_iload (pc' := 49) rfl rfl rfl ?_
  have J3 : X 82 57 [.inr (.inr (10, (some 0))), .inr (.inr (1, (some 3))), .inl (bz false), .inl (-1), .inl (-10000), .inl 0, .inl (bif (wokF M n 3 false 0) then (wprF M n 3 false 0) else (-10000)), sJk] [.inl (bz (decide ((-10000) < (bif (wokF M n 3 false 0) then (wprF M n 3 false 0) else (-10000)))))] t Q := by
    refine x_istore (pc' := 59) (ls' := [_, _, _, _, _, _, _, _]) rfl rfl rfl rfl ?_
    refine x_iload (pc' := 61) rfl rfl rfl ?_
    refine x_sipush (pc' := 64) rfl rfl ?_
    have J6 : X 82 84 [.inr (.inr (10, (some 0))), .inr (.inr (1, (some 3))), .inl (bz false), .inl (ov (bif (decide ((bif (wokF M n 3 false 0) then (wprF M n 3 false 0) else (-10000)) = (-10000))) then none else (some 0))), .inl (bif (decide ((bif (wokF M n 3 false 0) then (wprF M n 3 false 0) else (-10000)) = (-10000))) then (-10000) else (bif (wokF M n 3 false 0) then (wprF M n 3 false 0) else (-10000))), .inl 0, .inl (bif (wokF M n 3 false 0) then (wprF M n 3 false 0) else (-10000)), .inl (bz (decide ((-10000) < (bif (wokF M n 3 false 0) then (wprF M n 3 false 0) else (-10000)))))] [] t Q := by
      refine x_iinc (pc' := 87) (y := 1) (ls' := [_, _, _, _, _, _, _, _]) rfl rfl rfl rfl rfl ?_
      refine x_goto (pc' := 10) rfl rfl ?_
      refine x_iload (pc' := 12) rfl rfl rfl ?_
      refine x_iconst (pc' := 13) rfl rfl ?_
      refine x_icmp (a' := 90) (pc' := 16) (z := false) rfl rfl rfl (by decide) (fun h => by cases h) (fun _ => ?_)
      refine x_aload_n (pc' := 17) rfl rfl rfl rfl rfl ?_
      refine x_aload_n (pc' := 18) rfl rfl rfl rfl rfl ?_
      refine x_iload (pc' := 20) rfl rfl rfl ?_
      refine x_iload_n (pc' := 21) rfl rfl rfl ?_
      refine x_cv (ls0 := [_, _, _, _, sJk, sJk, sJk, sJk]) (rest := []) rfl rfl rfl rfl rfl ?_
      refine c81_31f hM hc (Fc.ri (Fc.refl _) hR) hC ?_
      rw [cp31fF_e]
      refine sK_i (pc' := 24) rfl ?_
      refine x_istore (pc' := 26) (ls' := [_, _, _, _, _, _, _, _]) rfl rfl rfl rfl ?_
      refine x_iload_n (pc' := 27) rfl rfl rfl ?_
      refine x_if (a' := 45) (pc' := 30) (z := true) rfl rfl rfl (by decide) (fun _ => ?_) (fun h => by cases h)
      refine x_iload (pc' := 47) rfl rfl rfl ?_
      refine x_iload (pc' := 49) rfl rfl rfl ?_
      have J10 : X 82 57 [.inr (.inr (10, (some 0))), .inr (.inr (1, (some 3))), .inl (bz false), .inl (ov (bif (decide ((bif (wokF M n 3 false 0) then (wprF M n 3 false 0) else (-10000)) = (-10000))) then none else (some 0))), .inl (bif (decide ((bif (wokF M n 3 false 0) then (wprF M n 3 false 0) else (-10000)) = (-10000))) then (-10000) else (bif (wokF M n 3 false 0) then (wprF M n 3 false 0) else (-10000))), .inl 1, .inl (bif (wokF M n 3 false 1) then (wprF M n 3 false 1) else (-10000)), .inl (bz (decide ((-10000) < (bif (wokF M n 3 false 0) then (wprF M n 3 false 0) else (-10000)))))] [.inl (bz (decide ((bif (decide ((bif (wokF M n 3 false 0) then (wprF M n 3 false 0) else (-10000)) = (-10000))) then (-10000) else (bif (wokF M n 3 false 0) then (wprF M n 3 false 0) else (-10000))) < (bif (wokF M n 3 false 1) then (wprF M n 3 false 1) else (-10000)))))] t Q := by
        refine x_istore (pc' := 59) (ls' := [_, _, _, _, _, _, _, _]) rfl rfl rfl rfl ?_
        refine x_iload (pc' := 61) rfl rfl rfl ?_
        refine x_sipush (pc' := 64) rfl rfl ?_
        have J14 : X 82 84 [.inr (.inr (10, (some 0))), .inr (.inr (1, (some 3))), .inl (bz false), .inl (ov (bif (decide ((bif (wokF M n 3 false 1) then (wprF M n 3 false 1) else (-10000)) = (-10000))) then (bif (decide ((bif (wokF M n 3 false 0) then (wprF M n 3 false 0) else (-10000)) = (-10000))) then none else (some 0)) else (bif (bif (decide ((bif (wokF M n 3 false 0) then (wprF M n 3 false 0) else (-10000)) = (-10000))) then none else (some 0)).isNone then (some 1) else (bif (decide ((bif (decide ((bif (wokF M n 3 false 0) then (wprF M n 3 false 0) else (-10000)) = (-10000))) then (-10000) else (bif (wokF M n 3 false 0) then (wprF M n 3 false 0) else (-10000))) < (bif (wokF M n 3 false 1) then (wprF M n 3 false 1) else (-10000)))) then (some 1) else (bif (decide ((bif (wokF M n 3 false 0) then (wprF M n 3 false 0) else (-10000)) = (-10000))) then none else (some 0)))))), .inl (bif (decide ((bif (wokF M n 3 false 1) then (wprF M n 3 false 1) else (-10000)) = (-10000))) then (bif (decide ((bif (wokF M n 3 false 0) then (wprF M n 3 false 0) else (-10000)) = (-10000))) then (-10000) else (bif (wokF M n 3 false 0) then (wprF M n 3 false 0) else (-10000))) else (bif (bif (decide ((bif (wokF M n 3 false 0) then (wprF M n 3 false 0) else (-10000)) = (-10000))) then none else (some 0)).isNone then (bif (wokF M n 3 false 1) then (wprF M n 3 false 1) else (-10000)) else (mxc (bif (decide ((bif (wokF M n 3 false 0) then (wprF M n 3 false 0) else (-10000)) = (-10000))) then (-10000) else (bif (wokF M n 3 false 0) then (wprF M n 3 false 0) else (-10000))) (bif (wokF M n 3 false 1) then (wprF M n 3 false 1) else (-10000))))), .inl 1, .inl (bif (wokF M n 3 false 1) then (wprF M n 3 false 1) else (-10000)), .inl (bz (decide ((bif (decide ((bif (wokF M n 3 false 0) then (wprF M n 3 false 0) else (-10000)) = (-10000))) then (-10000) else (bif (wokF M n 3 false 0) then (wprF M n 3 false 0) else (-10000))) < (bif (wokF M n 3 false 1) then (wprF M n 3 false 1) else (-10000)))))] [] t Q := by
          refine x_iinc (pc' := 87) (y := 2) (ls' := [_, _, _, _, _, _, _, _]) rfl rfl rfl rfl rfl ?_
          refine x_goto (pc' := 10) rfl rfl ?_
          refine x_iload (pc' := 12) rfl rfl rfl ?_
          refine x_iconst (pc' := 13) rfl rfl ?_
          refine x_icmp (a' := 90) (pc' := 16) (z := false) rfl rfl rfl (by decide) (fun h => by cases h) (fun _ => ?_)
          refine x_aload_n (pc' := 17) rfl rfl rfl rfl rfl ?_
          refine x_aload_n (pc' := 18) rfl rfl rfl rfl rfl ?_
          refine x_iload (pc' := 20) rfl rfl rfl ?_
          refine x_iload_n (pc' := 21) rfl rfl rfl ?_
          refine x_cv (ls0 := [_, _, _, _, sJk, sJk, sJk, sJk]) (rest := []) rfl rfl rfl rfl rfl ?_
          refine c81_32f hM hc (Fc.ri (Fc.refl _) hR) hC ?_
          refine sK_i (pc' := 24) rfl ?_
          refine x_istore (pc' := 26) (ls' := [_, _, _, _, _, _, _, _]) rfl rfl rfl rfl ?_
          refine x_iload_n (pc' := 27) rfl rfl rfl ?_
          refine x_if (a' := 45) (pc' := 30) (z := true) rfl rfl rfl (by decide) (fun _ => ?_) (fun h => by cases h)
          refine x_iload (pc' := 47) rfl rfl rfl ?_
          refine x_iload (pc' := 49) rfl rfl rfl ?_
          have J18 : X 82 57 [.inr (.inr (10, (some 0))), .inr (.inr (1, (some 3))), .inl (bz false), .inl (ov (bif (decide ((bif (wokF M n 3 false 1) then (wprF M n 3 false 1) else (-10000)) = (-10000))) then (bif (decide ((bif (wokF M n 3 false 0) then (wprF M n 3 false 0) else (-10000)) = (-10000))) then none else (some 0)) else (bif (bif (decide ((bif (wokF M n 3 false 0) then (wprF M n 3 false 0) else (-10000)) = (-10000))) then none else (some 0)).isNone then (some 1) else (bif (decide ((bif (decide ((bif (wokF M n 3 false 0) then (wprF M n 3 false 0) else (-10000)) = (-10000))) then (-10000) else (bif (wokF M n 3 false 0) then (wprF M n 3 false 0) else (-10000))) < (bif (wokF M n 3 false 1) then (wprF M n 3 false 1) else (-10000)))) then (some 1) else (bif (decide ((bif (wokF M n 3 false 0) then (wprF M n 3 false 0) else (-10000)) = (-10000))) then none else (some 0)))))), .inl (bif (decide ((bif (wokF M n 3 false 1) then (wprF M n 3 false 1) else (-10000)) = (-10000))) then (bif (decide ((bif (wokF M n 3 false 0) then (wprF M n 3 false 0) else (-10000)) = (-10000))) then (-10000) else (bif (wokF M n 3 false 0) then (wprF M n 3 false 0) else (-10000))) else (bif (bif (decide ((bif (wokF M n 3 false 0) then (wprF M n 3 false 0) else (-10000)) = (-10000))) then none else (some 0)).isNone then (bif (wokF M n 3 false 1) then (wprF M n 3 false 1) else (-10000)) else (mxc (bif (decide ((bif (wokF M n 3 false 0) then (wprF M n 3 false 0) else (-10000)) = (-10000))) then (-10000) else (bif (wokF M n 3 false 0) then (wprF M n 3 false 0) else (-10000))) (bif (wokF M n 3 false 1) then (wprF M n 3 false 1) else (-10000))))), .inl 2, .inl (-10000), .inl (bz (decide ((bif (decide ((bif (wokF M n 3 false 0) then (wprF M n 3 false 0) else (-10000)) = (-10000))) then (-10000) else (bif (wokF M n 3 false 0) then (wprF M n 3 false 0) else (-10000))) < (bif (wokF M n 3 false 1) then (wprF M n 3 false 1) else (-10000)))))] [.inl (bz (decide ((bif (decide ((bif (wokF M n 3 false 1) then (wprF M n 3 false 1) else (-10000)) = (-10000))) then (bif (decide ((bif (wokF M n 3 false 0) then (wprF M n 3 false 0) else (-10000)) = (-10000))) then (-10000) else (bif (wokF M n 3 false 0) then (wprF M n 3 false 0) else (-10000))) else (bif (bif (decide ((bif (wokF M n 3 false 0) then (wprF M n 3 false 0) else (-10000)) = (-10000))) then none else (some 0)).isNone then (bif (wokF M n 3 false 1) then (wprF M n 3 false 1) else (-10000)) else (mxc (bif (decide ((bif (wokF M n 3 false 0) then (wprF M n 3 false 0) else (-10000)) = (-10000))) then (-10000) else (bif (wokF M n 3 false 0) then (wprF M n 3 false 0) else (-10000))) (bif (wokF M n 3 false 1) then (wprF M n 3 false 1) else (-10000))))) < (-10000))))] t Q := by
            refine x_istore (pc' := 59) (ls' := [_, _, _, _, _, _, _, _]) rfl rfl rfl rfl ?_
            refine x_iload (pc' := 61) rfl rfl rfl ?_
            refine x_sipush (pc' := 64) rfl rfl ?_
            refine x_icmp (a' := 84) (pc' := 67) (z := true) rfl rfl rfl (by decide) (fun _ => ?_) (fun h => by cases h)
            refine x_iinc (pc' := 87) (y := 3) (ls' := [_, _, _, _, _, _, _, _]) rfl rfl rfl rfl rfl ?_
            refine x_goto (pc' := 10) rfl rfl ?_
            refine x_iload (pc' := 12) rfl rfl rfl ?_
            refine x_iconst (pc' := 13) rfl rfl ?_
            refine x_icmp (a' := 90) (pc' := 16) (z := true) rfl rfl rfl (by decide) (fun _ => ?_) (fun h => by cases h)
            refine x_iload_n (pc' := 91) rfl rfl rfl ?_
            refine x_reti rfl rfl ?_
            exact q (obd_c (obd_c obd_n (obd_s (by decide))) (obd_c (obd_s (by decide)) (obd_c (obd_s (by decide)) (obd_c obd_n (obd_s (by decide))))))
          refine x_icmp_n (a' := 56) (pc' := 52) (z := decide ((bif (decide ((bif (wokF M n 3 false 1) then (wprF M n 3 false 1) else (-10000)) = (-10000))) then (bif (decide ((bif (wokF M n 3 false 0) then (wprF M n 3 false 0) else (-10000)) = (-10000))) then (-10000) else (bif (wokF M n 3 false 0) then (wprF M n 3 false 0) else (-10000))) else (bif (bif (decide ((bif (wokF M n 3 false 0) then (wprF M n 3 false 0) else (-10000)) = (-10000))) then none else (some 0)).isNone then (bif (wokF M n 3 false 1) then (wprF M n 3 false 1) else (-10000)) else (mxc (bif (decide ((bif (wokF M n 3 false 0) then (wprF M n 3 false 0) else (-10000)) = (-10000))) then (-10000) else (bif (wokF M n 3 false 0) then (wprF M n 3 false 0) else (-10000))) (bif (wokF M n 3 false 1) then (wprF M n 3 false 1) else (-10000))))) < (-10000))) rfl rfl rfl (ik_le _ _) (fun q18 => ?_) (fun q18 => ?_)
          · refine x_iconst (pc' := 57) rfl rfl ?_
            ((try rw [q18] at J18); (try rw [q18]); (try simp only [cd_t, cd_f, nt_t, nt_f, an_t, an_f, or_t, or_f] at J18); (try simp only [cd_t, cd_f, nt_t, nt_f, an_t, an_f, or_t, or_f]); exact J18)
          · refine x_iconst (pc' := 53) rfl rfl ?_
            refine x_goto (pc' := 57) rfl rfl ?_
            ((try rw [q18] at J18); (try rw [q18]); (try simp only [cd_t, cd_f, nt_t, nt_f, an_t, an_f, or_t, or_f] at J18); (try simp only [cd_t, cd_f, nt_t, nt_f, an_t, an_f, or_t, or_f]); exact J18)
        refine x_icmp (a' := 84) (pc' := 67) (z := decide ((bif (wokF M n 3 false 1) then (wprF M n 3 false 1) else (-10000)) = (-10000))) rfl rfl rfl rfl (fun q12 => ?_) (fun q12 => ?_)
        · ((try rw [q12] at J14); (try rw [q12]); (try simp only [cd_t, cd_f, nt_t, nt_f, an_t, an_f, or_t, or_f] at J14); (try simp only [cd_t, cd_f, nt_t, nt_f, an_t, an_f, or_t, or_f]); exact J14)
        · refine x_iload_n (pc' := 68) rfl rfl rfl ?_
          refine x_iconst (pc' := 69) rfl rfl ?_
          refine x_icmp (a' := 77) (pc' := 72) (z := (bif (decide ((bif (wokF M n 3 false 0) then (wprF M n 3 false 0) else (-10000)) = (-10000))) then none else (some 0)).isNone) rfl rfl rfl (ov_eq (ov_31 (N := 3) (obd_c obd_n (obd_s (by decide))) (by decide))) (fun q13 => ?_) (fun q13 => ?_)
          · refine x_iload (pc' := 79) rfl rfl rfl ?_
            refine x_istore_n (pc' := 80) (ls' := [_, _, _, _, _, _, _, _]) rfl rfl rfl rfl ?_
            refine x_iload (pc' := 82) rfl rfl rfl ?_
            refine x_istore (pc' := 84) (ls' := [_, _, _, _, _, _, _, _]) rfl rfl rfl rfl ?_
            ((try rw [q13] at J14); (try rw [q13]); (try rw [q12] at J14); (try rw [q12]); (try simp only [cd_t, cd_f, nt_t, nt_f, an_t, an_f, or_t, or_f] at J14); (try simp only [cd_t, cd_f, nt_t, nt_f, an_t, an_f, or_t, or_f]); exact J14)
          · refine x_iload (pc' := 74) rfl rfl rfl ?_
            refine x_ifeq_z (a' := 84) (pc' := 77) (z := (decide ((bif (decide ((bif (wokF M n 3 false 0) then (wprF M n 3 false 0) else (-10000)) = (-10000))) then (-10000) else (bif (wokF M n 3 false 0) then (wprF M n 3 false 0) else (-10000))) < (bif (wokF M n 3 false 1) then (wprF M n 3 false 1) else (-10000))))) rfl rfl rfl (fun q14 => ?_) (fun q14 => ?_)
            · ((try rw [q14] at J14); (try rw [q14]); (try rw [q13] at J14); (try rw [q13]); (try rw [q12] at J14); (try rw [q12]); (try simp only [cd_t, cd_f, nt_t, nt_f, an_t, an_f, or_t, or_f] at J14); (try simp only [cd_t, cd_f, nt_t, nt_f, an_t, an_f, or_t, or_f]); exact J14)
            · refine x_iload (pc' := 79) rfl rfl rfl ?_
              refine x_istore_n (pc' := 80) (ls' := [_, _, _, _, _, _, _, _]) rfl rfl rfl rfl ?_
              refine x_iload (pc' := 82) rfl rfl rfl ?_
              refine x_istore (pc' := 84) (ls' := [_, _, _, _, _, _, _, _]) rfl rfl rfl rfl ?_
              ((try rw [q14] at J14); (try rw [q14]); (try rw [q13] at J14); (try rw [q13]); (try rw [q12] at J14); (try rw [q12]); (try simp only [cd_t, cd_f, nt_t, nt_f, an_t, an_f, or_t, or_f] at J14); (try simp only [cd_t, cd_f, nt_t, nt_f, an_t, an_f, or_t, or_f]); exact J14)
      refine x_icmp_n (a' := 56) (pc' := 52) (z := decide ((bif (decide ((bif (wokF M n 3 false 0) then (wprF M n 3 false 0) else (-10000)) = (-10000))) then (-10000) else (bif (wokF M n 3 false 0) then (wprF M n 3 false 0) else (-10000))) < (bif (wokF M n 3 false 1) then (wprF M n 3 false 1) else (-10000)))) rfl rfl rfl (ik_le _ _) (fun q10 => ?_) (fun q10 => ?_)
      · refine x_iconst (pc' := 57) rfl rfl ?_
        ((try rw [mxc_f q10] at J10); (try rw [q10] at J10); (try rw [q10]); (try simp only [cd_t, cd_f, nt_t, nt_f, an_t, an_f, or_t, or_f] at J10); (try simp only [cd_t, cd_f, nt_t, nt_f, an_t, an_f, or_t, or_f]); exact J10)
      · refine x_iconst (pc' := 53) rfl rfl ?_
        refine x_goto (pc' := 57) rfl rfl ?_
        ((try rw [mxc_t q10] at J10); (try rw [q10] at J10); (try rw [q10]); (try simp only [cd_t, cd_f, nt_t, nt_f, an_t, an_f, or_t, or_f] at J10); (try simp only [cd_t, cd_f, nt_t, nt_f, an_t, an_f, or_t, or_f]); exact J10)
    refine x_icmp (a' := 84) (pc' := 67) (z := decide ((bif (wokF M n 3 false 0) then (wprF M n 3 false 0) else (-10000)) = (-10000))) rfl rfl rfl rfl (fun q5 => ?_) (fun q5 => ?_)
    · ((try rw [q5] at J6); (try rw [q5]); (try simp only [cd_t, cd_f, nt_t, nt_f, an_t, an_f, or_t, or_f] at J6); (try simp only [cd_t, cd_f, nt_t, nt_f, an_t, an_f, or_t, or_f]); exact J6)
    · refine x_iload_n (pc' := 68) rfl rfl rfl ?_
      refine x_iconst (pc' := 69) rfl rfl ?_
      refine x_icmp (a' := 77) (pc' := 72) (z := true) rfl rfl rfl (by decide) (fun _ => ?_) (fun h => by cases h)
      refine x_iload (pc' := 79) rfl rfl rfl ?_
      refine x_istore_n (pc' := 80) (ls' := [_, _, _, _, _, _, _, _]) rfl rfl rfl rfl ?_
      refine x_iload (pc' := 82) rfl rfl rfl ?_
      refine x_istore (pc' := 84) (ls' := [_, _, _, _, _, _, _, _]) rfl rfl rfl rfl ?_
      ((try rw [q5] at J6); (try rw [q5]); (try simp only [cd_t, cd_f, nt_t, nt_f, an_t, an_f, or_t, or_f] at J6); (try simp only [cd_t, cd_f, nt_t, nt_f, an_t, an_f, or_t, or_f]); exact J6)
  refine x_icmp_n (a' := 56) (pc' := 52) (z := decide ((-10000) < (bif (wokF M n 3 false 0) then (wprF M n 3 false 0) else (-10000)))) rfl rfl rfl (ik_le _ _) (fun q3 => ?_) (fun q3 => ?_)
  · refine x_iconst (pc' := 57) rfl rfl ?_
    ((try rw [q3] at J3); (try rw [q3]); (try simp only [cd_t, cd_f, nt_t, nt_f, an_t, an_f, or_t, or_f] at J3); (try simp only [cd_t, cd_f, nt_t, nt_f, an_t, an_f, or_t, or_f]); exact J3)
  · refine x_iconst (pc' := 53) rfl rfl ?_
    refine x_goto (pc' := 57) rfl rfl ?_
    ((try rw [q3] at J3); (try rw [q3]); (try simp only [cd_t, cd_f, nt_t, nt_f, an_t, an_f, or_t, or_f] at J3); (try simp only [cd_t, cd_f, nt_t, nt_f, an_t, an_f, or_t, or_f]); exact J3)
def cb3tF (M : sM) (n : Nat) : Option Nat := (bif (decide ((bif (wokF M n 3 true 1) then (wprF M n 3 true 1) else (-10000)) = (-10000))) then (bif (decide ((bif (wokF M n 3 true 0) then (wprF M n 3 true 0) else (-10000)) = (-10000))) then none else (some 0)) else (bif (bif (decide ((bif (wokF M n 3 true 0) then (wprF M n 3 true 0) else (-10000)) = (-10000))) then none else (some 0)).isNone then (some 1) else (bif (decide ((bif (wokF M n 3 true 1) then (wprF M n 3 true 1) else (-10000)) < (bif (decide ((bif (wokF M n 3 true 0) then (wprF M n 3 true 0) else (-10000)) = (-10000))) then (-10000) else (bif (wokF M n 3 true 0) then (wprF M n 3 true 0) else (-10000))))) then (some 1) else (bif (decide ((bif (wokF M n 3 true 0) then (wprF M n 3 true 0) else (-10000)) = (-10000))) then none else (some 0)))))
set_option maxHeartbeats 4000000 in
set_option maxRecDepth 10000 in
theorem c82_3t {t : sT} {Q : sRs → sT → Prop} {M : sM} {n : Nat} {T : Nat}
    (hM : Rl t M n T)
    (hc : Sf t M n T)
    (hR : Ri M n)
    (hC : rlC t M n)
    (q : (∀ j, cb3tF M n = some j → j < 3) → Q (.inl (some (.inl (ov (cb3tF M n))))) t) :
    X 82 0 [.inr (.inr (10, (some 0))), .inr (.inr (1, (some 3))), .inl (bz true), sJk, sJk, sJk, sJk, sJk] [] t Q := by
  refine x_iconst (pc' := 1) rfl rfl ?_
  refine x_istore_n (pc' := 2) (ls' := [_, _, _, _, _, _, _, _]) rfl rfl rfl rfl ?_
  refine x_sipush (pc' := 5) rfl rfl ?_
  refine x_istore (pc' := 7) (ls' := [_, _, _, _, _, _, _, _]) rfl rfl rfl rfl ?_
  refine x_iconst (pc' := 8) rfl rfl ?_
  refine x_istore (pc' := 10) (ls' := [_, _, _, _, _, _, _, _]) rfl rfl rfl rfl ?_
  refine x_iload (pc' := 12) rfl rfl rfl ?_
  refine x_iconst (pc' := 13) rfl rfl ?_
  refine x_icmp (a' := 90) (pc' := 16) (z := false) rfl rfl rfl (by decide) (fun h => by cases h) (fun _ => ?_)
  refine x_aload_n (pc' := 17) rfl rfl rfl rfl rfl ?_
  refine x_aload_n (pc' := 18) rfl rfl rfl rfl rfl ?_
  refine x_iload (pc' := 20) rfl rfl rfl ?_
  refine x_iload_n (pc' := 21) rfl rfl rfl ?_
  refine x_cv (ls0 := [_, _, _, _, sJk, sJk, sJk, sJk]) (rest := []) rfl rfl rfl rfl rfl ?_
  refine c81_30t hM hc (Fc.ri (Fc.refl _) hR) hC ?_
  rw [cp30tF_e]
  refine sK_i (pc' := 24) rfl ?_
  refine x_istore (pc' := 26) (ls' := [_, _, _, _, _, _, _, _]) rfl rfl rfl rfl ?_
  refine x_iload_n (pc' := 27) rfl rfl rfl ?_
  refine x_if (a' := 45) (pc' := 30) (z := false) rfl rfl rfl (by decide) (fun h => by cases h) (fun _ => ?_)
  refine x_iload (pc' := 32) rfl rfl rfl ?_
  refine x_iload (pc' := 34) rfl rfl rfl ?_
  have J3 : X 82 57 [.inr (.inr (10, (some 0))), .inr (.inr (1, (some 3))), .inl (bz true), .inl (-1), .inl (-10000), .inl 0, .inl (bif (wokF M n 3 true 0) then (wprF M n 3 true 0) else (-10000)), sJk] [.inl (bz (decide ((bif (wokF M n 3 true 0) then (wprF M n 3 true 0) else (-10000)) < (-10000))))] t Q := by
    refine x_istore (pc' := 59) (ls' := [_, _, _, _, _, _, _, _]) rfl rfl rfl rfl ?_
    refine x_iload (pc' := 61) rfl rfl rfl ?_
    refine x_sipush (pc' := 64) rfl rfl ?_
    have J6 : X 82 84 [.inr (.inr (10, (some 0))), .inr (.inr (1, (some 3))), .inl (bz true), .inl (ov (bif (decide ((bif (wokF M n 3 true 0) then (wprF M n 3 true 0) else (-10000)) = (-10000))) then none else (some 0))), .inl (bif (decide ((bif (wokF M n 3 true 0) then (wprF M n 3 true 0) else (-10000)) = (-10000))) then (-10000) else (bif (wokF M n 3 true 0) then (wprF M n 3 true 0) else (-10000))), .inl 0, .inl (bif (wokF M n 3 true 0) then (wprF M n 3 true 0) else (-10000)), .inl (bz (decide ((bif (wokF M n 3 true 0) then (wprF M n 3 true 0) else (-10000)) < (-10000))))] [] t Q := by
      refine x_iinc (pc' := 87) (y := 1) (ls' := [_, _, _, _, _, _, _, _]) rfl rfl rfl rfl rfl ?_
      refine x_goto (pc' := 10) rfl rfl ?_
      refine x_iload (pc' := 12) rfl rfl rfl ?_
      refine x_iconst (pc' := 13) rfl rfl ?_
      refine x_icmp (a' := 90) (pc' := 16) (z := false) rfl rfl rfl (by decide) (fun h => by cases h) (fun _ => ?_)
      refine x_aload_n (pc' := 17) rfl rfl rfl rfl rfl ?_
      refine x_aload_n (pc' := 18) rfl rfl rfl rfl rfl ?_
      refine x_iload (pc' := 20) rfl rfl rfl ?_
      refine x_iload_n (pc' := 21) rfl rfl rfl ?_
      refine x_cv (ls0 := [_, _, _, _, sJk, sJk, sJk, sJk]) (rest := []) rfl rfl rfl rfl rfl ?_
      refine c81_31t hM hc (Fc.ri (Fc.refl _) hR) hC ?_
      rw [cp31tF_e]
      refine sK_i (pc' := 24) rfl ?_
      refine x_istore (pc' := 26) (ls' := [_, _, _, _, _, _, _, _]) rfl rfl rfl rfl ?_
      refine x_iload_n (pc' := 27) rfl rfl rfl ?_
      refine x_if (a' := 45) (pc' := 30) (z := false) rfl rfl rfl (by decide) (fun h => by cases h) (fun _ => ?_)
      refine x_iload (pc' := 32) rfl rfl rfl ?_
      refine x_iload (pc' := 34) rfl rfl rfl ?_
      have J10 : X 82 57 [.inr (.inr (10, (some 0))), .inr (.inr (1, (some 3))), .inl (bz true), .inl (ov (bif (decide ((bif (wokF M n 3 true 0) then (wprF M n 3 true 0) else (-10000)) = (-10000))) then none else (some 0))), .inl (bif (decide ((bif (wokF M n 3 true 0) then (wprF M n 3 true 0) else (-10000)) = (-10000))) then (-10000) else (bif (wokF M n 3 true 0) then (wprF M n 3 true 0) else (-10000))), .inl 1, .inl (bif (wokF M n 3 true 1) then (wprF M n 3 true 1) else (-10000)), .inl (bz (decide ((bif (wokF M n 3 true 0) then (wprF M n 3 true 0) else (-10000)) < (-10000))))] [.inl (bz (decide ((bif (wokF M n 3 true 1) then (wprF M n 3 true 1) else (-10000)) < (bif (decide ((bif (wokF M n 3 true 0) then (wprF M n 3 true 0) else (-10000)) = (-10000))) then (-10000) else (bif (wokF M n 3 true 0) then (wprF M n 3 true 0) else (-10000))))))] t Q := by
        refine x_istore (pc' := 59) (ls' := [_, _, _, _, _, _, _, _]) rfl rfl rfl rfl ?_
        refine x_iload (pc' := 61) rfl rfl rfl ?_
        refine x_sipush (pc' := 64) rfl rfl ?_
        have J14 : X 82 84 [.inr (.inr (10, (some 0))), .inr (.inr (1, (some 3))), .inl (bz true), .inl (ov (bif (decide ((bif (wokF M n 3 true 1) then (wprF M n 3 true 1) else (-10000)) = (-10000))) then (bif (decide ((bif (wokF M n 3 true 0) then (wprF M n 3 true 0) else (-10000)) = (-10000))) then none else (some 0)) else (bif (bif (decide ((bif (wokF M n 3 true 0) then (wprF M n 3 true 0) else (-10000)) = (-10000))) then none else (some 0)).isNone then (some 1) else (bif (decide ((bif (wokF M n 3 true 1) then (wprF M n 3 true 1) else (-10000)) < (bif (decide ((bif (wokF M n 3 true 0) then (wprF M n 3 true 0) else (-10000)) = (-10000))) then (-10000) else (bif (wokF M n 3 true 0) then (wprF M n 3 true 0) else (-10000))))) then (some 1) else (bif (decide ((bif (wokF M n 3 true 0) then (wprF M n 3 true 0) else (-10000)) = (-10000))) then none else (some 0)))))), .inl (bif (decide ((bif (wokF M n 3 true 1) then (wprF M n 3 true 1) else (-10000)) = (-10000))) then (bif (decide ((bif (wokF M n 3 true 0) then (wprF M n 3 true 0) else (-10000)) = (-10000))) then (-10000) else (bif (wokF M n 3 true 0) then (wprF M n 3 true 0) else (-10000))) else (bif (bif (decide ((bif (wokF M n 3 true 0) then (wprF M n 3 true 0) else (-10000)) = (-10000))) then none else (some 0)).isNone then (bif (wokF M n 3 true 1) then (wprF M n 3 true 1) else (-10000)) else (mnc (bif (wokF M n 3 true 1) then (wprF M n 3 true 1) else (-10000)) (bif (decide ((bif (wokF M n 3 true 0) then (wprF M n 3 true 0) else (-10000)) = (-10000))) then (-10000) else (bif (wokF M n 3 true 0) then (wprF M n 3 true 0) else (-10000)))))), .inl 1, .inl (bif (wokF M n 3 true 1) then (wprF M n 3 true 1) else (-10000)), .inl (bz (decide ((bif (wokF M n 3 true 1) then (wprF M n 3 true 1) else (-10000)) < (bif (decide ((bif (wokF M n 3 true 0) then (wprF M n 3 true 0) else (-10000)) = (-10000))) then (-10000) else (bif (wokF M n 3 true 0) then (wprF M n 3 true 0) else (-10000))))))] [] t Q := by
          refine x_iinc (pc' := 87) (y := 2) (ls' := [_, _, _, _, _, _, _, _]) rfl rfl rfl rfl rfl ?_
          refine x_goto (pc' := 10) rfl rfl ?_
          refine x_iload (pc' := 12) rfl rfl rfl ?_
          refine x_iconst (pc' := 13) rfl rfl ?_
          refine x_icmp (a' := 90) (pc' := 16) (z := false) rfl rfl rfl (by decide) (fun h => by cases h) (fun _ => ?_)
          refine x_aload_n (pc' := 17) rfl rfl rfl rfl rfl ?_
          refine x_aload_n (pc' := 18) rfl rfl rfl rfl rfl ?_
          refine x_iload (pc' := 20) rfl rfl rfl ?_
          refine x_iload_n (pc' := 21) rfl rfl rfl ?_
          refine x_cv (ls0 := [_, _, _, _, sJk, sJk, sJk, sJk]) (rest := []) rfl rfl rfl rfl rfl ?_
          refine c81_32t hM hc (Fc.ri (Fc.refl _) hR) hC ?_
          refine sK_i (pc' := 24) rfl ?_
          refine x_istore (pc' := 26) (ls' := [_, _, _, _, _, _, _, _]) rfl rfl rfl rfl ?_
          refine x_iload_n (pc' := 27) rfl rfl rfl ?_
          refine x_if (a' := 45) (pc' := 30) (z := false) rfl rfl rfl (by decide) (fun h => by cases h) (fun _ => ?_)
          refine x_iload (pc' := 32) rfl rfl rfl ?_
          refine x_iload (pc' := 34) rfl rfl rfl ?_
          have J18 : X 82 57 [.inr (.inr (10, (some 0))), .inr (.inr (1, (some 3))), .inl (bz true), .inl (ov (bif (decide ((bif (wokF M n 3 true 1) then (wprF M n 3 true 1) else (-10000)) = (-10000))) then (bif (decide ((bif (wokF M n 3 true 0) then (wprF M n 3 true 0) else (-10000)) = (-10000))) then none else (some 0)) else (bif (bif (decide ((bif (wokF M n 3 true 0) then (wprF M n 3 true 0) else (-10000)) = (-10000))) then none else (some 0)).isNone then (some 1) else (bif (decide ((bif (wokF M n 3 true 1) then (wprF M n 3 true 1) else (-10000)) < (bif (decide ((bif (wokF M n 3 true 0) then (wprF M n 3 true 0) else (-10000)) = (-10000))) then (-10000) else (bif (wokF M n 3 true 0) then (wprF M n 3 true 0) else (-10000))))) then (some 1) else (bif (decide ((bif (wokF M n 3 true 0) then (wprF M n 3 true 0) else (-10000)) = (-10000))) then none else (some 0)))))), .inl (bif (decide ((bif (wokF M n 3 true 1) then (wprF M n 3 true 1) else (-10000)) = (-10000))) then (bif (decide ((bif (wokF M n 3 true 0) then (wprF M n 3 true 0) else (-10000)) = (-10000))) then (-10000) else (bif (wokF M n 3 true 0) then (wprF M n 3 true 0) else (-10000))) else (bif (bif (decide ((bif (wokF M n 3 true 0) then (wprF M n 3 true 0) else (-10000)) = (-10000))) then none else (some 0)).isNone then (bif (wokF M n 3 true 1) then (wprF M n 3 true 1) else (-10000)) else (mnc (bif (wokF M n 3 true 1) then (wprF M n 3 true 1) else (-10000)) (bif (decide ((bif (wokF M n 3 true 0) then (wprF M n 3 true 0) else (-10000)) = (-10000))) then (-10000) else (bif (wokF M n 3 true 0) then (wprF M n 3 true 0) else (-10000)))))), .inl 2, .inl (-10000), .inl (bz (decide ((bif (wokF M n 3 true 1) then (wprF M n 3 true 1) else (-10000)) < (bif (decide ((bif (wokF M n 3 true 0) then (wprF M n 3 true 0) else (-10000)) = (-10000))) then (-10000) else (bif (wokF M n 3 true 0) then (wprF M n 3 true 0) else (-10000))))))] [.inl (bz (decide ((-10000) < (bif (decide ((bif (wokF M n 3 true 1) then (wprF M n 3 true 1) else (-10000)) = (-10000))) then (bif (decide ((bif (wokF M n 3 true 0) then (wprF M n 3 true 0) else (-10000)) = (-10000))) then (-10000) else (bif (wokF M n 3 true 0) then (wprF M n 3 true 0) else (-10000))) else (bif (bif (decide ((bif (wokF M n 3 true 0) then (wprF M n 3 true 0) else (-10000)) = (-10000))) then none else (some 0)).isNone then (bif (wokF M n 3 true 1) then (wprF M n 3 true 1) else (-10000)) else (mnc (bif (wokF M n 3 true 1) then (wprF M n 3 true 1) else (-10000)) (bif (decide ((bif (wokF M n 3 true 0) then (wprF M n 3 true 0) else (-10000)) = (-10000))) then (-10000) else (bif (wokF M n 3 true 0) then (wprF M n 3 true 0) else (-10000)))))))))] t Q := by
            refine x_istore (pc' := 59) (ls' := [_, _, _, _, _, _, _, _]) rfl rfl rfl rfl ?_
            refine x_iload (pc' := 61) rfl rfl rfl ?_
            refine x_sipush (pc' := 64) rfl rfl ?_
            refine x_icmp (a' := 84) (pc' := 67) (z := true) rfl rfl rfl (by decide) (fun _ => ?_) (fun h => by cases h)
            refine x_iinc (pc' := 87) (y := 3) (ls' := [_, _, _, _, _, _, _, _]) rfl rfl rfl rfl rfl ?_
            refine x_goto (pc' := 10) rfl rfl ?_
            refine x_iload (pc' := 12) rfl rfl rfl ?_
            refine x_iconst (pc' := 13) rfl rfl ?_
            refine x_icmp (a' := 90) (pc' := 16) (z := true) rfl rfl rfl (by decide) (fun _ => ?_) (fun h => by cases h)
            refine x_iload_n (pc' := 91) rfl rfl rfl ?_
            refine x_reti rfl rfl ?_
            exact q (obd_c (obd_c obd_n (obd_s (by decide))) (obd_c (obd_s (by decide)) (obd_c (obd_s (by decide)) (obd_c obd_n (obd_s (by decide))))))
          refine x_icmp_n (a' := 41) (pc' := 37) (z := decide ((-10000) < (bif (decide ((bif (wokF M n 3 true 1) then (wprF M n 3 true 1) else (-10000)) = (-10000))) then (bif (decide ((bif (wokF M n 3 true 0) then (wprF M n 3 true 0) else (-10000)) = (-10000))) then (-10000) else (bif (wokF M n 3 true 0) then (wprF M n 3 true 0) else (-10000))) else (bif (bif (decide ((bif (wokF M n 3 true 0) then (wprF M n 3 true 0) else (-10000)) = (-10000))) then none else (some 0)).isNone then (bif (wokF M n 3 true 1) then (wprF M n 3 true 1) else (-10000)) else (mnc (bif (wokF M n 3 true 1) then (wprF M n 3 true 1) else (-10000)) (bif (decide ((bif (wokF M n 3 true 0) then (wprF M n 3 true 0) else (-10000)) = (-10000))) then (-10000) else (bif (wokF M n 3 true 0) then (wprF M n 3 true 0) else (-10000)))))))) rfl rfl rfl (ik_ge _ _) (fun q18 => ?_) (fun q18 => ?_)
          · refine x_iconst (pc' := 42) rfl rfl ?_
            refine x_goto (pc' := 57) rfl rfl ?_
            ((try rw [q18] at J18); (try rw [q18]); (try simp only [cd_t, cd_f, nt_t, nt_f, an_t, an_f, or_t, or_f] at J18); (try simp only [cd_t, cd_f, nt_t, nt_f, an_t, an_f, or_t, or_f]); exact J18)
          · refine x_iconst (pc' := 38) rfl rfl ?_
            refine x_goto (pc' := 57) rfl rfl ?_
            ((try rw [q18] at J18); (try rw [q18]); (try simp only [cd_t, cd_f, nt_t, nt_f, an_t, an_f, or_t, or_f] at J18); (try simp only [cd_t, cd_f, nt_t, nt_f, an_t, an_f, or_t, or_f]); exact J18)
        refine x_icmp (a' := 84) (pc' := 67) (z := decide ((bif (wokF M n 3 true 1) then (wprF M n 3 true 1) else (-10000)) = (-10000))) rfl rfl rfl rfl (fun q12 => ?_) (fun q12 => ?_)
        · ((try rw [q12] at J14); (try rw [q12]); (try simp only [cd_t, cd_f, nt_t, nt_f, an_t, an_f, or_t, or_f] at J14); (try simp only [cd_t, cd_f, nt_t, nt_f, an_t, an_f, or_t, or_f]); exact J14)
        · refine x_iload_n (pc' := 68) rfl rfl rfl ?_
          refine x_iconst (pc' := 69) rfl rfl ?_
          refine x_icmp (a' := 77) (pc' := 72) (z := (bif (decide ((bif (wokF M n 3 true 0) then (wprF M n 3 true 0) else (-10000)) = (-10000))) then none else (some 0)).isNone) rfl rfl rfl (ov_eq (ov_31 (N := 3) (obd_c obd_n (obd_s (by decide))) (by decide))) (fun q13 => ?_) (fun q13 => ?_)
          · refine x_iload (pc' := 79) rfl rfl rfl ?_
            refine x_istore_n (pc' := 80) (ls' := [_, _, _, _, _, _, _, _]) rfl rfl rfl rfl ?_
            refine x_iload (pc' := 82) rfl rfl rfl ?_
            refine x_istore (pc' := 84) (ls' := [_, _, _, _, _, _, _, _]) rfl rfl rfl rfl ?_
            ((try rw [q13] at J14); (try rw [q13]); (try rw [q12] at J14); (try rw [q12]); (try simp only [cd_t, cd_f, nt_t, nt_f, an_t, an_f, or_t, or_f] at J14); (try simp only [cd_t, cd_f, nt_t, nt_f, an_t, an_f, or_t, or_f]); exact J14)
          · refine x_iload (pc' := 74) rfl rfl rfl ?_
            refine x_ifeq_z (a' := 84) (pc' := 77) (z := (decide ((bif (wokF M n 3 true 1) then (wprF M n 3 true 1) else (-10000)) < (bif (decide ((bif (wokF M n 3 true 0) then (wprF M n 3 true 0) else (-10000)) = (-10000))) then (-10000) else (bif (wokF M n 3 true 0) then (wprF M n 3 true 0) else (-10000)))))) rfl rfl rfl (fun q14 => ?_) (fun q14 => ?_)
            · ((try rw [q14] at J14); (try rw [q14]); (try rw [q13] at J14); (try rw [q13]); (try rw [q12] at J14); (try rw [q12]); (try simp only [cd_t, cd_f, nt_t, nt_f, an_t, an_f, or_t, or_f] at J14); (try simp only [cd_t, cd_f, nt_t, nt_f, an_t, an_f, or_t, or_f]); exact J14)
            · refine x_iload (pc' := 79) rfl rfl rfl ?_
              refine x_istore_n (pc' := 80) (ls' := [_, _, _, _, _, _, _, _]) rfl rfl rfl rfl ?_
              refine x_iload (pc' := 82) rfl rfl rfl ?_
              refine x_istore (pc' := 84) (ls' := [_, _, _, _, _, _, _, _]) rfl rfl rfl rfl ?_
              ((try rw [q14] at J14); (try rw [q14]); (try rw [q13] at J14); (try rw [q13]); (try rw [q12] at J14); (try rw [q12]); (try simp only [cd_t, cd_f, nt_t, nt_f, an_t, an_f, or_t, or_f] at J14); (try simp only [cd_t, cd_f, nt_t, nt_f, an_t, an_f, or_t, or_f]); exact J14)
      refine x_icmp_n (a' := 41) (pc' := 37) (z := decide ((bif (wokF M n 3 true 1) then (wprF M n 3 true 1) else (-10000)) < (bif (decide ((bif (wokF M n 3 true 0) then (wprF M n 3 true 0) else (-10000)) = (-10000))) then (-10000) else (bif (wokF M n 3 true 0) then (wprF M n 3 true 0) else (-10000))))) rfl rfl rfl (ik_ge _ _) (fun q10 => ?_) (fun q10 => ?_)
      · refine x_iconst (pc' := 42) rfl rfl ?_
        refine x_goto (pc' := 57) rfl rfl ?_
        ((try rw [mnc_f q10] at J10); (try rw [q10] at J10); (try rw [q10]); (try simp only [cd_t, cd_f, nt_t, nt_f, an_t, an_f, or_t, or_f] at J10); (try simp only [cd_t, cd_f, nt_t, nt_f, an_t, an_f, or_t, or_f]); exact J10)
      · refine x_iconst (pc' := 38) rfl rfl ?_
        refine x_goto (pc' := 57) rfl rfl ?_
        ((try rw [mnc_t q10] at J10); (try rw [q10] at J10); (try rw [q10]); (try simp only [cd_t, cd_f, nt_t, nt_f, an_t, an_f, or_t, or_f] at J10); (try simp only [cd_t, cd_f, nt_t, nt_f, an_t, an_f, or_t, or_f]); exact J10)
    refine x_icmp (a' := 84) (pc' := 67) (z := decide ((bif (wokF M n 3 true 0) then (wprF M n 3 true 0) else (-10000)) = (-10000))) rfl rfl rfl rfl (fun q5 => ?_) (fun q5 => ?_)
    · ((try rw [q5] at J6); (try rw [q5]); (try simp only [cd_t, cd_f, nt_t, nt_f, an_t, an_f, or_t, or_f] at J6); (try simp only [cd_t, cd_f, nt_t, nt_f, an_t, an_f, or_t, or_f]); exact J6)
    · refine x_iload_n (pc' := 68) rfl rfl rfl ?_
      refine x_iconst (pc' := 69) rfl rfl ?_
      refine x_icmp (a' := 77) (pc' := 72) (z := true) rfl rfl rfl (by decide) (fun _ => ?_) (fun h => by cases h)
      refine x_iload (pc' := 79) rfl rfl rfl ?_
      refine x_istore_n (pc' := 80) (ls' := [_, _, _, _, _, _, _, _]) rfl rfl rfl rfl ?_
      refine x_iload (pc' := 82) rfl rfl rfl ?_
      refine x_istore (pc' := 84) (ls' := [_, _, _, _, _, _, _, _]) rfl rfl rfl rfl ?_
      ((try rw [q5] at J6); (try rw [q5]); (try simp only [cd_t, cd_f, nt_t, nt_f, an_t, an_f, or_t, or_f] at J6); (try simp only [cd_t, cd_f, nt_t, nt_f, an_t, an_f, or_t, or_f]); exact J6)
  refine x_icmp_n (a' := 41) (pc' := 37) (z := decide ((bif (wokF M n 3 true 0) then (wprF M n 3 true 0) else (-10000)) < (-10000))) rfl rfl rfl (ik_ge _ _) (fun q3 => ?_) (fun q3 => ?_)
  · refine x_iconst (pc' := 42) rfl rfl ?_
    refine x_goto (pc' := 57) rfl rfl ?_
    ((try rw [q3] at J3); (try rw [q3]); (try simp only [cd_t, cd_f, nt_t, nt_f, an_t, an_f, or_t, or_f] at J3); (try simp only [cd_t, cd_f, nt_t, nt_f, an_t, an_f, or_t, or_f]); exact J3)
  · refine x_iconst (pc' := 38) rfl rfl ?_
    refine x_goto (pc' := 57) rfl rfl ?_
    ((try rw [q3] at J3); (try rw [q3]); (try simp only [cd_t, cd_f, nt_t, nt_f, an_t, an_f, or_t, or_f] at J3); (try simp only [cd_t, cd_f, nt_t, nt_f, an_t, an_f, or_t, or_f]); exact J3)
def cb4fF (M : sM) (n : Nat) : Option Nat := (bif (decide ((bif (wokF M n 4 false 1) then (wprF M n 4 false 1) else (-10000)) = (-10000))) then (bif (decide ((bif (wokF M n 4 false 0) then (wprF M n 4 false 0) else (-10000)) = (-10000))) then none else (some 0)) else (bif (bif (decide ((bif (wokF M n 4 false 0) then (wprF M n 4 false 0) else (-10000)) = (-10000))) then none else (some 0)).isNone then (some 1) else (bif (decide ((bif (decide ((bif (wokF M n 4 false 0) then (wprF M n 4 false 0) else (-10000)) = (-10000))) then (-10000) else (bif (wokF M n 4 false 0) then (wprF M n 4 false 0) else (-10000))) < (bif (wokF M n 4 false 1) then (wprF M n 4 false 1) else (-10000)))) then (some 1) else (bif (decide ((bif (wokF M n 4 false 0) then (wprF M n 4 false 0) else (-10000)) = (-10000))) then none else (some 0)))))
set_option maxHeartbeats 4000000 in
set_option maxRecDepth 10000 in
theorem c82_4f {t : sT} {Q : sRs → sT → Prop} {M : sM} {n : Nat} {T : Nat}
    (hM : Rl t M n T)
    (hc : Sf t M n T)
    (hR : Ri M n)
    (hC : rlC t M n)
    (q : (∀ j, cb4fF M n = some j → j < 3) → Q (.inl (some (.inl (ov (cb4fF M n))))) t) :
    X 82 0 [.inr (.inr (10, (some 0))), .inr (.inr (1, (some 4))), .inl (bz false), sJk, sJk, sJk, sJk, sJk] [] t Q := by
  refine x_iconst (pc' := 1) rfl rfl ?_
  refine x_istore_n (pc' := 2) (ls' := [_, _, _, _, _, _, _, _]) rfl rfl rfl rfl ?_
  refine x_sipush (pc' := 5) rfl rfl ?_
  refine x_istore (pc' := 7) (ls' := [_, _, _, _, _, _, _, _]) rfl rfl rfl rfl ?_
  refine x_iconst (pc' := 8) rfl rfl ?_
  refine x_istore (pc' := 10) (ls' := [_, _, _, _, _, _, _, _]) rfl rfl rfl rfl ?_
  refine x_iload (pc' := 12) rfl rfl rfl ?_
  refine x_iconst (pc' := 13) rfl rfl ?_
  refine x_icmp (a' := 90) (pc' := 16) (z := false) rfl rfl rfl (by decide) (fun h => by cases h) (fun _ => ?_)
  refine x_aload_n (pc' := 17) rfl rfl rfl rfl rfl ?_
  refine x_aload_n (pc' := 18) rfl rfl rfl rfl rfl ?_
  refine x_iload (pc' := 20) rfl rfl rfl ?_
  refine x_iload_n (pc' := 21) rfl rfl rfl ?_
  refine x_cv (ls0 := [_, _, _, _, sJk, sJk, sJk, sJk]) (rest := []) rfl rfl rfl rfl rfl ?_
  refine c81_40f hM hc (Fc.ri (Fc.refl _) hR) hC ?_
  rw [cp40fF_e]
  refine sK_i (pc' := 24) rfl ?_
  refine x_istore (pc' := 26) (ls' := [_, _, _, _, _, _, _, _]) rfl rfl rfl rfl ?_
  refine x_iload_n (pc' := 27) rfl rfl rfl ?_
  refine x_if (a' := 45) (pc' := 30) (z := true) rfl rfl rfl (by decide) (fun _ => ?_) (fun h => by cases h)
  refine x_iload (pc' := 47) rfl rfl rfl ?_
  refine x_iload (pc' := 49) rfl rfl rfl ?_
  have J3 : X 82 57 [.inr (.inr (10, (some 0))), .inr (.inr (1, (some 4))), .inl (bz false), .inl (-1), .inl (-10000), .inl 0, .inl (bif (wokF M n 4 false 0) then (wprF M n 4 false 0) else (-10000)), sJk] [.inl (bz (decide ((-10000) < (bif (wokF M n 4 false 0) then (wprF M n 4 false 0) else (-10000)))))] t Q := by
    refine x_istore (pc' := 59) (ls' := [_, _, _, _, _, _, _, _]) rfl rfl rfl rfl ?_
    refine x_iload (pc' := 61) rfl rfl rfl ?_
    refine x_sipush (pc' := 64) rfl rfl ?_
    have J6 : X 82 84 [.inr (.inr (10, (some 0))), .inr (.inr (1, (some 4))), .inl (bz false), .inl (ov (bif (decide ((bif (wokF M n 4 false 0) then (wprF M n 4 false 0) else (-10000)) = (-10000))) then none else (some 0))), .inl (bif (decide ((bif (wokF M n 4 false 0) then (wprF M n 4 false 0) else (-10000)) = (-10000))) then (-10000) else (bif (wokF M n 4 false 0) then (wprF M n 4 false 0) else (-10000))), .inl 0, .inl (bif (wokF M n 4 false 0) then (wprF M n 4 false 0) else (-10000)), .inl (bz (decide ((-10000) < (bif (wokF M n 4 false 0) then (wprF M n 4 false 0) else (-10000)))))] [] t Q := by
      refine x_iinc (pc' := 87) (y := 1) (ls' := [_, _, _, _, _, _, _, _]) rfl rfl rfl rfl rfl ?_
      refine x_goto (pc' := 10) rfl rfl ?_
      refine x_iload (pc' := 12) rfl rfl rfl ?_
      refine x_iconst (pc' := 13) rfl rfl ?_
      refine x_icmp (a' := 90) (pc' := 16) (z := false) rfl rfl rfl (by decide) (fun h => by cases h) (fun _ => ?_)
      refine x_aload_n (pc' := 17) rfl rfl rfl rfl rfl ?_
      refine x_aload_n (pc' := 18) rfl rfl rfl rfl rfl ?_
      refine x_iload (pc' := 20) rfl rfl rfl ?_
      refine x_iload_n (pc' := 21) rfl rfl rfl ?_
      refine x_cv (ls0 := [_, _, _, _, sJk, sJk, sJk, sJk]) (rest := []) rfl rfl rfl rfl rfl ?_
      refine c81_41f hM hc (Fc.ri (Fc.refl _) hR) hC ?_
      rw [cp41fF_e]
      refine sK_i (pc' := 24) rfl ?_
      refine x_istore (pc' := 26) (ls' := [_, _, _, _, _, _, _, _]) rfl rfl rfl rfl ?_
      refine x_iload_n (pc' := 27) rfl rfl rfl ?_
      refine x_if (a' := 45) (pc' := 30) (z := true) rfl rfl rfl (by decide) (fun _ => ?_) (fun h => by cases h)
      refine x_iload (pc' := 47) rfl rfl rfl ?_
      refine x_iload (pc' := 49) rfl rfl rfl ?_
      have J10 : X 82 57 [.inr (.inr (10, (some 0))), .inr (.inr (1, (some 4))), .inl (bz false), .inl (ov (bif (decide ((bif (wokF M n 4 false 0) then (wprF M n 4 false 0) else (-10000)) = (-10000))) then none else (some 0))), .inl (bif (decide ((bif (wokF M n 4 false 0) then (wprF M n 4 false 0) else (-10000)) = (-10000))) then (-10000) else (bif (wokF M n 4 false 0) then (wprF M n 4 false 0) else (-10000))), .inl 1, .inl (bif (wokF M n 4 false 1) then (wprF M n 4 false 1) else (-10000)), .inl (bz (decide ((-10000) < (bif (wokF M n 4 false 0) then (wprF M n 4 false 0) else (-10000)))))] [.inl (bz (decide ((bif (decide ((bif (wokF M n 4 false 0) then (wprF M n 4 false 0) else (-10000)) = (-10000))) then (-10000) else (bif (wokF M n 4 false 0) then (wprF M n 4 false 0) else (-10000))) < (bif (wokF M n 4 false 1) then (wprF M n 4 false 1) else (-10000)))))] t Q := by
        refine x_istore (pc' := 59) (ls' := [_, _, _, _, _, _, _, _]) rfl rfl rfl rfl ?_
        refine x_iload (pc' := 61) rfl rfl rfl ?_
        refine x_sipush (pc' := 64) rfl rfl ?_
        have J14 : X 82 84 [.inr (.inr (10, (some 0))), .inr (.inr (1, (some 4))), .inl (bz false), .inl (ov (bif (decide ((bif (wokF M n 4 false 1) then (wprF M n 4 false 1) else (-10000)) = (-10000))) then (bif (decide ((bif (wokF M n 4 false 0) then (wprF M n 4 false 0) else (-10000)) = (-10000))) then none else (some 0)) else (bif (bif (decide ((bif (wokF M n 4 false 0) then (wprF M n 4 false 0) else (-10000)) = (-10000))) then none else (some 0)).isNone then (some 1) else (bif (decide ((bif (decide ((bif (wokF M n 4 false 0) then (wprF M n 4 false 0) else (-10000)) = (-10000))) then (-10000) else (bif (wokF M n 4 false 0) then (wprF M n 4 false 0) else (-10000))) < (bif (wokF M n 4 false 1) then (wprF M n 4 false 1) else (-10000)))) then (some 1) else (bif (decide ((bif (wokF M n 4 false 0) then (wprF M n 4 false 0) else (-10000)) = (-10000))) then none else (some 0)))))), .inl (bif (decide ((bif (wokF M n 4 false 1) then (wprF M n 4 false 1) else (-10000)) = (-10000))) then (bif (decide ((bif (wokF M n 4 false 0) then (wprF M n 4 false 0) else (-10000)) = (-10000))) then (-10000) else (bif (wokF M n 4 false 0) then (wprF M n 4 false 0) else (-10000))) else (bif (bif (decide ((bif (wokF M n 4 false 0) then (wprF M n 4 false 0) else (-10000)) = (-10000))) then none else (some 0)).isNone then (bif (wokF M n 4 false 1) then (wprF M n 4 false 1) else (-10000)) else (mxc (bif (decide ((bif (wokF M n 4 false 0) then (wprF M n 4 false 0) else (-10000)) = (-10000))) then (-10000) else (bif (wokF M n 4 false 0) then (wprF M n 4 false 0) else (-10000))) (bif (wokF M n 4 false 1) then (wprF M n 4 false 1) else (-10000))))), .inl 1, .inl (bif (wokF M n 4 false 1) then (wprF M n 4 false 1) else (-10000)), .inl (bz (decide ((bif (decide ((bif (wokF M n 4 false 0) then (wprF M n 4 false 0) else (-10000)) = (-10000))) then (-10000) else (bif (wokF M n 4 false 0) then (wprF M n 4 false 0) else (-10000))) < (bif (wokF M n 4 false 1) then (wprF M n 4 false 1) else (-10000)))))] [] t Q := by
          refine x_iinc (pc' := 87) (y := 2) (ls' := [_, _, _, _, _, _, _, _]) rfl rfl rfl rfl rfl ?_
          refine x_goto (pc' := 10) rfl rfl ?_
          refine x_iload (pc' := 12) rfl rfl rfl ?_
          refine x_iconst (pc' := 13) rfl rfl ?_
          refine x_icmp (a' := 90) (pc' := 16) (z := false) rfl rfl rfl (by decide) (fun h => by cases h) (fun _ => ?_)
          refine x_aload_n (pc' := 17) rfl rfl rfl rfl rfl ?_
          refine x_aload_n (pc' := 18) rfl rfl rfl rfl rfl ?_
          refine x_iload (pc' := 20) rfl rfl rfl ?_
          refine x_iload_n (pc' := 21) rfl rfl rfl ?_
          refine x_cv (ls0 := [_, _, _, _, sJk, sJk, sJk, sJk]) (rest := []) rfl rfl rfl rfl rfl ?_
          refine c81_42f hM hc (Fc.ri (Fc.refl _) hR) hC ?_
          refine sK_i (pc' := 24) rfl ?_
          refine x_istore (pc' := 26) (ls' := [_, _, _, _, _, _, _, _]) rfl rfl rfl rfl ?_
          refine x_iload_n (pc' := 27) rfl rfl rfl ?_
          refine x_if (a' := 45) (pc' := 30) (z := true) rfl rfl rfl (by decide) (fun _ => ?_) (fun h => by cases h)
          refine x_iload (pc' := 47) rfl rfl rfl ?_
          refine x_iload (pc' := 49) rfl rfl rfl ?_
          have J18 : X 82 57 [.inr (.inr (10, (some 0))), .inr (.inr (1, (some 4))), .inl (bz false), .inl (ov (bif (decide ((bif (wokF M n 4 false 1) then (wprF M n 4 false 1) else (-10000)) = (-10000))) then (bif (decide ((bif (wokF M n 4 false 0) then (wprF M n 4 false 0) else (-10000)) = (-10000))) then none else (some 0)) else (bif (bif (decide ((bif (wokF M n 4 false 0) then (wprF M n 4 false 0) else (-10000)) = (-10000))) then none else (some 0)).isNone then (some 1) else (bif (decide ((bif (decide ((bif (wokF M n 4 false 0) then (wprF M n 4 false 0) else (-10000)) = (-10000))) then (-10000) else (bif (wokF M n 4 false 0) then (wprF M n 4 false 0) else (-10000))) < (bif (wokF M n 4 false 1) then (wprF M n 4 false 1) else (-10000)))) then (some 1) else (bif (decide ((bif (wokF M n 4 false 0) then (wprF M n 4 false 0) else (-10000)) = (-10000))) then none else (some 0)))))), .inl (bif (decide ((bif (wokF M n 4 false 1) then (wprF M n 4 false 1) else (-10000)) = (-10000))) then (bif (decide ((bif (wokF M n 4 false 0) then (wprF M n 4 false 0) else (-10000)) = (-10000))) then (-10000) else (bif (wokF M n 4 false 0) then (wprF M n 4 false 0) else (-10000))) else (bif (bif (decide ((bif (wokF M n 4 false 0) then (wprF M n 4 false 0) else (-10000)) = (-10000))) then none else (some 0)).isNone then (bif (wokF M n 4 false 1) then (wprF M n 4 false 1) else (-10000)) else (mxc (bif (decide ((bif (wokF M n 4 false 0) then (wprF M n 4 false 0) else (-10000)) = (-10000))) then (-10000) else (bif (wokF M n 4 false 0) then (wprF M n 4 false 0) else (-10000))) (bif (wokF M n 4 false 1) then (wprF M n 4 false 1) else (-10000))))), .inl 2, .inl (-10000), .inl (bz (decide ((bif (decide ((bif (wokF M n 4 false 0) then (wprF M n 4 false 0) else (-10000)) = (-10000))) then (-10000) else (bif (wokF M n 4 false 0) then (wprF M n 4 false 0) else (-10000))) < (bif (wokF M n 4 false 1) then (wprF M n 4 false 1) else (-10000)))))] [.inl (bz (decide ((bif (decide ((bif (wokF M n 4 false 1) then (wprF M n 4 false 1) else (-10000)) = (-10000))) then (bif (decide ((bif (wokF M n 4 false 0) then (wprF M n 4 false 0) else (-10000)) = (-10000))) then (-10000) else (bif (wokF M n 4 false 0) then (wprF M n 4 false 0) else (-10000))) else (bif (bif (decide ((bif (wokF M n 4 false 0) then (wprF M n 4 false 0) else (-10000)) = (-10000))) then none else (some 0)).isNone then (bif (wokF M n 4 false 1) then (wprF M n 4 false 1) else (-10000)) else (mxc (bif (decide ((bif (wokF M n 4 false 0) then (wprF M n 4 false 0) else (-10000)) = (-10000))) then (-10000) else (bif (wokF M n 4 false 0) then (wprF M n 4 false 0) else (-10000))) (bif (wokF M n 4 false 1) then (wprF M n 4 false 1) else (-10000))))) < (-10000))))] t Q := by
            refine x_istore (pc' := 59) (ls' := [_, _, _, _, _, _, _, _]) rfl rfl rfl rfl ?_
            refine x_iload (pc' := 61) rfl rfl rfl ?_
            refine x_sipush (pc' := 64) rfl rfl ?_
            refine x_icmp (a' := 84) (pc' := 67) (z := true) rfl rfl rfl (by decide) (fun _ => ?_) (fun h => by cases h)
            refine x_iinc (pc' := 87) (y := 3) (ls' := [_, _, _, _, _, _, _, _]) rfl rfl rfl rfl rfl ?_
            refine x_goto (pc' := 10) rfl rfl ?_
            refine x_iload (pc' := 12) rfl rfl rfl ?_
            refine x_iconst (pc' := 13) rfl rfl ?_
            refine x_icmp (a' := 90) (pc' := 16) (z := true) rfl rfl rfl (by decide) (fun _ => ?_) (fun h => by cases h)
            refine x_iload_n (pc' := 91) rfl rfl rfl ?_
            refine x_reti rfl rfl ?_
            exact q (obd_c (obd_c obd_n (obd_s (by decide))) (obd_c (obd_s (by decide)) (obd_c (obd_s (by decide)) (obd_c obd_n (obd_s (by decide))))))
          refine x_icmp_n (a' := 56) (pc' := 52) (z := decide ((bif (decide ((bif (wokF M n 4 false 1) then (wprF M n 4 false 1) else (-10000)) = (-10000))) then (bif (decide ((bif (wokF M n 4 false 0) then (wprF M n 4 false 0) else (-10000)) = (-10000))) then (-10000) else (bif (wokF M n 4 false 0) then (wprF M n 4 false 0) else (-10000))) else (bif (bif (decide ((bif (wokF M n 4 false 0) then (wprF M n 4 false 0) else (-10000)) = (-10000))) then none else (some 0)).isNone then (bif (wokF M n 4 false 1) then (wprF M n 4 false 1) else (-10000)) else (mxc (bif (decide ((bif (wokF M n 4 false 0) then (wprF M n 4 false 0) else (-10000)) = (-10000))) then (-10000) else (bif (wokF M n 4 false 0) then (wprF M n 4 false 0) else (-10000))) (bif (wokF M n 4 false 1) then (wprF M n 4 false 1) else (-10000))))) < (-10000))) rfl rfl rfl (ik_le _ _) (fun q18 => ?_) (fun q18 => ?_)
          · refine x_iconst (pc' := 57) rfl rfl ?_
            ((try rw [q18] at J18); (try rw [q18]); (try simp only [cd_t, cd_f, nt_t, nt_f, an_t, an_f, or_t, or_f] at J18); (try simp only [cd_t, cd_f, nt_t, nt_f, an_t, an_f, or_t, or_f]); exact J18)
          · refine x_iconst (pc' := 53) rfl rfl ?_
            refine x_goto (pc' := 57) rfl rfl ?_
            ((try rw [q18] at J18); (try rw [q18]); (try simp only [cd_t, cd_f, nt_t, nt_f, an_t, an_f, or_t, or_f] at J18); (try simp only [cd_t, cd_f, nt_t, nt_f, an_t, an_f, or_t, or_f]); exact J18)
        refine x_icmp (a' := 84) (pc' := 67) (z := decide ((bif (wokF M n 4 false 1) then (wprF M n 4 false 1) else (-10000)) = (-10000))) rfl rfl rfl rfl (fun q12 => ?_) (fun q12 => ?_)
        · ((try rw [q12] at J14); (try rw [q12]); (try simp only [cd_t, cd_f, nt_t, nt_f, an_t, an_f, or_t, or_f] at J14); (try simp only [cd_t, cd_f, nt_t, nt_f, an_t, an_f, or_t, or_f]); exact J14)
        · refine x_iload_n (pc' := 68) rfl rfl rfl ?_
          refine x_iconst (pc' := 69) rfl rfl ?_
          refine x_icmp (a' := 77) (pc' := 72) (z := (bif (decide ((bif (wokF M n 4 false 0) then (wprF M n 4 false 0) else (-10000)) = (-10000))) then none else (some 0)).isNone) rfl rfl rfl (ov_eq (ov_31 (N := 3) (obd_c obd_n (obd_s (by decide))) (by decide))) (fun q13 => ?_) (fun q13 => ?_)
          · refine x_iload (pc' := 79) rfl rfl rfl ?_
            refine x_istore_n (pc' := 80) (ls' := [_, _, _, _, _, _, _, _]) rfl rfl rfl rfl ?_
            refine x_iload (pc' := 82) rfl rfl rfl ?_
            refine x_istore (pc' := 84) (ls' := [_, _, _, _, _, _, _, _]) rfl rfl rfl rfl ?_
            ((try rw [q13] at J14); (try rw [q13]); (try rw [q12] at J14); (try rw [q12]); (try simp only [cd_t, cd_f, nt_t, nt_f, an_t, an_f, or_t, or_f] at J14); (try simp only [cd_t, cd_f, nt_t, nt_f, an_t, an_f, or_t, or_f]); exact J14)
          · refine x_iload (pc' := 74) rfl rfl rfl ?_
            refine x_ifeq_z (a' := 84) (pc' := 77) (z := (decide ((bif (decide ((bif (wokF M n 4 false 0) then (wprF M n 4 false 0) else (-10000)) = (-10000))) then (-10000) else (bif (wokF M n 4 false 0) then (wprF M n 4 false 0) else (-10000))) < (bif (wokF M n 4 false 1) then (wprF M n 4 false 1) else (-10000))))) rfl rfl rfl (fun q14 => ?_) (fun q14 => ?_)
            · ((try rw [q14] at J14); (try rw [q14]); (try rw [q13] at J14); (try rw [q13]); (try rw [q12] at J14); (try rw [q12]); (try simp only [cd_t, cd_f, nt_t, nt_f, an_t, an_f, or_t, or_f] at J14); (try simp only [cd_t, cd_f, nt_t, nt_f, an_t, an_f, or_t, or_f]); exact J14)
            · refine x_iload (pc' := 79) rfl rfl rfl ?_
              refine x_istore_n (pc' := 80) (ls' := [_, _, _, _, _, _, _, _]) rfl rfl rfl rfl ?_
              refine x_iload (pc' := 82) rfl rfl rfl ?_
              refine x_istore (pc' := 84) (ls' := [_, _, _, _, _, _, _, _]) rfl rfl rfl rfl ?_
              ((try rw [q14] at J14); (try rw [q14]); (try rw [q13] at J14); (try rw [q13]); (try rw [q12] at J14); (try rw [q12]); (try simp only [cd_t, cd_f, nt_t, nt_f, an_t, an_f, or_t, or_f] at J14); (try simp only [cd_t, cd_f, nt_t, nt_f, an_t, an_f, or_t, or_f]); exact J14)
      refine x_icmp_n (a' := 56) (pc' := 52) (z := decide ((bif (decide ((bif (wokF M n 4 false 0) then (wprF M n 4 false 0) else (-10000)) = (-10000))) then (-10000) else (bif (wokF M n 4 false 0) then (wprF M n 4 false 0) else (-10000))) < (bif (wokF M n 4 false 1) then (wprF M n 4 false 1) else (-10000)))) rfl rfl rfl (ik_le _ _) (fun q10 => ?_) (fun q10 => ?_)
      · refine x_iconst (pc' := 57) rfl rfl ?_
        ((try rw [mxc_f q10] at J10); (try rw [q10] at J10); (try rw [q10]); (try simp only [cd_t, cd_f, nt_t, nt_f, an_t, an_f, or_t, or_f] at J10); (try simp only [cd_t, cd_f, nt_t, nt_f, an_t, an_f, or_t, or_f]); exact J10)
      · refine x_iconst (pc' := 53) rfl rfl ?_
        refine x_goto (pc' := 57) rfl rfl ?_
        ((try rw [mxc_t q10] at J10); (try rw [q10] at J10); (try rw [q10]); (try simp only [cd_t, cd_f, nt_t, nt_f, an_t, an_f, or_t, or_f] at J10); (try simp only [cd_t, cd_f, nt_t, nt_f, an_t, an_f, or_t, or_f]); exact J10)
    refine x_icmp (a' := 84) (pc' := 67) (z := decide ((bif (wokF M n 4 false 0) then (wprF M n 4 false 0) else (-10000)) = (-10000))) rfl rfl rfl rfl (fun q5 => ?_) (fun q5 => ?_)
    · ((try rw [q5] at J6); (try rw [q5]); (try simp only [cd_t, cd_f, nt_t, nt_f, an_t, an_f, or_t, or_f] at J6); (try simp only [cd_t, cd_f, nt_t, nt_f, an_t, an_f, or_t, or_f]); exact J6)
    · refine x_iload_n (pc' := 68) rfl rfl rfl ?_
      refine x_iconst (pc' := 69) rfl rfl ?_
      refine x_icmp (a' := 77) (pc' := 72) (z := true) rfl rfl rfl (by decide) (fun _ => ?_) (fun h => by cases h)
      refine x_iload (pc' := 79) rfl rfl rfl ?_
      refine x_istore_n (pc' := 80) (ls' := [_, _, _, _, _, _, _, _]) rfl rfl rfl rfl ?_
      refine x_iload (pc' := 82) rfl rfl rfl ?_
      refine x_istore (pc' := 84) (ls' := [_, _, _, _, _, _, _, _]) rfl rfl rfl rfl ?_
      ((try rw [q5] at J6); (try rw [q5]); (try simp only [cd_t, cd_f, nt_t, nt_f, an_t, an_f, or_t, or_f] at J6); (try simp only [cd_t, cd_f, nt_t, nt_f, an_t, an_f, or_t, or_f]); exact J6)
  refine x_icmp_n (a' := 56) (pc' := 52) (z := decide ((-10000) < (bif (wokF M n 4 false 0) then (wprF M n 4 false 0) else (-10000)))) rfl rfl rfl (ik_le _ _) (fun q3 => ?_) (fun q3 => ?_)
  · refine x_iconst (pc' := 57) rfl rfl ?_
    ((try rw [q3] at J3); (try rw [q3]); (try simp only [cd_t, cd_f, nt_t, nt_f, an_t, an_f, or_t, or_f] at J3); (try simp only [cd_t, cd_f, nt_t, nt_f, an_t, an_f, or_t, or_f]); exact J3)
  · refine x_iconst (pc' := 53) rfl rfl ?_
    refine x_goto (pc' := 57) rfl rfl ?_
    ((try rw [q3] at J3); (try rw [q3]); (try simp only [cd_t, cd_f, nt_t, nt_f, an_t, an_f, or_t, or_f] at J3); (try simp only [cd_t, cd_f, nt_t, nt_f, an_t, an_f, or_t, or_f]); exact J3)
def cb4tF (M : sM) (n : Nat) : Option Nat := (bif (decide ((bif (wokF M n 4 true 1) then (wprF M n 4 true 1) else (-10000)) = (-10000))) then (bif (decide ((bif (wokF M n 4 true 0) then (wprF M n 4 true 0) else (-10000)) = (-10000))) then none else (some 0)) else (bif (bif (decide ((bif (wokF M n 4 true 0) then (wprF M n 4 true 0) else (-10000)) = (-10000))) then none else (some 0)).isNone then (some 1) else (bif (decide ((bif (wokF M n 4 true 1) then (wprF M n 4 true 1) else (-10000)) < (bif (decide ((bif (wokF M n 4 true 0) then (wprF M n 4 true 0) else (-10000)) = (-10000))) then (-10000) else (bif (wokF M n 4 true 0) then (wprF M n 4 true 0) else (-10000))))) then (some 1) else (bif (decide ((bif (wokF M n 4 true 0) then (wprF M n 4 true 0) else (-10000)) = (-10000))) then none else (some 0)))))
set_option maxHeartbeats 4000000 in
set_option maxRecDepth 10000 in
theorem c82_4t {t : sT} {Q : sRs → sT → Prop} {M : sM} {n : Nat} {T : Nat}
    (hM : Rl t M n T)
    (hc : Sf t M n T)
    (hR : Ri M n)
    (hC : rlC t M n)
    (q : (∀ j, cb4tF M n = some j → j < 3) → Q (.inl (some (.inl (ov (cb4tF M n))))) t) :
    X 82 0 [.inr (.inr (10, (some 0))), .inr (.inr (1, (some 4))), .inl (bz true), sJk, sJk, sJk, sJk, sJk] [] t Q := by
  refine x_iconst (pc' := 1) rfl rfl ?_
  refine x_istore_n (pc' := 2) (ls' := [_, _, _, _, _, _, _, _]) rfl rfl rfl rfl ?_
  refine x_sipush (pc' := 5) rfl rfl ?_
  refine x_istore (pc' := 7) (ls' := [_, _, _, _, _, _, _, _]) rfl rfl rfl rfl ?_
  refine x_iconst (pc' := 8) rfl rfl ?_
  refine x_istore (pc' := 10) (ls' := [_, _, _, _, _, _, _, _]) rfl rfl rfl rfl ?_
  refine x_iload (pc' := 12) rfl rfl rfl ?_
  refine x_iconst (pc' := 13) rfl rfl ?_
  refine x_icmp (a' := 90) (pc' := 16) (z := false) rfl rfl rfl (by decide) (fun h => by cases h) (fun _ => ?_)
  refine x_aload_n (pc' := 17) rfl rfl rfl rfl rfl ?_
  refine x_aload_n (pc' := 18) rfl rfl rfl rfl rfl ?_
  refine x_iload (pc' := 20) rfl rfl rfl ?_
  refine x_iload_n (pc' := 21) rfl rfl rfl ?_
  refine x_cv (ls0 := [_, _, _, _, sJk, sJk, sJk, sJk]) (rest := []) rfl rfl rfl rfl rfl ?_
  refine c81_40t hM hc (Fc.ri (Fc.refl _) hR) hC ?_
  rw [cp40tF_e]
  refine sK_i (pc' := 24) rfl ?_
  refine x_istore (pc' := 26) (ls' := [_, _, _, _, _, _, _, _]) rfl rfl rfl rfl ?_
  refine x_iload_n (pc' := 27) rfl rfl rfl ?_
  refine x_if (a' := 45) (pc' := 30) (z := false) rfl rfl rfl (by decide) (fun h => by cases h) (fun _ => ?_)
  refine x_iload (pc' := 32) rfl rfl rfl ?_
  refine x_iload (pc' := 34) rfl rfl rfl ?_
  have J3 : X 82 57 [.inr (.inr (10, (some 0))), .inr (.inr (1, (some 4))), .inl (bz true), .inl (-1), .inl (-10000), .inl 0, .inl (bif (wokF M n 4 true 0) then (wprF M n 4 true 0) else (-10000)), sJk] [.inl (bz (decide ((bif (wokF M n 4 true 0) then (wprF M n 4 true 0) else (-10000)) < (-10000))))] t Q := by
    refine x_istore (pc' := 59) (ls' := [_, _, _, _, _, _, _, _]) rfl rfl rfl rfl ?_
    refine x_iload (pc' := 61) rfl rfl rfl ?_
    refine x_sipush (pc' := 64) rfl rfl ?_
    have J6 : X 82 84 [.inr (.inr (10, (some 0))), .inr (.inr (1, (some 4))), .inl (bz true), .inl (ov (bif (decide ((bif (wokF M n 4 true 0) then (wprF M n 4 true 0) else (-10000)) = (-10000))) then none else (some 0))), .inl (bif (decide ((bif (wokF M n 4 true 0) then (wprF M n 4 true 0) else (-10000)) = (-10000))) then (-10000) else (bif (wokF M n 4 true 0) then (wprF M n 4 true 0) else (-10000))), .inl 0, .inl (bif (wokF M n 4 true 0) then (wprF M n 4 true 0) else (-10000)), .inl (bz (decide ((bif (wokF M n 4 true 0) then (wprF M n 4 true 0) else (-10000)) < (-10000))))] [] t Q := by
      refine x_iinc (pc' := 87) (y := 1) (ls' := [_, _, _, _, _, _, _, _]) rfl rfl rfl rfl rfl ?_
      refine x_goto (pc' := 10) rfl rfl ?_
      refine x_iload (pc' := 12) rfl rfl rfl ?_
      refine x_iconst (pc' := 13) rfl rfl ?_
      refine x_icmp (a' := 90) (pc' := 16) (z := false) rfl rfl rfl (by decide) (fun h => by cases h) (fun _ => ?_)
      refine x_aload_n (pc' := 17) rfl rfl rfl rfl rfl ?_
      refine x_aload_n (pc' := 18) rfl rfl rfl rfl rfl ?_
      refine x_iload (pc' := 20) rfl rfl rfl ?_
      refine x_iload_n (pc' := 21) rfl rfl rfl ?_
      refine x_cv (ls0 := [_, _, _, _, sJk, sJk, sJk, sJk]) (rest := []) rfl rfl rfl rfl rfl ?_
      refine c81_41t hM hc (Fc.ri (Fc.refl _) hR) hC ?_
      rw [cp41tF_e]
      refine sK_i (pc' := 24) rfl ?_
      refine x_istore (pc' := 26) (ls' := [_, _, _, _, _, _, _, _]) rfl rfl rfl rfl ?_
      refine x_iload_n (pc' := 27) rfl rfl rfl ?_
      refine x_if (a' := 45) (pc' := 30) (z := false) rfl rfl rfl (by decide) (fun h => by cases h) (fun _ => ?_)
      refine x_iload (pc' := 32) rfl rfl rfl ?_
      refine x_iload (pc' := 34) rfl rfl rfl ?_
      have J10 : X 82 57 [.inr (.inr (10, (some 0))), .inr (.inr (1, (some 4))), .inl (bz true), .inl (ov (bif (decide ((bif (wokF M n 4 true 0) then (wprF M n 4 true 0) else (-10000)) = (-10000))) then none else (some 0))), .inl (bif (decide ((bif (wokF M n 4 true 0) then (wprF M n 4 true 0) else (-10000)) = (-10000))) then (-10000) else (bif (wokF M n 4 true 0) then (wprF M n 4 true 0) else (-10000))), .inl 1, .inl (bif (wokF M n 4 true 1) then (wprF M n 4 true 1) else (-10000)), .inl (bz (decide ((bif (wokF M n 4 true 0) then (wprF M n 4 true 0) else (-10000)) < (-10000))))] [.inl (bz (decide ((bif (wokF M n 4 true 1) then (wprF M n 4 true 1) else (-10000)) < (bif (decide ((bif (wokF M n 4 true 0) then (wprF M n 4 true 0) else (-10000)) = (-10000))) then (-10000) else (bif (wokF M n 4 true 0) then (wprF M n 4 true 0) else (-10000))))))] t Q := by
        refine x_istore (pc' := 59) (ls' := [_, _, _, _, _, _, _, _]) rfl rfl rfl rfl ?_
        refine x_iload (pc' := 61) rfl rfl rfl ?_
        refine x_sipush (pc' := 64) rfl rfl ?_
        have J14 : X 82 84 [.inr (.inr (10, (some 0))), .inr (.inr (1, (some 4))), .inl (bz true), .inl (ov (bif (decide ((bif (wokF M n 4 true 1) then (wprF M n 4 true 1) else (-10000)) = (-10000))) then (bif (decide ((bif (wokF M n 4 true 0) then (wprF M n 4 true 0) else (-10000)) = (-10000))) then none else (some 0)) else (bif (bif (decide ((bif (wokF M n 4 true 0) then (wprF M n 4 true 0) else (-10000)) = (-10000))) then none else (some 0)).isNone then (some 1) else (bif (decide ((bif (wokF M n 4 true 1) then (wprF M n 4 true 1) else (-10000)) < (bif (decide ((bif (wokF M n 4 true 0) then (wprF M n 4 true 0) else (-10000)) = (-10000))) then (-10000) else (bif (wokF M n 4 true 0) then (wprF M n 4 true 0) else (-10000))))) then (some 1) else (bif (decide ((bif (wokF M n 4 true 0) then (wprF M n 4 true 0) else (-10000)) = (-10000))) then none else (some 0)))))), .inl (bif (decide ((bif (wokF M n 4 true 1) then (wprF M n 4 true 1) else (-10000)) = (-10000))) then (bif (decide ((bif (wokF M n 4 true 0) then (wprF M n 4 true 0) else (-10000)) = (-10000))) then (-10000) else (bif (wokF M n 4 true 0) then (wprF M n 4 true 0) else (-10000))) else (bif (bif (decide ((bif (wokF M n 4 true 0) then (wprF M n 4 true 0) else (-10000)) = (-10000))) then none else (some 0)).isNone then (bif (wokF M n 4 true 1) then (wprF M n 4 true 1) else (-10000)) else (mnc (bif (wokF M n 4 true 1) then (wprF M n 4 true 1) else (-10000)) (bif (decide ((bif (wokF M n 4 true 0) then (wprF M n 4 true 0) else (-10000)) = (-10000))) then (-10000) else (bif (wokF M n 4 true 0) then (wprF M n 4 true 0) else (-10000)))))), .inl 1, .inl (bif (wokF M n 4 true 1) then (wprF M n 4 true 1) else (-10000)), .inl (bz (decide ((bif (wokF M n 4 true 1) then (wprF M n 4 true 1) else (-10000)) < (bif (decide ((bif (wokF M n 4 true 0) then (wprF M n 4 true 0) else (-10000)) = (-10000))) then (-10000) else (bif (wokF M n 4 true 0) then (wprF M n 4 true 0) else (-10000))))))] [] t Q := by
          refine x_iinc (pc' := 87) (y := 2) (ls' := [_, _, _, _, _, _, _, _]) rfl rfl rfl rfl rfl ?_
          refine x_goto (pc' := 10) rfl rfl ?_
          refine x_iload (pc' := 12) rfl rfl rfl ?_
          refine x_iconst (pc' := 13) rfl rfl ?_
          refine x_icmp (a' := 90) (pc' := 16) (z := false) rfl rfl rfl (by decide) (fun h => by cases h) (fun _ => ?_)
          refine x_aload_n (pc' := 17) rfl rfl rfl rfl rfl ?_
          refine x_aload_n (pc' := 18) rfl rfl rfl rfl rfl ?_
          refine x_iload (pc' := 20) rfl rfl rfl ?_
          refine x_iload_n (pc' := 21) rfl rfl rfl ?_
          refine x_cv (ls0 := [_, _, _, _, sJk, sJk, sJk, sJk]) (rest := []) rfl rfl rfl rfl rfl ?_
          refine c81_42t hM hc (Fc.ri (Fc.refl _) hR) hC ?_
          refine sK_i (pc' := 24) rfl ?_
          refine x_istore (pc' := 26) (ls' := [_, _, _, _, _, _, _, _]) rfl rfl rfl rfl ?_
          refine x_iload_n (pc' := 27) rfl rfl rfl ?_
          refine x_if (a' := 45) (pc' := 30) (z := false) rfl rfl rfl (by decide) (fun h => by cases h) (fun _ => ?_)
          refine x_iload (pc' := 32) rfl rfl rfl ?_
          refine x_iload (pc' := 34) rfl rfl rfl ?_
          have J18 : X 82 57 [.inr (.inr (10, (some 0))), .inr (.inr (1, (some 4))), .inl (bz true), .inl (ov (bif (decide ((bif (wokF M n 4 true 1) then (wprF M n 4 true 1) else (-10000)) = (-10000))) then (bif (decide ((bif (wokF M n 4 true 0) then (wprF M n 4 true 0) else (-10000)) = (-10000))) then none else (some 0)) else (bif (bif (decide ((bif (wokF M n 4 true 0) then (wprF M n 4 true 0) else (-10000)) = (-10000))) then none else (some 0)).isNone then (some 1) else (bif (decide ((bif (wokF M n 4 true 1) then (wprF M n 4 true 1) else (-10000)) < (bif (decide ((bif (wokF M n 4 true 0) then (wprF M n 4 true 0) else (-10000)) = (-10000))) then (-10000) else (bif (wokF M n 4 true 0) then (wprF M n 4 true 0) else (-10000))))) then (some 1) else (bif (decide ((bif (wokF M n 4 true 0) then (wprF M n 4 true 0) else (-10000)) = (-10000))) then none else (some 0)))))), .inl (bif (decide ((bif (wokF M n 4 true 1) then (wprF M n 4 true 1) else (-10000)) = (-10000))) then (bif (decide ((bif (wokF M n 4 true 0) then (wprF M n 4 true 0) else (-10000)) = (-10000))) then (-10000) else (bif (wokF M n 4 true 0) then (wprF M n 4 true 0) else (-10000))) else (bif (bif (decide ((bif (wokF M n 4 true 0) then (wprF M n 4 true 0) else (-10000)) = (-10000))) then none else (some 0)).isNone then (bif (wokF M n 4 true 1) then (wprF M n 4 true 1) else (-10000)) else (mnc (bif (wokF M n 4 true 1) then (wprF M n 4 true 1) else (-10000)) (bif (decide ((bif (wokF M n 4 true 0) then (wprF M n 4 true 0) else (-10000)) = (-10000))) then (-10000) else (bif (wokF M n 4 true 0) then (wprF M n 4 true 0) else (-10000)))))), .inl 2, .inl (-10000), .inl (bz (decide ((bif (wokF M n 4 true 1) then (wprF M n 4 true 1) else (-10000)) < (bif (decide ((bif (wokF M n 4 true 0) then (wprF M n 4 true 0) else (-10000)) = (-10000))) then (-10000) else (bif (wokF M n 4 true 0) then (wprF M n 4 true 0) else (-10000))))))] [.inl (bz (decide ((-10000) < (bif (decide ((bif (wokF M n 4 true 1) then (wprF M n 4 true 1) else (-10000)) = (-10000))) then (bif (decide ((bif (wokF M n 4 true 0) then (wprF M n 4 true 0) else (-10000)) = (-10000))) then (-10000) else (bif (wokF M n 4 true 0) then (wprF M n 4 true 0) else (-10000))) else (bif (bif (decide ((bif (wokF M n 4 true 0) then (wprF M n 4 true 0) else (-10000)) = (-10000))) then none else (some 0)).isNone then (bif (wokF M n 4 true 1) then (wprF M n 4 true 1) else (-10000)) else (mnc (bif (wokF M n 4 true 1) then (wprF M n 4 true 1) else (-10000)) (bif (decide ((bif (wokF M n 4 true 0) then (wprF M n 4 true 0) else (-10000)) = (-10000))) then (-10000) else (bif (wokF M n 4 true 0) then (wprF M n 4 true 0) else (-10000)))))))))] t Q := by
            refine x_istore (pc' := 59) (ls' := [_, _, _, _, _, _, _, _]) rfl rfl rfl rfl ?_
            refine x_iload (pc' := 61) rfl rfl rfl ?_
            refine x_sipush (pc' := 64) rfl rfl ?_
            refine x_icmp (a' := 84) (pc' := 67) (z := true) rfl rfl rfl (by decide) (fun _ => ?_) (fun h => by cases h)
            refine x_iinc (pc' := 87) (y := 3) (ls' := [_, _, _, _, _, _, _, _]) rfl rfl rfl rfl rfl ?_
            refine x_goto (pc' := 10) rfl rfl ?_
            refine x_iload (pc' := 12) rfl rfl rfl ?_
            refine x_iconst (pc' := 13) rfl rfl ?_
            refine x_icmp (a' := 90) (pc' := 16) (z := true) rfl rfl rfl (by decide) (fun _ => ?_) (fun h => by cases h)
            refine x_iload_n (pc' := 91) rfl rfl rfl ?_
            refine x_reti rfl rfl ?_
            exact q (obd_c (obd_c obd_n (obd_s (by decide))) (obd_c (obd_s (by decide)) (obd_c (obd_s (by decide)) (obd_c obd_n (obd_s (by decide))))))
          refine x_icmp_n (a' := 41) (pc' := 37) (z := decide ((-10000) < (bif (decide ((bif (wokF M n 4 true 1) then (wprF M n 4 true 1) else (-10000)) = (-10000))) then (bif (decide ((bif (wokF M n 4 true 0) then (wprF M n 4 true 0) else (-10000)) = (-10000))) then (-10000) else (bif (wokF M n 4 true 0) then (wprF M n 4 true 0) else (-10000))) else (bif (bif (decide ((bif (wokF M n 4 true 0) then (wprF M n 4 true 0) else (-10000)) = (-10000))) then none else (some 0)).isNone then (bif (wokF M n 4 true 1) then (wprF M n 4 true 1) else (-10000)) else (mnc (bif (wokF M n 4 true 1) then (wprF M n 4 true 1) else (-10000)) (bif (decide ((bif (wokF M n 4 true 0) then (wprF M n 4 true 0) else (-10000)) = (-10000))) then (-10000) else (bif (wokF M n 4 true 0) then (wprF M n 4 true 0) else (-10000)))))))) rfl rfl rfl (ik_ge _ _) (fun q18 => ?_) (fun q18 => ?_)
          · refine x_iconst (pc' := 42) rfl rfl ?_
            refine x_goto (pc' := 57) rfl rfl ?_
            ((try rw [q18] at J18); (try rw [q18]); (try simp only [cd_t, cd_f, nt_t, nt_f, an_t, an_f, or_t, or_f] at J18); (try simp only [cd_t, cd_f, nt_t, nt_f, an_t, an_f, or_t, or_f]); exact J18)
          · refine x_iconst (pc' := 38) rfl rfl ?_
            refine x_goto (pc' := 57) rfl rfl ?_
            ((try rw [q18] at J18); (try rw [q18]); (try simp only [cd_t, cd_f, nt_t, nt_f, an_t, an_f, or_t, or_f] at J18); (try simp only [cd_t, cd_f, nt_t, nt_f, an_t, an_f, or_t, or_f]); exact J18)
        refine x_icmp (a' := 84) (pc' := 67) (z := decide ((bif (wokF M n 4 true 1) then (wprF M n 4 true 1) else (-10000)) = (-10000))) rfl rfl rfl rfl (fun q12 => ?_) (fun q12 => ?_)
        · ((try rw [q12] at J14); (try rw [q12]); (try simp only [cd_t, cd_f, nt_t, nt_f, an_t, an_f, or_t, or_f] at J14); (try simp only [cd_t, cd_f, nt_t, nt_f, an_t, an_f, or_t, or_f]); exact J14)
        · refine x_iload_n (pc' := 68) rfl rfl rfl ?_
          refine x_iconst (pc' := 69) rfl rfl ?_
          refine x_icmp (a' := 77) (pc' := 72) (z := (bif (decide ((bif (wokF M n 4 true 0) then (wprF M n 4 true 0) else (-10000)) = (-10000))) then none else (some 0)).isNone) rfl rfl rfl (ov_eq (ov_31 (N := 3) (obd_c obd_n (obd_s (by decide))) (by decide))) (fun q13 => ?_) (fun q13 => ?_)
          · refine x_iload (pc' := 79) rfl rfl rfl ?_
            refine x_istore_n (pc' := 80) (ls' := [_, _, _, _, _, _, _, _]) rfl rfl rfl rfl ?_
            refine x_iload (pc' := 82) rfl rfl rfl ?_
            refine x_istore (pc' := 84) (ls' := [_, _, _, _, _, _, _, _]) rfl rfl rfl rfl ?_
            ((try rw [q13] at J14); (try rw [q13]); (try rw [q12] at J14); (try rw [q12]); (try simp only [cd_t, cd_f, nt_t, nt_f, an_t, an_f, or_t, or_f] at J14); (try simp only [cd_t, cd_f, nt_t, nt_f, an_t, an_f, or_t, or_f]); exact J14)
          · refine x_iload (pc' := 74) rfl rfl rfl ?_
            refine x_ifeq_z (a' := 84) (pc' := 77) (z := (decide ((bif (wokF M n 4 true 1) then (wprF M n 4 true 1) else (-10000)) < (bif (decide ((bif (wokF M n 4 true 0) then (wprF M n 4 true 0) else (-10000)) = (-10000))) then (-10000) else (bif (wokF M n 4 true 0) then (wprF M n 4 true 0) else (-10000)))))) rfl rfl rfl (fun q14 => ?_) (fun q14 => ?_)
            · ((try rw [q14] at J14); (try rw [q14]); (try rw [q13] at J14); (try rw [q13]); (try rw [q12] at J14); (try rw [q12]); (try simp only [cd_t, cd_f, nt_t, nt_f, an_t, an_f, or_t, or_f] at J14); (try simp only [cd_t, cd_f, nt_t, nt_f, an_t, an_f, or_t, or_f]); exact J14)
            · refine x_iload (pc' := 79) rfl rfl rfl ?_
              refine x_istore_n (pc' := 80) (ls' := [_, _, _, _, _, _, _, _]) rfl rfl rfl rfl ?_
              refine x_iload (pc' := 82) rfl rfl rfl ?_
              refine x_istore (pc' := 84) (ls' := [_, _, _, _, _, _, _, _]) rfl rfl rfl rfl ?_
              ((try rw [q14] at J14); (try rw [q14]); (try rw [q13] at J14); (try rw [q13]); (try rw [q12] at J14); (try rw [q12]); (try simp only [cd_t, cd_f, nt_t, nt_f, an_t, an_f, or_t, or_f] at J14); (try simp only [cd_t, cd_f, nt_t, nt_f, an_t, an_f, or_t, or_f]); exact J14)
      refine x_icmp_n (a' := 41) (pc' := 37) (z := decide ((bif (wokF M n 4 true 1) then (wprF M n 4 true 1) else (-10000)) < (bif (decide ((bif (wokF M n 4 true 0) then (wprF M n 4 true 0) else (-10000)) = (-10000))) then (-10000) else (bif (wokF M n 4 true 0) then (wprF M n 4 true 0) else (-10000))))) rfl rfl rfl (ik_ge _ _) (fun q10 => ?_) (fun q10 => ?_)
      · refine x_iconst (pc' := 42) rfl rfl ?_
        refine x_goto (pc' := 57) rfl rfl ?_
        ((try rw [mnc_f q10] at J10); (try rw [q10] at J10); (try rw [q10]); (try simp only [cd_t, cd_f, nt_t, nt_f, an_t, an_f, or_t, or_f] at J10); (try simp only [cd_t, cd_f, nt_t, nt_f, an_t, an_f, or_t, or_f]); exact J10)
      · refine x_iconst (pc' := 38) rfl rfl ?_
        refine x_goto (pc' := 57) rfl rfl ?_
        ((try rw [mnc_t q10] at J10); (try rw [q10] at J10); (try rw [q10]); (try simp only [cd_t, cd_f, nt_t, nt_f, an_t, an_f, or_t, or_f] at J10); (try simp only [cd_t, cd_f, nt_t, nt_f, an_t, an_f, or_t, or_f]); exact J10)
    refine x_icmp (a' := 84) (pc' := 67) (z := decide ((bif (wokF M n 4 true 0) then (wprF M n 4 true 0) else (-10000)) = (-10000))) rfl rfl rfl rfl (fun q5 => ?_) (fun q5 => ?_)
    · ((try rw [q5] at J6); (try rw [q5]); (try simp only [cd_t, cd_f, nt_t, nt_f, an_t, an_f, or_t, or_f] at J6); (try simp only [cd_t, cd_f, nt_t, nt_f, an_t, an_f, or_t, or_f]); exact J6)
    · refine x_iload_n (pc' := 68) rfl rfl rfl ?_
      refine x_iconst (pc' := 69) rfl rfl ?_
      refine x_icmp (a' := 77) (pc' := 72) (z := true) rfl rfl rfl (by decide) (fun _ => ?_) (fun h => by cases h)
      refine x_iload (pc' := 79) rfl rfl rfl ?_
      refine x_istore_n (pc' := 80) (ls' := [_, _, _, _, _, _, _, _]) rfl rfl rfl rfl ?_
      refine x_iload (pc' := 82) rfl rfl rfl ?_
      refine x_istore (pc' := 84) (ls' := [_, _, _, _, _, _, _, _]) rfl rfl rfl rfl ?_
      ((try rw [q5] at J6); (try rw [q5]); (try simp only [cd_t, cd_f, nt_t, nt_f, an_t, an_f, or_t, or_f] at J6); (try simp only [cd_t, cd_f, nt_t, nt_f, an_t, an_f, or_t, or_f]); exact J6)
  refine x_icmp_n (a' := 41) (pc' := 37) (z := decide ((bif (wokF M n 4 true 0) then (wprF M n 4 true 0) else (-10000)) < (-10000))) rfl rfl rfl (ik_ge _ _) (fun q3 => ?_) (fun q3 => ?_)
  · refine x_iconst (pc' := 42) rfl rfl ?_
    refine x_goto (pc' := 57) rfl rfl ?_
    ((try rw [q3] at J3); (try rw [q3]); (try simp only [cd_t, cd_f, nt_t, nt_f, an_t, an_f, or_t, or_f] at J3); (try simp only [cd_t, cd_f, nt_t, nt_f, an_t, an_f, or_t, or_f]); exact J3)
  · refine x_iconst (pc' := 38) rfl rfl ?_
    refine x_goto (pc' := 57) rfl rfl ?_
    ((try rw [q3] at J3); (try rw [q3]); (try simp only [cd_t, cd_f, nt_t, nt_f, an_t, an_f, or_t, or_f] at J3); (try simp only [cd_t, cd_f, nt_t, nt_f, an_t, an_f, or_t, or_f]); exact J3)
