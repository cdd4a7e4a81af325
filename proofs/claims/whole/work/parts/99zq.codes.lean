/-! what each call answers: its number of throws, noted by the reference too (printed by gen99zq.py) -/
section S99zq
variable {t t' t0 : sT} {M M' M0 N Y Z R : sM} {n T A B b c m o k x K w e i j d H C D : Nat} {p a h u p0 p1 : Int32} {s z : Bool} {v : Int32} {r : Rs4}
def Jr (r : Rs4) (k : Nat) : Prop := r.1 ≤ k ∧ mI r.2.2.1 768 = io r.1
theorem J_er (h : e ≤ k) : Jr (er M n e) k := ⟨h, if_pos rfl⟩
theorem J_ok (h : mI N 768 = 0) : Jr (ok v N n) k := ⟨Nat.zero_le _, h⟩
theorem J_m : mI (m0 M) 768 = 0 := if_pos rfl
theorem J84 : Jr (sp84 M n p0) 2 := by
  unfold sp84
  repeat' split
  all_goals first | exact J_er (by decide) | exact J_ok J_m | exact J_ok rfl
theorem J85 : Jr (sp85 M n p0) 2 := by
  unfold sp85
  repeat' split
  all_goals first | exact J_er (by decide) | exact J_ok J_m | exact J_ok rfl
theorem J87 : Jr (sp87 M n p0 s) 1 := by
  unfold sp87
  repeat' split
  all_goals first | exact J_er (by decide) | exact J_ok J_m | exact J_ok rfl
theorem J88 : Jr (sp88 M n p0 p u) 2 := by
  unfold sp88
  repeat' split
  all_goals first | exact J_er (by decide) | exact J_ok J_m | exact J_ok rfl
theorem J89 : Jr (sp89 M n p0 p) 3 := by
  unfold sp89
  repeat' split
  all_goals first | exact J_er (by decide) | exact J_ok J_m | exact J_ok rfl
theorem J90 : Jr (sp90 M n p0 p) 3 := by
  unfold sp90
  repeat' split
  all_goals first | exact J_er (by decide) | exact J_ok J_m | exact J_ok rfl
theorem J91 : Jr (sp91 M n p) 1 := by
  unfold sp91
  repeat' split
  all_goals first | exact J_er (by decide) | exact J_ok J_m | exact J_ok rfl
theorem J92 : Jr (sp92 M n p0 p) 2 := by
  unfold sp92
  repeat' split
  all_goals first | exact J_er (by decide) | exact J_ok J_m | exact J_ok rfl
theorem J93 : Jr (sp93 M n p0 p1 p) 2 := by
  unfold sp93
  repeat' split
  all_goals first | exact J_er (by decide) | exact J_ok J_m | exact J_ok rfl
theorem J98 : Jr (sp98 M n p0) 2 := by
  unfold sp98
  repeat' split
  all_goals first | exact J_er (by decide) | exact J_ok J_m | exact J_ok rfl
theorem J99 : Jr (sp99 M n T p0) 2 := by
  unfold sp99
  repeat' split
  all_goals first | exact J_er (by decide) | exact J_ok J_m | exact J_ok rfl
theorem J100 : Jr (sp100 M n p0 p) 3 := by
  unfold sp100
  repeat' split
  all_goals first | exact J_er (by decide) | exact J_ok J_m | exact J_ok rfl
theorem J102 : Jr (sp102 M n p0) 1 := by
  unfold sp102
  repeat' split
  all_goals first | exact J_er (by decide) | exact J_ok J_m | exact J_ok rfl
theorem J103 : Jr (sp103 M n) 0 := by
  unfold sp103
  exact J_ok J_m
theorem J104 : Jr (sp104 M n p0) 1 := by
  unfold sp104
  repeat' split
  all_goals first | exact J_er (by decide) | exact J_ok J_m | exact J_ok rfl
theorem J105 : Jr (sp105 M n p0) 1 := by
  unfold sp105
  repeat' split
  all_goals first | exact J_er (by decide) | exact J_ok J_m | exact J_ok rfl
theorem J106 : Jr (sp106 M n p0) 1 := by
  unfold sp106
  repeat' split
  all_goals first | exact J_er (by decide) | exact J_ok J_m | exact J_ok rfl
theorem J107 : Jr (sp107 M n p0 s) 1 := by
  unfold sp107
  repeat' split
  all_goals first | exact J_er (by decide) | exact J_ok J_m | exact J_ok rfl
theorem J109 : Jr (sp109 M n p0 s) 1 := by
  unfold sp109
  repeat' split
  all_goals first | exact J_er (by decide) | exact J_ok J_m | exact J_ok rfl
theorem J110 : Jr (sp110 M n p0 s) 1 := by
  unfold sp110
  repeat' split
  all_goals first | exact J_er (by decide) | exact J_ok J_m | exact J_ok rfl
theorem J111 : Jr (sp111 M n p0) 1 := by
  unfold sp111
  repeat' split
  all_goals first | exact J_er (by decide) | exact J_ok J_m | exact J_ok rfl
theorem J112 : Jr (sp112 M n p0) 1 := by
  unfold sp112
  repeat' split
  all_goals first | exact J_er (by decide) | exact J_ok J_m | exact J_ok rfl
theorem J113 : Jr (sp113 M n p0) 1 := by
  unfold sp113
  repeat' split
  all_goals first | exact J_er (by decide) | exact J_ok J_m | exact J_ok rfl
theorem J114 : Jr (sp114 M n T) 0 := by
  unfold sp114
  exact J_ok J_m
theorem J115 : Jr (sp115 M n T p0 p) 2 := by
  unfold sp115
  repeat' split
  all_goals first | exact J_er (by decide) | exact J_ok J_m | exact J_ok rfl
theorem J116 : Jr (sp116 M n p0 p1) 1 := by
  unfold sp116
  repeat' split
  all_goals first | exact J_er (by decide) | exact J_ok J_m | exact J_ok rfl
theorem J117 : Jr (sp117 M n T p0 p1) 1 := by
  unfold sp117
  repeat' split
  all_goals first | exact J_er (by decide) | exact J_ok J_m | exact J_ok rfl
theorem J118 : Jr (sp118 M n p0) 1 := by
  unfold sp118
  repeat' split
  all_goals first | exact J_er (by decide) | exact J_ok J_m | exact J_ok rfl
theorem J119 : Jr (sp119 M n p0) 1 := by
  unfold sp119
  repeat' split
  all_goals first | exact J_er (by decide) | exact J_ok J_m | exact J_ok rfl
theorem J120 : Jr (sp120 M n p0) 1 := by
  unfold sp120
  repeat' split
  all_goals first | exact J_er (by decide) | exact J_ok J_m | exact J_ok rfl
theorem J121 : Jr (sp121 M n p0) 1 := by
  unfold sp121
  repeat' split
  all_goals first | exact J_er (by decide) | exact J_ok J_m | exact J_ok rfl
theorem J122 : Jr (sp122 M n p0) 1 := by
  unfold sp122
  repeat' split
  all_goals first | exact J_er (by decide) | exact J_ok J_m | exact J_ok rfl
theorem J123 : Jr (sp123 M n p0) 1 := by
  unfold sp123
  repeat' split
  all_goals first | exact J_er (by decide) | exact J_ok J_m | exact J_ok rfl
theorem J124 : Jr (sp124 M n) 0 := by
  unfold sp124
  exact J_ok J_m
theorem J125 : Jr (sp125 M n) 0 := by
  unfold sp125
  exact J_ok J_m
theorem J_snd : Jr (sndR M n m b s p a u z) 3 := by
  have e0 : mI (layM (m0 M) n m b s p a u) 768 = 0 := (lay_I (by decide)).trans J_m
  unfold sndR sndY
  generalize layM (m0 M) n m b s p a u = Y at *
  cases nmF Y (n + 1) m with
  | true => exact J_ok ((jI (by decide)).trans e0)
  | false => exact J_ok ((fol_I (by decide) (by decide)).trans ((com_I (by decide) (by decide)).trans e0))
theorem J94 : Jr (sp94 M n p0 p1 s p a h) 3 := by
  unfold sp94
  split
  · exact J_er (by decide)
  · rename_i m e0
    split
    · exact J_er (by decide)
    · rename_i b e1
      cases okO b p a h with
      | false => exact J_er (by decide)
      | true =>
        cases stO M n m b with
        | false => exact J_er (by decide)
        | true => exact J_snd
theorem J95 : Jr (sp95 M n p0 p1 s p a) 3 := by
  unfold sp95
  split
  · exact J_er (by decide)
  · rename_i m e0
    split
    · exact J_er (by decide)
    · rename_i b e1
      cases okN b p a with
      | false => exact J_er (by decide)
      | true =>
        cases stN' M n m b with
        | false => exact J_er (by decide)
        | true => exact J_snd
theorem J96 : Jr (sp96 M n p0 p1 s p a h) 3 := by
  unfold sp96
  split
  · exact J_er (by decide)
  · rename_i m e0
    split
    · exact J_er (by decide)
    · rename_i b e1
      cases okS b p a h with
      | false => exact J_er (by decide)
      | true =>
        cases stO M n m b with
        | false => exact J_er (by decide)
        | true =>
          have e0 : mI (layM (m0 M) n m b s p a a) 768 = 0 := (lay_I (by decide)).trans J_m
          show Jr (stpY (layM (m0 M) n m b s p a a) n m h) 3
          unfold stpY
          generalize layM (m0 M) n m b s p a a = Y at *
          cases nmF Y (n + 1) m with
          | true => exact J_ok ((jI (by decide)).trans e0)
          | false => exact J_ok e0
theorem J97 : Jr (sp97 M n p0 p1 p u a) 3 := by
  unfold sp97
  split
  · exact J_er (by decide)
  · rename_i m e0
    split
    · exact J_er (by decide)
    · rename_i b e1
      cases okQ b p u a with
      | false => exact J_er (by decide)
      | true =>
        cases stQ M n m b with
        | false => exact J_er (by decide)
        | true =>
          show Jr (qres M n m b p u a) 3
          unfold qres
          cases qd M n m b a with
          | true => exact J_ok ((jI (by decide)).trans ((qL_I (by decide)).trans J_m))
          | false =>
            have e0 : mI (wqsF (m0 M) n m b) 768 = 0 := by
              have e1 : wqsF (m0 M) n m b = wqs_L (m0 M) n m b n := rfl
              rw [e1, wqs_wd, wd_I]
              exact J_m
            have e2 : mI (qR (qL (qX (wqsF (m0 M) n m b) n m b) n m b p u a) n) 768 = 0 := by
              rw [qR_I, qL_I (by decide)]
              exact e0
            show Jr (ok (io n) (qF2 (qR (qL (qX (wqsF (m0 M) n m b) n m b) n m b p u a) n) n) (n + 2)) 3
            generalize qR (qL (qX (wqsF (m0 M) n m b) n m b) n m b p u a) n = R at *
            unfold qF2 qF1
            exact J_ok ((fol_I (by decide) (by decide)).trans ((com_I (by decide) (by decide)).trans ((fol_I (by decide) (by decide)).trans ((com_I (by decide) (by decide)).trans e2))))
theorem J86 (hv : Hv M n e) (he : e ≤ 600) : Jr (sp86 M n p0) 2 := by
  unfold sp86
  split
  · exact J_er (by decide)
  · rename_i b e0
    obtain ⟨hb, rfl⟩ := ixo_s e0
    split
    · have HY : Hv (nqF (m0 M)) n e := Hv_nq (Hv_m0 hv)
      have hT := Hv_T HY
      have e1 : mI (nqF (m0 M)) 768 = 0 := J_m
      show Jr (ok _ (unR (nqF (m0 M)) n b) n) 2
      generalize nqF (m0 M) = Y at *
      obtain ⟨G1, _⟩ := un_G hb HY.1 (by omega)
      have hG : Gk (poF (unG (unS (unZ Y n b) n b) n b (usz Y n b) (auF Y n b)) n) Y := Gk_po (Gk_unG (Gk_sa G1))
      refine J_ok ?_
      unfold unR
      exact (fol_I (by decide) (by decide)).trans ((hG.1.2.2 768 (by decide) (by decide)).trans e1)
    · exact J_er (by decide)
theorem J101 : Jr (sp101 M n p0) 2 := by
  unfold sp101
  split
  · exact J_er (by decide)
  · rename_i m e0
    split
    · exact J_er (by decide)
    · split
      · have e1 : mI (waF_ (m0 M) n m) 768 = 0 := by
          have e2 : waF_ (m0 M) n m = wa_L (m0 M) n m n := rfl
          rw [e2, wa_I]
          exact J_m
        refine J_ok ?_
        generalize waF_ (m0 M) n m = Y at *
        cases tkrL Y n m 6 with
        | none => exact (cl_I (by decide) (by decide)).trans ((teA_I rfl 3).trans e1)
        | some k => exact (cl_I (by decide) (by decide)).trans ((toL_I rfl 3).trans e1)
      · exact J_er (by decide)
end S99zq
