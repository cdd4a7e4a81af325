/-! what each call answers: its number of throws, noted by the reference too (printed by gen99zq.py) -/
section S99zq
variable {t t' t0 : sT} {M M' M0 N Y Z R : sM} {n T A B b c m o k x K w e i j d H C D : Nat} {p a h u p0 p1 : Int32} {s z : Bool} {v : Int32} {r : Rs4}
def Jr (r : Rs4) (k : Nat) : Prop := r.1 ≤ k ∧ mI r.2.2.1 768 = io r.1
theorem J_er (h : e ≤ k) : Jr (er M n e) k := ⟨h, (show mI (mIw M 768 (io e)) 768 = io e from mI_s)⟩
theorem J_ok (h : mI N 768 = 0) : Jr (ok v N n) k := ⟨Nat.zero_le _, h⟩
theorem J_m : mI (m0 M) 768 = 0 := (show mI (mIw M 768 0) 768 = 0 from mI_s)
theorem Jr_cond {r1 r2 : Rs4} {z : Bool} (h1 : Jr r1 k) (h2 : Jr r2 k) : Jr (bif z then r1 else r2) k := by
  cases z
  · exact h2
  · exact h1
theorem J84 : Jr (sp84 M n p0) 2 := by
  unfold sp84
  repeat' split
  all_goals first | exact J_er (by decide) | exact J_ok J_m | exact J_ok rfl
theorem J85 : Jr (sp85 M n p0) 2 := by
  unfold sp85
  repeat' split
  all_goals first | exact J_er (by decide) | exact J_ok J_m | exact J_ok rfl
theorem J87 : Jr (sp87 M n p0 s) 1 := by
  unfold sp87
  repeat' split
  all_goals first | exact J_er (by decide) | exact J_ok J_m | exact J_ok rfl
theorem J88 : Jr (sp88 M n p0 p u) 2 := by
  unfold sp88
  repeat' split
  all_goals first | exact J_er (by decide) | exact J_ok J_m | exact J_ok rfl
theorem J89 : Jr (sp89 M n p0 p) 3 := by
  unfold sp89
  repeat' split
  all_goals first | exact J_er (by decide) | exact J_ok J_m | exact J_ok rfl
theorem J90 : Jr (sp90 M n p0 p) 3 := by
  unfold sp90
  repeat' split
  all_goals first | exact J_er (by decide) | exact J_ok J_m | exact J_ok rfl
theorem J91 : Jr (sp91 M n p) 1 := by
  unfold sp91
  repeat' split
  all_goals first | exact J_er (by decide) | exact J_ok J_m | exact J_ok rfl
theorem J92 : Jr (sp92 M n p0 p) 2 := by
  unfold sp92
  repeat' split
  all_goals first | exact J_er (by decide) | exact J_ok J_m | exact J_ok rfl
theorem J93 : Jr (sp93 M n p0 p1 p) 2 := by
  unfold sp93
  repeat' split
  all_goals first | exact J_er (by decide) | exact J_ok J_m | exact J_ok rfl
theorem J98 : Jr (sp98 M n p0) 2 := by
  unfold sp98
  repeat' split
  all_goals first | exact J_er (by decide) | exact J_ok J_m | exact J_ok rfl
theorem J99 : Jr (sp99 M n T p0) 2 := by
  unfold sp99
  repeat' split
  all_goals first | exact J_er (by decide) | exact J_ok J_m | exact J_ok rfl
theorem J100 : Jr (sp100 M n p0 p) 3 := by
  unfold sp100
  repeat' split
  all_goals first | exact J_er (by decide) | exact J_ok J_m | exact J_ok rfl
theorem J102 : Jr (sp102 M n p0) 1 := by
  unfold sp102
  repeat' split
  all_goals first | exact J_er (by decide) | exact J_ok J_m | exact J_ok rfl
theorem J103 : Jr (sp103 M n) 0 := by
  unfold sp103
  exact J_ok J_m
theorem J104 : Jr (sp104 M n p0) 1 := by
  unfold sp104
  repeat' split
  all_goals first | exact J_er (by decide) | exact J_ok J_m | exact J_ok rfl
theorem J105 : Jr (sp105 M n p0) 1 := by
  unfold sp105
  repeat' split
  all_goals first | exact J_er (by decide) | exact J_ok J_m | exact J_ok rfl
theorem J106 : Jr (sp106 M n p0) 1 := by
  unfold sp106
  repeat' split
  all_goals first | exact J_er (by decide) | exact J_ok J_m | exact J_ok rfl
theorem J107 : Jr (sp107 M n p0 s) 1 := by
  unfold sp107
  repeat' split
  all_goals first | exact J_er (by decide) | exact J_ok J_m | exact J_ok rfl
theorem J109 : Jr (sp109 M n p0 s) 1 := by
  unfold sp109
  repeat' split
  all_goals first | exact J_er (by decide) | exact J_ok J_m | exact J_ok rfl
theorem J110 : Jr (sp110 M n p0 s) 1 := by
  unfold sp110
  repeat' split
  all_goals first | exact J_er (by decide) | exact J_ok J_m | exact J_ok rfl
theorem J111 : Jr (sp111 M n p0) 1 := by
  unfold sp111
  repeat' split
  all_goals first | exact J_er (by decide) | exact J_ok J_m | exact J_ok rfl
theorem J112 : Jr (sp112 M n p0) 1 := by
  unfold sp112
  repeat' split
  all_goals first | exact J_er (by decide) | exact J_ok J_m | exact J_ok rfl
theorem J113 : Jr (sp113 M n p0) 1 := by
  unfold sp113
  repeat' split
  all_goals first | exact J_er (by decide) | exact J_ok J_m | exact J_ok rfl
theorem J114 : Jr (sp114 M n T) 0 := by
  unfold sp114
  exact J_ok J_m
theorem J115 : Jr (sp115 M n T p0 p) 2 := by
  unfold sp115
  repeat' split
  all_goals first | exact J_er (by decide) | exact J_ok J_m | exact J_ok rfl
theorem J116 : Jr (sp116 M n p0 p1) 1 := by
  unfold sp116
  repeat' split
  all_goals first | exact J_er (by decide) | exact J_ok J_m | exact J_ok rfl
theorem J117 : Jr (sp117 M n T p0 p1) 1 := by
  unfold sp117
  repeat' split
  all_goals first | exact J_er (by decide) | exact J_ok J_m | exact J_ok rfl
theorem J118 : Jr (sp118 M n p0) 1 := by
  unfold sp118
  repeat' split
  all_goals first | exact J_er (by decide) | exact J_ok J_m | exact J_ok rfl
theorem J119 : Jr (sp119 M n p0) 1 := by
  unfold sp119
  repeat' split
  all_goals first | exact J_er (by decide) | exact J_ok J_m | exact J_ok rfl
theorem J120 : Jr (sp120 M n p0) 1 := by
  unfold sp120
  repeat' split
  all_goals first | exact J_er (by decide) | exact J_ok J_m | exact J_ok rfl
theorem J121 : Jr (sp121 M n p0) 1 := by
  unfold sp121
  repeat' split
  all_goals first | exact J_er (by decide) | exact J_ok J_m | exact J_ok rfl
theorem J122 : Jr (sp122 M n p0) 1 := by
  unfold sp122
  repeat' split
  all_goals first | exact J_er (by decide) | exact J_ok J_m | exact J_ok rfl
theorem J123 : Jr (sp123 M n p0) 1 := by
  unfold sp123
  repeat' split
  all_goals first | exact J_er (by decide) | exact J_ok J_m | exact J_ok rfl
theorem J124 : Jr (sp124 M n) 0 := by
  unfold sp124
  exact J_ok J_m
theorem J125 : Jr (sp125 M n) 0 := by
  unfold sp125
  exact J_ok J_m
theorem Jr_sndY (e0 : mI Y 768 = 0) : Jr (sndY Y n m z) 3 := by
  unfold sndY
  refine Jr_cond (J_ok ((jI (by decide)).trans e0)) (J_ok ?_)
  have e1 : mI (mBw (nqF Y) 5 n z) 768 = 0 := e0
  generalize mBw (nqF Y) 5 n z = X at *
  exact (fol_I (by decide) (by decide)).trans ((com_I (by decide) (by decide)).trans e1)
theorem J_snd : Jr (sndR M n m b s p a u z) 3 := by
  have e0 : mI (layM (m0 M) n m b s p a u) 768 = 0 := (lay_I (by decide)).trans J_m
  unfold sndR
  generalize layM (m0 M) n m b s p a u = Y at *
  exact Jr_sndY e0
theorem Jr_stpY (e0 : mI Y 768 = 0) : Jr (stpY Y n m h) 3 := by
  unfold stpY
  have e1 : mI (mAw Y 20 n h) 768 = 0 := e0
  exact Jr_cond (J_ok ((jI (by decide)).trans e1)) (J_ok e1)
theorem Jr_qF2 (e2 : mI R 768 = 0) : mI (qF2 R n) 768 = 0 := by
  have e3 : mI (qF1 R n) 768 = 0 := by
    unfold qF1
    exact (fol_I (by decide) (by decide)).trans ((com_I (by decide) (by decide)).trans e2)
  unfold qF2
  generalize qF1 R n = X at *
  exact (fol_I (by decide) (by decide)).trans ((com_I (by decide) (by decide)).trans e3)
theorem Jr_qres : Jr (qres M n m b p u a) 3 := by
  unfold qres
  refine Jr_cond (J_ok ((jI (by decide)).trans ((qL_I (by decide)).trans J_m))) (J_ok (Jr_qF2 ?_))
  have e0 : mI (wqsF (m0 M) n m b) 768 = 0 := by
    have e1 : wqsF (m0 M) n m b = wqs_L (m0 M) n m b n := rfl
    rw [e1, wqs_wd, wd_I]
    exact J_m
  generalize wqsF (m0 M) n m b = N at *
  have e3 : mI (qX N n m b) 768 = 0 := e0
  generalize qX N n m b = N1 at *
  rw [qR_I, qL_I (by decide)]
  exact e3
theorem J94 : Jr (sp94 M n p0 p1 s p a h) 3 := by
  unfold sp94
  split
  · exact J_er (by decide)
  · rename_i m e0
    split
    · exact J_er (by decide)
    · rename_i b e1
      cases okO b p a h with
      | false => exact J_er (by decide)
      | true =>
        cases stO M n m b with
        | false => exact J_er (by decide)
        | true => rw [cond_true, cond_true]; exact J_snd
theorem J95 : Jr (sp95 M n p0 p1 s p a) 3 := by
  unfold sp95
  split
  · exact J_er (by decide)
  · rename_i m e0
    split
    · exact J_er (by decide)
    · rename_i b e1
      cases okN b p a with
      | false => exact J_er (by decide)
      | true =>
        cases stN' M n m b with
        | false => exact J_er (by decide)
        | true => rw [cond_true, cond_true]; exact J_snd
theorem J96 : Jr (sp96 M n p0 p1 s p a h) 3 := by
  unfold sp96
  split
  · exact J_er (by decide)
  · rename_i m e0
    split
    · exact J_er (by decide)
    · rename_i b e1
      cases okS b p a h with
      | false => exact J_er (by decide)
      | true =>
        cases stO M n m b with
        | false => exact J_er (by decide)
        | true =>
          have e0 : mI (layM (m0 M) n m b s p a a) 768 = 0 := (lay_I (by decide)).trans J_m
          rw [cond_true, cond_true]
          generalize layM (m0 M) n m b s p a a = Y at *
          exact Jr_stpY e0
theorem J97 : Jr (sp97 M n p0 p1 p u a) 3 := by
  unfold sp97
  split
  · exact J_er (by decide)
  · rename_i m e0
    split
    · exact J_er (by decide)
    · rename_i b e1
      cases okQ b p u a with
      | false => exact J_er (by decide)
      | true =>
        cases stQ M n m b with
        | false => exact J_er (by decide)
        | true =>
          rw [cond_true, cond_true]
          exact Jr_qres
theorem J86 (hv : Hv M n e) (he : e ≤ 600) : Jr (sp86 M n p0) 2 := by
  unfold sp86
  split
  · exact J_er (by decide)
  · rename_i b e0
    obtain ⟨hb, rfl⟩ := ixo_s e0
    split
    · have HY : Hv (nqF (m0 M)) n e := Hv_nq (Hv_m0 hv)
      have hT := Hv_T HY
      have e1 : mI (nqF (m0 M)) 768 = 0 := J_m (M := M)
      show Jr (ok _ (unR (nqF (m0 M)) n b) n) 2
      generalize nqF (m0 M) = Y at *
      obtain ⟨G1, _⟩ := un_G hb HY.1 (by omega)
      have hG : Gk (poF (unG (unS (unZ Y n b) n b) n b (usz Y n b) (auF Y n b)) n) Y := Gk_po (Gk_unG (Gk_sa G1))
      refine J_ok ?_
      unfold unR
      exact (fol_I (by decide) (by decide)).trans ((hG.1.2.2 768 (by decide) (by decide)).trans e1)
    · exact J_er (by decide)
theorem J_clo (h : mI Z 768 = 0) : mI (clF (cnbF Z) n m) 768 = 0 := (cl_I (by decide) (by decide)).trans ((congrFun cnb_I 768).trans h)
theorem J_clp (h : mI Z 768 = 0) : mI (clF (cnbF (payF Z m k)) n m) 768 = 0 := J_clo ((congrFun payF_Is 768).trans h)
theorem J_ff (e1 : mI Y 768 = 0) : ∀ (r : Option Nat), mI (ffF Y n m r) 768 = 0
  | none => by
    rw [ffF_n]
    exact J_clo ((teA_I rfl 3).trans e1)
  | some k => by
    rw [ffF_s]
    exact J_clp ((toL_I rfl 3).trans e1)
theorem J101 : Jr (sp101 M n p0) 2 := by
  unfold sp101
  split
  · exact J_er (by decide)
  · rename_i m e0
    split
    · exact J_er (by decide)
    · split
      · have e1 : mI (waF_ (m0 M) n m) 768 = 0 := by
          have e2 : waF_ (m0 M) n m = wa_L (m0 M) n m n := rfl
          rw [e2, wa_I]
          exact J_m
        generalize waF_ (m0 M) n m = Y at *
        exact J_ok (J_ff e1 _)
      · exact J_er (by decide)
end S99zq
