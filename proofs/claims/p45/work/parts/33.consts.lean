/-! what holds from the constructors on -/
def sKR : List (Nat × Nat × Option Nat) := [(0, 0, (some 0)), (1, 0, (some 0)), (65, 0, (some 0)), (65, 1, (some 1)), (65, 2, (some 2)), (65, 3, (some 0)), (65, 4, (some 1)), (66, 0, none), (66, 1, none), (66, 2, none), (66, 3, (some 1)), (66, 4, (some 2)), (192, 0, (some 0)), (256, 0, (some 0)), (257, 0, (some 1)), (320, 0, (some 0)), (321, 0, (some 0)), (322, 0, (some 0)), (323, 0, (some 0)), (384, 0, (some 0)), (385, 0, (some 0)), (386, 0, (some 0)), (387, 0, (some 2)), (449, 0, (some 1)), (449, 1, (some 2)), (449, 2, (some 3)), (449, 3, (some 4)), (449, 4, (some 5)), (449, 5, (some 6)), (640, 0, (some 0)), (704, 0, (some 0)), (705, 0, (some 0)), (706, 0, (some 0)), (707, 0, (some 0)), (708, 0, (some 0)), (709, 0, (some 0))]
def sKN : List (Nat × Nat × Nat) := [(20, 0, 18), (20, 1, 3), (20, 2, 3), (20, 3, 3), (20, 4, 3), (20, 5, 3), (20, 6, 3), (21, 0, 64), (21, 1, 3), (24, 0, 5), (25, 0, 3), (26, 0, 6), (27, 0, 0), (28, 0, 45), (28, 1, 45)]
def sKI : List (Nat × Nat × Int32) := [(64, 0, 0), (64, 1, 1), (64, 2, 2), (64, 3, 3), (64, 4, 4), (128, 0, 0), (128, 1, 1), (128, 2, 2), (448, 0, 0), (448, 1, 1), (448, 2, 2), (448, 3, 3), (448, 4, 4), (448, 5, 5)]
def sKE : List (Nat × Nat × Nat × (Nat × Option Nat)) := [(24, 0, 0, (1, (some 0))), (24, 0, 1, (1, (some 1))), (24, 0, 2, (1, (some 2))), (24, 0, 3, (1, (some 3))), (24, 0, 4, (1, (some 4))), (25, 0, 0, (2, (some 0))), (25, 0, 1, (2, (some 1))), (25, 0, 2, (2, (some 2))), (26, 0, 0, (7, (some 0))), (26, 0, 1, (7, (some 1))), (26, 0, 2, (7, (some 2))), (26, 0, 3, (7, (some 3))), (26, 0, 4, (7, (some 4))), (26, 0, 5, (7, (some 5)))]
def sKC : List (Nat × Nat) := [(20, 7), (21, 2), (24, 1), (25, 1), (26, 1), (27, 1), (28, 2)]
def Cn (t : sT) : Prop := (∀ q ∈ sKR, sR t q.1 q.2.1 = q.2.2) ∧ (∀ q ∈ sKN, sN t q.1 q.2.1 = q.2.2) ∧ (∀ q ∈ sKI, sI t q.1 q.2.1 = q.2.2) ∧ (∀ q ∈ sKE, sE t q.1 q.2.1 q.2.2.1 = q.2.2.2) ∧ (∀ q ∈ sKC, q.2 ≤ sC t q.1) ∧ ∀ p, sA t 28 0 p = sLeg.getD p 0 ∧ sA t 28 1 p = sTak.getD p 0
section S33
variable {t : sT}
theorem Cn.I {F o : Nat} {v : Int32} (hF : (Nat.beq F 64 || Nat.beq F 128 || Nat.beq F 448) = false) (h : Cn t) : Cn (sIw t F o v) := by
  refine ⟨h.1, h.2.1, fun q hq => ?_, h.2.2.2⟩
  have h1 := h.2.2.1 q hq
  have hk : q.1 = 64 ∨ q.1 = 128 ∨ q.1 = 448 := (by decide : ∀ q ∈ sKI, q.1 = 64 ∨ q.1 = 128 ∨ q.1 = 448) q hq
  rw [← h1]
  refine if_neg (fun z => ?_)
  have := z.1
  rw [this] at hk
  simp only [Bool.or_eq_false_iff] at hF
  have h2 := Nat.ne_of_beq_eq_false hF.1.1
  have h3 := Nat.ne_of_beq_eq_false hF.1.2
  have h4 := Nat.ne_of_beq_eq_false hF.2
  omega
theorem Cn.Z {F o : Nat} {v : Bool} (h : Cn t) : Cn (sZw t F o v) := h
theorem Cn.B {k o p : Nat} {v : Bool} (h : Cn t) : Cn (sBw t k o p v) := h
theorem Cn.L {k o p : Nat} {v : Int64} (h : Cn t) : Cn (sLw t k o p v) := h
theorem Cn.A {k o p : Nat} {v : Int32} (hk : Nat.beq k 28 = false) (h : Cn t) : Cn (sAw t k o p v) := by
  have hk := Nat.ne_of_beq_eq_false hk
  exact ⟨h.1, h.2.1, h.2.2.1, h.2.2.2.1, h.2.2.2.2.1, fun p => ⟨(if_neg (fun z => hk z.1.symm)).trans (h.2.2.2.2.2 p).1, (if_neg (fun z => hk z.1.symm)).trans (h.2.2.2.2.2 p).2⟩⟩
theorem Cn.R {F o : Nat} {v : Option Nat} (hF : (sKR.any fun q => Nat.beq q.1 F) = false) (h : Cn t) : Cn (sRw t F o v) := by
  refine ⟨fun q hq => ?_, h.2⟩
  rw [← h.1 q hq]
  refine if_neg (fun z => ?_)
  have := List.any_eq_false.mp hF q hq
  rw [z.1] at this
  simp at this
theorem Cn.E {o p : Nat} {v : Nat × Option Nat} (h : Cn t) : Cn (sEw t 27 o p v) := by
  refine ⟨h.1, h.2.1, h.2.2.1, fun q hq => ?_, h.2.2.2.2⟩
  rw [← h.2.2.2.1 q hq]
  exact if_neg (fun z => absurd z.1 ((by decide : ∀ q ∈ sKE, ¬ q.1 = 27) q hq))
theorem Cn.new {k w : Nat} (h : Cn t) : Cn (sNew t k w) := ⟨h.1, h.2.1, h.2.2.1, h.2.2.2.1, fun q hq => Nat.le_trans (h.2.2.2.2.1 q hq) (sU1_le q.1), h.2.2.2.2.2⟩
theorem sKN_C (h : Cn t) {q : Nat × Nat × Nat} (hq : q ∈ sKN) : q.2.1 < sC t q.1 := by
  obtain ⟨c, hc, e⟩ := (by decide : ∀ q ∈ sKN, ∃ c ∈ sKC, c.1 = q.1 ∧ q.2.1 < c.2) q hq
  have := h.2.2.2.2.1 c hc
  rw [e.1] at this
  omega
theorem Cn.nwa {k n : Nat} (h : Cn t) : Cn (sNwA t k n) := by
  refine ⟨h.1, fun q hq => ?_, h.2.2.1, h.2.2.2.1, fun q hq => Nat.le_trans (h.2.2.2.2.1 q hq) (sU1_le q.1), h.2.2.2.2.2⟩
  rw [← h.2.1 q hq]
  refine if_neg (fun z => ?_)
  have h1 := sKN_C h hq
  have h2 := z.2
  rw [z.1] at h1
  omega
theorem Cn.cpy {i n : Nat} (h : Cn t) : Cn (sCpy t i n) := by
  refine ⟨h.1, fun q hq => ?_, h.2.2.1, fun q hq => ?_, fun q hq => Nat.le_trans (h.2.2.2.2.1 q hq) (sU1_le q.1), h.2.2.2.2.2⟩
  · rw [← h.2.1 q hq]
    refine if_neg (fun z => ?_)
    have h1 := sKN_C h hq
    have h2 := z.2
    rw [z.1] at h1
    omega
  · rw [← h.2.2.2.1 q hq]
    exact if_neg (fun z => absurd z.1 ((by decide : ∀ q ∈ sKE, ¬ q.1 = 27) q hq))
theorem Cn.thr (h : Cn t) : Cn (sThr t) := h
theorem kR_0_0 (h : Cn t) : sR t 0 0 = some 0 := h.1 (0, 0, (some 0)) (by decide)
theorem kR_1_0 (h : Cn t) : sR t 1 0 = some 0 := h.1 (1, 0, (some 0)) (by decide)
theorem kR_65_0 (h : Cn t) : sR t 65 0 = some 0 := h.1 (65, 0, (some 0)) (by decide)
theorem kR_65_1 (h : Cn t) : sR t 65 1 = some 1 := h.1 (65, 1, (some 1)) (by decide)
theorem kR_65_2 (h : Cn t) : sR t 65 2 = some 2 := h.1 (65, 2, (some 2)) (by decide)
theorem kR_65_3 (h : Cn t) : sR t 65 3 = some 0 := h.1 (65, 3, (some 0)) (by decide)
theorem kR_65_4 (h : Cn t) : sR t 65 4 = some 1 := h.1 (65, 4, (some 1)) (by decide)
theorem kR_66_0 (h : Cn t) : sR t 66 0 = none := h.1 (66, 0, none) (by decide)
theorem kR_66_1 (h : Cn t) : sR t 66 1 = none := h.1 (66, 1, none) (by decide)
theorem kR_66_2 (h : Cn t) : sR t 66 2 = none := h.1 (66, 2, none) (by decide)
theorem kR_66_3 (h : Cn t) : sR t 66 3 = some 1 := h.1 (66, 3, (some 1)) (by decide)
theorem kR_66_4 (h : Cn t) : sR t 66 4 = some 2 := h.1 (66, 4, (some 2)) (by decide)
theorem kR_192_0 (h : Cn t) : sR t 192 0 = some 0 := h.1 (192, 0, (some 0)) (by decide)
theorem kR_256_0 (h : Cn t) : sR t 256 0 = some 0 := h.1 (256, 0, (some 0)) (by decide)
theorem kR_257_0 (h : Cn t) : sR t 257 0 = some 1 := h.1 (257, 0, (some 1)) (by decide)
theorem kR_320_0 (h : Cn t) : sR t 320 0 = some 0 := h.1 (320, 0, (some 0)) (by decide)
theorem kR_321_0 (h : Cn t) : sR t 321 0 = some 0 := h.1 (321, 0, (some 0)) (by decide)
theorem kR_322_0 (h : Cn t) : sR t 322 0 = some 0 := h.1 (322, 0, (some 0)) (by decide)
theorem kR_323_0 (h : Cn t) : sR t 323 0 = some 0 := h.1 (323, 0, (some 0)) (by decide)
theorem kR_384_0 (h : Cn t) : sR t 384 0 = some 0 := h.1 (384, 0, (some 0)) (by decide)
theorem kR_385_0 (h : Cn t) : sR t 385 0 = some 0 := h.1 (385, 0, (some 0)) (by decide)
theorem kR_386_0 (h : Cn t) : sR t 386 0 = some 0 := h.1 (386, 0, (some 0)) (by decide)
theorem kR_387_0 (h : Cn t) : sR t 387 0 = some 2 := h.1 (387, 0, (some 2)) (by decide)
theorem kR_449_0 (h : Cn t) : sR t 449 0 = some 1 := h.1 (449, 0, (some 1)) (by decide)
theorem kR_449_1 (h : Cn t) : sR t 449 1 = some 2 := h.1 (449, 1, (some 2)) (by decide)
theorem kR_449_2 (h : Cn t) : sR t 449 2 = some 3 := h.1 (449, 2, (some 3)) (by decide)
theorem kR_449_3 (h : Cn t) : sR t 449 3 = some 4 := h.1 (449, 3, (some 4)) (by decide)
theorem kR_449_4 (h : Cn t) : sR t 449 4 = some 5 := h.1 (449, 4, (some 5)) (by decide)
theorem kR_449_5 (h : Cn t) : sR t 449 5 = some 6 := h.1 (449, 5, (some 6)) (by decide)
theorem kR_640_0 (h : Cn t) : sR t 640 0 = some 0 := h.1 (640, 0, (some 0)) (by decide)
theorem kR_704_0 (h : Cn t) : sR t 704 0 = some 0 := h.1 (704, 0, (some 0)) (by decide)
theorem kR_705_0 (h : Cn t) : sR t 705 0 = some 0 := h.1 (705, 0, (some 0)) (by decide)
theorem kR_706_0 (h : Cn t) : sR t 706 0 = some 0 := h.1 (706, 0, (some 0)) (by decide)
theorem kR_707_0 (h : Cn t) : sR t 707 0 = some 0 := h.1 (707, 0, (some 0)) (by decide)
theorem kR_708_0 (h : Cn t) : sR t 708 0 = some 0 := h.1 (708, 0, (some 0)) (by decide)
theorem kR_709_0 (h : Cn t) : sR t 709 0 = some 0 := h.1 (709, 0, (some 0)) (by decide)
theorem kN_20_0 (h : Cn t) : sN t 20 0 = 18 := h.2.1 (20, 0, 18) (by decide)
theorem kN_20_1 (h : Cn t) : sN t 20 1 = 3 := h.2.1 (20, 1, 3) (by decide)
theorem kN_20_2 (h : Cn t) : sN t 20 2 = 3 := h.2.1 (20, 2, 3) (by decide)
theorem kN_20_3 (h : Cn t) : sN t 20 3 = 3 := h.2.1 (20, 3, 3) (by decide)
theorem kN_20_4 (h : Cn t) : sN t 20 4 = 3 := h.2.1 (20, 4, 3) (by decide)
theorem kN_20_5 (h : Cn t) : sN t 20 5 = 3 := h.2.1 (20, 5, 3) (by decide)
theorem kN_20_6 (h : Cn t) : sN t 20 6 = 3 := h.2.1 (20, 6, 3) (by decide)
theorem kN_21_0 (h : Cn t) : sN t 21 0 = 64 := h.2.1 (21, 0, 64) (by decide)
theorem kN_21_1 (h : Cn t) : sN t 21 1 = 3 := h.2.1 (21, 1, 3) (by decide)
theorem kN_24_0 (h : Cn t) : sN t 24 0 = 5 := h.2.1 (24, 0, 5) (by decide)
theorem kN_25_0 (h : Cn t) : sN t 25 0 = 3 := h.2.1 (25, 0, 3) (by decide)
theorem kN_26_0 (h : Cn t) : sN t 26 0 = 6 := h.2.1 (26, 0, 6) (by decide)
theorem kN_27_0 (h : Cn t) : sN t 27 0 = 0 := h.2.1 (27, 0, 0) (by decide)
theorem kN_28_0 (h : Cn t) : sN t 28 0 = 45 := h.2.1 (28, 0, 45) (by decide)
theorem kN_28_1 (h : Cn t) : sN t 28 1 = 45 := h.2.1 (28, 1, 45) (by decide)
theorem kI_64_0 (h : Cn t) : sI t 64 0 = 0 := h.2.2.1 (64, 0, 0) (by decide)
theorem kI_64_1 (h : Cn t) : sI t 64 1 = 1 := h.2.2.1 (64, 1, 1) (by decide)
theorem kI_64_2 (h : Cn t) : sI t 64 2 = 2 := h.2.2.1 (64, 2, 2) (by decide)
theorem kI_64_3 (h : Cn t) : sI t 64 3 = 3 := h.2.2.1 (64, 3, 3) (by decide)
theorem kI_64_4 (h : Cn t) : sI t 64 4 = 4 := h.2.2.1 (64, 4, 4) (by decide)
theorem kI_128_0 (h : Cn t) : sI t 128 0 = 0 := h.2.2.1 (128, 0, 0) (by decide)
theorem kI_128_1 (h : Cn t) : sI t 128 1 = 1 := h.2.2.1 (128, 1, 1) (by decide)
theorem kI_128_2 (h : Cn t) : sI t 128 2 = 2 := h.2.2.1 (128, 2, 2) (by decide)
theorem kI_448_0 (h : Cn t) : sI t 448 0 = 0 := h.2.2.1 (448, 0, 0) (by decide)
theorem kI_448_1 (h : Cn t) : sI t 448 1 = 1 := h.2.2.1 (448, 1, 1) (by decide)
theorem kI_448_2 (h : Cn t) : sI t 448 2 = 2 := h.2.2.1 (448, 2, 2) (by decide)
theorem kI_448_3 (h : Cn t) : sI t 448 3 = 3 := h.2.2.1 (448, 3, 3) (by decide)
theorem kI_448_4 (h : Cn t) : sI t 448 4 = 4 := h.2.2.1 (448, 4, 4) (by decide)
theorem kI_448_5 (h : Cn t) : sI t 448 5 = 5 := h.2.2.1 (448, 5, 5) (by decide)
theorem kE_24_0_0 (h : Cn t) : sE t 24 0 0 = (1, (some 0)) := h.2.2.2.1 (24, 0, 0, (1, (some 0))) (by decide)
theorem kE_24_0_1 (h : Cn t) : sE t 24 0 1 = (1, (some 1)) := h.2.2.2.1 (24, 0, 1, (1, (some 1))) (by decide)
theorem kE_24_0_2 (h : Cn t) : sE t 24 0 2 = (1, (some 2)) := h.2.2.2.1 (24, 0, 2, (1, (some 2))) (by decide)
theorem kE_24_0_3 (h : Cn t) : sE t 24 0 3 = (1, (some 3)) := h.2.2.2.1 (24, 0, 3, (1, (some 3))) (by decide)
theorem kE_24_0_4 (h : Cn t) : sE t 24 0 4 = (1, (some 4)) := h.2.2.2.1 (24, 0, 4, (1, (some 4))) (by decide)
theorem kE_25_0_0 (h : Cn t) : sE t 25 0 0 = (2, (some 0)) := h.2.2.2.1 (25, 0, 0, (2, (some 0))) (by decide)
theorem kE_25_0_1 (h : Cn t) : sE t 25 0 1 = (2, (some 1)) := h.2.2.2.1 (25, 0, 1, (2, (some 1))) (by decide)
theorem kE_25_0_2 (h : Cn t) : sE t 25 0 2 = (2, (some 2)) := h.2.2.2.1 (25, 0, 2, (2, (some 2))) (by decide)
theorem kE_26_0_0 (h : Cn t) : sE t 26 0 0 = (7, (some 0)) := h.2.2.2.1 (26, 0, 0, (7, (some 0))) (by decide)
theorem kE_26_0_1 (h : Cn t) : sE t 26 0 1 = (7, (some 1)) := h.2.2.2.1 (26, 0, 1, (7, (some 1))) (by decide)
theorem kE_26_0_2 (h : Cn t) : sE t 26 0 2 = (7, (some 2)) := h.2.2.2.1 (26, 0, 2, (7, (some 2))) (by decide)
theorem kE_26_0_3 (h : Cn t) : sE t 26 0 3 = (7, (some 3)) := h.2.2.2.1 (26, 0, 3, (7, (some 3))) (by decide)
theorem kE_26_0_4 (h : Cn t) : sE t 26 0 4 = (7, (some 4)) := h.2.2.2.1 (26, 0, 4, (7, (some 4))) (by decide)
theorem kE_26_0_5 (h : Cn t) : sE t 26 0 5 = (7, (some 5)) := h.2.2.2.1 (26, 0, 5, (7, (some 5))) (by decide)
theorem kC_20 (h : Cn t) : 7 ≤ sC t 20 := h.2.2.2.2.1 (20, 7) (by decide)
theorem kC_21 (h : Cn t) : 2 ≤ sC t 21 := h.2.2.2.2.1 (21, 2) (by decide)
theorem kC_24 (h : Cn t) : 1 ≤ sC t 24 := h.2.2.2.2.1 (24, 1) (by decide)
theorem kC_25 (h : Cn t) : 1 ≤ sC t 25 := h.2.2.2.2.1 (25, 1) (by decide)
theorem kC_26 (h : Cn t) : 1 ≤ sC t 26 := h.2.2.2.2.1 (26, 1) (by decide)
theorem kC_27 (h : Cn t) : 1 ≤ sC t 27 := h.2.2.2.2.1 (27, 1) (by decide)
theorem kC_28 (h : Cn t) : 2 ≤ sC t 28 := h.2.2.2.2.1 (28, 2) (by decide)
theorem kM (h : Cn t) {i : Nat} (hi : i < 6) : sE t 26 0 i = (7, some i) := by
  have h6 : i = 0 ∨ i = 1 ∨ i = 2 ∨ i = 3 ∨ i = 4 ∨ i = 5 := by omega
  rcases h6 with rfl | rfl | rfl | rfl | rfl | rfl
  · exact kE_26_0_0 h
  · exact kE_26_0_1 h
  · exact kE_26_0_2 h
  · exact kE_26_0_3 h
  · exact kE_26_0_4 h
  · exact kE_26_0_5 h
theorem kB (h : Cn t) {i : Nat} (hi : i < 5) : sE t 24 0 i = (1, some i) := by
  have h6 : i = 0 ∨ i = 1 ∨ i = 2 ∨ i = 3 ∨ i = 4 := by omega
  rcases h6 with rfl | rfl | rfl | rfl | rfl
  · exact kE_24_0_0 h
  · exact kE_24_0_1 h
  · exact kE_24_0_2 h
  · exact kE_24_0_3 h
  · exact kE_24_0_4 h
theorem kK (h : Cn t) {i : Nat} (hi : i < 3) : sE t 25 0 i = (2, some i) := by
  have h6 : i = 0 ∨ i = 1 ∨ i = 2 := by omega
  rcases h6 with rfl | rfl | rfl
  · exact kE_25_0_0 h
  · exact kE_25_0_1 h
  · exact kE_25_0_2 h
theorem kMp (h : Cn t) {i : Nat} (hi : i < 6) : sR t 449 i = some (i + 1) ∧ sN t 20 (i + 1) = 3 ∧ sI t 448 i = io i := by
  have h6 : i = 0 ∨ i = 1 ∨ i = 2 ∨ i = 3 ∨ i = 4 ∨ i = 5 := by omega
  rcases h6 with rfl | rfl | rfl | rfl | rfl | rfl
  · exact ⟨kR_449_0 h, kN_20_1 h, kI_448_0 h⟩
  · exact ⟨kR_449_1 h, kN_20_2 h, kI_448_1 h⟩
  · exact ⟨kR_449_2 h, kN_20_3 h, kI_448_2 h⟩
  · exact ⟨kR_449_3 h, kN_20_4 h, kI_448_3 h⟩
  · exact ⟨kR_449_4 h, kN_20_5 h, kI_448_4 h⟩
  · exact ⟨kR_449_5 h, kN_20_6 h, kI_448_5 h⟩
/-- the first contract of a book; the second one of a spread -/
def fst (b : Nat) : Nat := if b < 3 then b else b - 3
def snd (b : Nat) : Option Nat := if b < 3 then none else some (b - 2)
theorem kBk (h : Cn t) {i : Nat} (hi : i < 5) : sR t 65 i = some (fst i) ∧ sR t 66 i = snd i ∧ sI t 64 i = io i := by
  have h6 : i = 0 ∨ i = 1 ∨ i = 2 ∨ i = 3 ∨ i = 4 := by omega
  rcases h6 with rfl | rfl | rfl | rfl | rfl
  · exact ⟨kR_65_0 h, kR_66_0 h, kI_64_0 h⟩
  · exact ⟨kR_65_1 h, kR_66_1 h, kI_64_1 h⟩
  · exact ⟨kR_65_2 h, kR_66_2 h, kI_64_2 h⟩
  · exact ⟨kR_65_3 h, kR_66_3 h, kI_64_3 h⟩
  · exact ⟨kR_65_4 h, kR_66_4 h, kI_64_4 h⟩
theorem kKn (h : Cn t) {i : Nat} (hi : i < 3) : sI t 128 i = io i := by
  have h6 : i = 0 ∨ i = 1 ∨ i = 2 := by omega
  rcases h6 with rfl | rfl | rfl
  · exact kI_128_0 h
  · exact kI_128_1 h
  · exact kI_128_2 h
end S33
def T16 (L : Nat) (xs : Nat → Int32) : sT := sNwA (sNwA (T12 L xs) 21 64) 21 3
set_option maxRecDepth 10000 in
theorem Cn_T16 {L : Nat} {xs : Nat → Int32} : Cn (T16 L xs) := by
  refine ⟨?_, ?_, ?_, ?_, ?_, fun p => ⟨rfl, rfl⟩⟩
  · refine List.forall_mem_cons.mpr ⟨rfl, List.forall_mem_cons.mpr ⟨rfl, List.forall_mem_cons.mpr ⟨rfl, List.forall_mem_cons.mpr ⟨rfl, List.forall_mem_cons.mpr ⟨rfl, List.forall_mem_cons.mpr ⟨rfl, List.forall_mem_cons.mpr ⟨rfl, List.forall_mem_cons.mpr ⟨rfl, List.forall_mem_cons.mpr ⟨rfl, List.forall_mem_cons.mpr ⟨rfl, List.forall_mem_cons.mpr ⟨rfl, List.forall_mem_cons.mpr ⟨rfl, List.forall_mem_cons.mpr ⟨rfl, List.forall_mem_cons.mpr ⟨rfl, List.forall_mem_cons.mpr ⟨rfl, List.forall_mem_cons.mpr ⟨rfl, List.forall_mem_cons.mpr ⟨rfl, List.forall_mem_cons.mpr ⟨rfl, List.forall_mem_cons.mpr ⟨rfl, List.forall_mem_cons.mpr ⟨rfl, List.forall_mem_cons.mpr ⟨rfl, List.forall_mem_cons.mpr ⟨rfl, List.forall_mem_cons.mpr ⟨rfl, List.forall_mem_cons.mpr ⟨rfl, List.forall_mem_cons.mpr ⟨rfl, List.forall_mem_cons.mpr ⟨rfl, List.forall_mem_cons.mpr ⟨rfl, List.forall_mem_cons.mpr ⟨rfl, List.forall_mem_cons.mpr ⟨rfl, List.forall_mem_cons.mpr ⟨rfl, List.forall_mem_cons.mpr ⟨rfl, List.forall_mem_cons.mpr ⟨rfl, List.forall_mem_cons.mpr ⟨rfl, List.forall_mem_cons.mpr ⟨rfl, List.forall_mem_cons.mpr ⟨rfl, List.forall_mem_cons.mpr ⟨rfl, fun _ h => absurd h List.not_mem_nil⟩⟩⟩⟩⟩⟩⟩⟩⟩⟩⟩⟩⟩⟩⟩⟩⟩⟩⟩⟩⟩⟩⟩⟩⟩⟩⟩⟩⟩⟩⟩⟩⟩⟩⟩⟩
  · refine List.forall_mem_cons.mpr ⟨rfl, List.forall_mem_cons.mpr ⟨rfl, List.forall_mem_cons.mpr ⟨rfl, List.forall_mem_cons.mpr ⟨rfl, List.forall_mem_cons.mpr ⟨rfl, List.forall_mem_cons.mpr ⟨rfl, List.forall_mem_cons.mpr ⟨rfl, List.forall_mem_cons.mpr ⟨rfl, List.forall_mem_cons.mpr ⟨rfl, List.forall_mem_cons.mpr ⟨rfl, List.forall_mem_cons.mpr ⟨rfl, List.forall_mem_cons.mpr ⟨rfl, List.forall_mem_cons.mpr ⟨rfl, List.forall_mem_cons.mpr ⟨rfl, List.forall_mem_cons.mpr ⟨rfl, fun _ h => absurd h List.not_mem_nil⟩⟩⟩⟩⟩⟩⟩⟩⟩⟩⟩⟩⟩⟩⟩
  · refine List.forall_mem_cons.mpr ⟨rfl, List.forall_mem_cons.mpr ⟨rfl, List.forall_mem_cons.mpr ⟨rfl, List.forall_mem_cons.mpr ⟨rfl, List.forall_mem_cons.mpr ⟨rfl, List.forall_mem_cons.mpr ⟨rfl, List.forall_mem_cons.mpr ⟨rfl, List.forall_mem_cons.mpr ⟨rfl, List.forall_mem_cons.mpr ⟨rfl, List.forall_mem_cons.mpr ⟨rfl, List.forall_mem_cons.mpr ⟨rfl, List.forall_mem_cons.mpr ⟨rfl, List.forall_mem_cons.mpr ⟨rfl, List.forall_mem_cons.mpr ⟨rfl, fun _ h => absurd h List.not_mem_nil⟩⟩⟩⟩⟩⟩⟩⟩⟩⟩⟩⟩⟩⟩
  · refine List.forall_mem_cons.mpr ⟨rfl, List.forall_mem_cons.mpr ⟨rfl, List.forall_mem_cons.mpr ⟨rfl, List.forall_mem_cons.mpr ⟨rfl, List.forall_mem_cons.mpr ⟨rfl, List.forall_mem_cons.mpr ⟨rfl, List.forall_mem_cons.mpr ⟨rfl, List.forall_mem_cons.mpr ⟨rfl, List.forall_mem_cons.mpr ⟨rfl, List.forall_mem_cons.mpr ⟨rfl, List.forall_mem_cons.mpr ⟨rfl, List.forall_mem_cons.mpr ⟨rfl, List.forall_mem_cons.mpr ⟨rfl, List.forall_mem_cons.mpr ⟨rfl, fun _ h => absurd h List.not_mem_nil⟩⟩⟩⟩⟩⟩⟩⟩⟩⟩⟩⟩⟩⟩
  · refine List.forall_mem_cons.mpr ⟨Nat.le_of_ble_eq_true rfl, List.forall_mem_cons.mpr ⟨Nat.le_of_ble_eq_true rfl, List.forall_mem_cons.mpr ⟨Nat.le_of_ble_eq_true rfl, List.forall_mem_cons.mpr ⟨Nat.le_of_ble_eq_true rfl, List.forall_mem_cons.mpr ⟨Nat.le_of_ble_eq_true rfl, List.forall_mem_cons.mpr ⟨Nat.le_of_ble_eq_true rfl, List.forall_mem_cons.mpr ⟨Nat.le_of_ble_eq_true rfl, fun _ h => absurd h List.not_mem_nil⟩⟩⟩⟩⟩⟩⟩
