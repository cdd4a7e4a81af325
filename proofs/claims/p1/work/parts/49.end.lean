/-! every call, and the end: the owed statement -/
theorem d_0 {t : sT} {xs : Nat → Int32} (e : t = T16 7 xs) (hk : ((xs 0) &&& 63) = 0) : X 297 23 [.inr (.inr (29, (some 0))), .inr (.inr (11, (some 0))), .inr (.inr (12, (some 0))), .inr (.inr (23, (some 0))), .inl 0, sJk, sJk] [] t Qp := by
  rcases clc_5 (xs 1) with h0 | ⟨h0, g0⟩ | h0 | h0 | h0 | h0 | h0
  · exact v_0_A e hk h0
  · exact v_0_B e hk h0 g0
  · exact v_0_0 e hk h0
  · exact v_0_1 e hk h0
  · exact v_0_2 e hk h0
  · exact v_0_3 e hk h0
  · exact v_0_4 e hk h0
theorem d_1 {t : sT} {xs : Nat → Int32} (e : t = T16 7 xs) (hk : ((xs 0) &&& 63) = 1) : X 297 23 [.inr (.inr (29, (some 0))), .inr (.inr (11, (some 0))), .inr (.inr (12, (some 0))), .inr (.inr (23, (some 0))), .inl 0, sJk, sJk] [] t Qp := by
  rcases clc_5 (xs 1) with h0 | ⟨h0, g0⟩ | h0 | h0 | h0 | h0 | h0
  · exact v_1_A e hk h0
  · exact v_1_B e hk h0 g0
  · exact v_1_0 e hk h0
  · exact v_1_1 e hk h0
  · exact v_1_2 e hk h0
  · exact v_1_3 e hk h0
  · exact v_1_4 e hk h0
theorem d_2 {t : sT} {xs : Nat → Int32} (e : t = T16 7 xs) (hk : ((xs 0) &&& 63) = 2) : X 297 23 [.inr (.inr (29, (some 0))), .inr (.inr (11, (some 0))), .inr (.inr (12, (some 0))), .inr (.inr (23, (some 0))), .inl 0, sJk, sJk] [] t Qp := by
  rcases clc_5 (xs 1) with h0 | ⟨h0, g0⟩ | h0 | h0 | h0 | h0 | h0
  · exact v_2_A e hk h0
  · exact v_2_B e hk h0 g0
  · exact v_2_0 e hk h0
  · exact v_2_1 e hk h0
  · exact v_2_2 e hk h0
  · exact v_2_3 e hk h0
  · exact v_2_4 e hk h0
theorem d_3 {t : sT} {xs : Nat → Int32} (e : t = T16 7 xs) (hk : ((xs 0) &&& 63) = 3) : X 297 23 [.inr (.inr (29, (some 0))), .inr (.inr (11, (some 0))), .inr (.inr (12, (some 0))), .inr (.inr (23, (some 0))), .inl 0, sJk, sJk] [] t Qp := by
  rcases clc_5 (xs 1) with h0 | ⟨h0, g0⟩ | h0 | h0 | h0 | h0 | h0
  · exact v_3_A_i e hk h0
  · exact v_3_B_i e hk h0 g0
  · exact v_3_0_i e hk h0
  · exact v_3_1_i e hk h0
  · exact v_3_2_i e hk h0
  · exact v_3_3_i e hk h0
  · exact v_3_4_i e hk h0
theorem d_4 {t : sT} {xs : Nat → Int32} (e : t = T16 7 xs) (hk : ((xs 0) &&& 63) = 4) : X 297 23 [.inr (.inr (29, (some 0))), .inr (.inr (11, (some 0))), .inr (.inr (12, (some 0))), .inr (.inr (23, (some 0))), .inl 0, sJk, sJk] [] t Qp := by
  rcases clc_3 (xs 1) with h0 | ⟨h0, g0⟩ | h0 | h0 | h0
  · exact v_4_A_i_i e hk h0
  · exact v_4_B_i_i e hk h0 g0
  · exact v_4_0_i_i e hk h0
  · exact v_4_1_i_i e hk h0
  · exact v_4_2_i_i e hk h0
theorem d_5 {t : sT} {xs : Nat → Int32} (e : t = T16 7 xs) (hk : ((xs 0) &&& 63) = 5) : X 297 23 [.inr (.inr (29, (some 0))), .inr (.inr (11, (some 0))), .inr (.inr (12, (some 0))), .inr (.inr (23, (some 0))), .inl 0, sJk, sJk] [] t Qp := by
  rcases cls_6 (xs 1) with h0 | ⟨h0, g0⟩ | ⟨m0, h0, e0⟩
  · exact v_5_A_i e hk h0
  · exact v_5_B_i e hk h0 g0
  · exact v_5_v_i e hk h0 e0
theorem d_6 {t : sT} {xs : Nat → Int32} (e : t = T16 7 xs) (hk : ((xs 0) &&& 63) = 6) : X 297 23 [.inr (.inr (29, (some 0))), .inr (.inr (11, (some 0))), .inr (.inr (12, (some 0))), .inr (.inr (23, (some 0))), .inl 0, sJk, sJk] [] t Qp := by
  rcases cls_6 (xs 1) with h0 | ⟨h0, g0⟩ | ⟨m0, h0, e0⟩
  · exact v_6_A_i e hk h0
  · exact v_6_B_i e hk h0 g0
  · exact v_6_v_i e hk h0 e0
theorem d_7 {t : sT} {xs : Nat → Int32} (e : t = T16 7 xs) (hk : ((xs 0) &&& 63) = 7) : X 297 23 [.inr (.inr (29, (some 0))), .inr (.inr (11, (some 0))), .inr (.inr (12, (some 0))), .inr (.inr (23, (some 0))), .inl 0, sJk, sJk] [] t Qp := by
  exact v_7_i e hk
theorem d_8 {t : sT} {xs : Nat → Int32} (e : t = T16 7 xs) (hk : ((xs 0) &&& 63) = 8) : X 297 23 [.inr (.inr (29, (some 0))), .inr (.inr (11, (some 0))), .inr (.inr (12, (some 0))), .inr (.inr (23, (some 0))), .inl 0, sJk, sJk] [] t Qp := by
  rcases cls_6 (xs 1) with h0 | ⟨h0, g0⟩ | ⟨m0, h0, e0⟩
  · exact v_8_A_i e hk h0
  · exact v_8_B_i e hk h0 g0
  · exact v_8_v_i e hk h0 e0
theorem d_9 {t : sT} {xs : Nat → Int32} (e : t = T16 7 xs) (hk : ((xs 0) &&& 63) = 9) : X 297 23 [.inr (.inr (29, (some 0))), .inr (.inr (11, (some 0))), .inr (.inr (12, (some 0))), .inr (.inr (23, (some 0))), .inl 0, sJk, sJk] [] t Qp := by
  rcases cls_6 (xs 1) with h0 | ⟨h0, g0⟩ | ⟨m0, h0, e0⟩
  · rcases clc_3 (xs 2) with h1 | ⟨h1, g1⟩ | h1 | h1 | h1
    · exact v_9_A_A_i e hk h0 h1
    · exact v_9_A_B_i e hk h0 h1 g1
    · exact v_9_A_0_i e hk h0 h1
    · exact v_9_A_1_i e hk h0 h1
    · exact v_9_A_2_i e hk h0 h1
  · rcases clc_3 (xs 2) with h1 | ⟨h1, g1⟩ | h1 | h1 | h1
    · exact v_9_B_A_i e hk h0 g0 h1
    · exact v_9_B_B_i e hk h0 g0 h1 g1
    · exact v_9_B_0_i e hk h0 g0 h1
    · exact v_9_B_1_i e hk h0 g0 h1
    · exact v_9_B_2_i e hk h0 g0 h1
  · rcases clc_3 (xs 2) with h1 | ⟨h1, g1⟩ | h1 | h1 | h1
    · exact v_9_v_A_i e hk h0 e0 h1
    · exact v_9_v_B_i e hk h0 e0 h1 g1
    · exact v_9_v_0_i e hk h0 e0 h1
    · exact v_9_v_1_i e hk h0 e0 h1
    · exact v_9_v_2_i e hk h0 e0 h1
theorem d_10 {t : sT} {xs : Nat → Int32} (e : t = T16 7 xs) (hk : ((xs 0) &&& 63) = 10) : X 297 23 [.inr (.inr (29, (some 0))), .inr (.inr (11, (some 0))), .inr (.inr (12, (some 0))), .inr (.inr (23, (some 0))), .inl 0, sJk, sJk] [] t Qp := by
  rcases cls_6 (xs 1) with h0 | ⟨h0, g0⟩ | ⟨m0, h0, e0⟩
  · rcases clc_5 (xs 2) with h1 | ⟨h1, g1⟩ | h1 | h1 | h1 | h1 | h1
    · exact v_10_A_A_i_i_i_i e hk h0 h1
    · exact v_10_A_B_i_i_i_i e hk h0 h1 g1
    · exact v_10_A_0_i_i_i_i e hk h0 h1
    · exact v_10_A_1_i_i_i_i e hk h0 h1
    · exact v_10_A_2_i_i_i_i e hk h0 h1
    · exact v_10_A_3_i_i_i_i e hk h0 h1
    · exact v_10_A_4_i_i_i_i e hk h0 h1
  · rcases clc_5 (xs 2) with h1 | ⟨h1, g1⟩ | h1 | h1 | h1 | h1 | h1
    · exact v_10_B_A_i_i_i_i e hk h0 g0 h1
    · exact v_10_B_B_i_i_i_i e hk h0 g0 h1 g1
    · exact v_10_B_0_i_i_i_i e hk h0 g0 h1
    · exact v_10_B_1_i_i_i_i e hk h0 g0 h1
    · exact v_10_B_2_i_i_i_i e hk h0 g0 h1
    · exact v_10_B_3_i_i_i_i e hk h0 g0 h1
    · exact v_10_B_4_i_i_i_i e hk h0 g0 h1
  · rcases clc_5 (xs 2) with h1 | ⟨h1, g1⟩ | h1 | h1 | h1 | h1 | h1
    · exact v_10_v_A_i_i_i_i e hk h0 e0 h1
    · exact v_10_v_B_i_i_i_i e hk h0 e0 h1 g1
    · exact v_10_v_0_i_i_i_i e hk h0 e0 h1
    · exact v_10_v_1_i_i_i_i e hk h0 e0 h1
    · exact v_10_v_2_i_i_i_i e hk h0 e0 h1
    · exact v_10_v_3_i_i_i_i e hk h0 e0 h1
    · exact v_10_v_4_i_i_i_i e hk h0 e0 h1
theorem d_11 {t : sT} {xs : Nat → Int32} (e : t = T16 7 xs) (hk : ((xs 0) &&& 63) = 11) : X 297 23 [.inr (.inr (29, (some 0))), .inr (.inr (11, (some 0))), .inr (.inr (12, (some 0))), .inr (.inr (23, (some 0))), .inl 0, sJk, sJk] [] t Qp := by
  rcases cls_6 (xs 1) with h0 | ⟨h0, g0⟩ | ⟨m0, h0, e0⟩
  · rcases clc_5 (xs 2) with h1 | ⟨h1, g1⟩ | h1 | h1 | h1 | h1 | h1
    · exact v_11_A_A_i_i_i e hk h0 h1
    · exact v_11_A_B_i_i_i e hk h0 h1 g1
    · exact v_11_A_0_i_i_i e hk h0 h1
    · exact v_11_A_1_i_i_i e hk h0 h1
    · exact v_11_A_2_i_i_i e hk h0 h1
    · exact v_11_A_3_i_i_i e hk h0 h1
    · exact v_11_A_4_i_i_i e hk h0 h1
  · rcases clc_5 (xs 2) with h1 | ⟨h1, g1⟩ | h1 | h1 | h1 | h1 | h1
    · exact v_11_B_A_i_i_i e hk h0 g0 h1
    · exact v_11_B_B_i_i_i e hk h0 g0 h1 g1
    · exact v_11_B_0_i_i_i e hk h0 g0 h1
    · exact v_11_B_1_i_i_i e hk h0 g0 h1
    · exact v_11_B_2_i_i_i e hk h0 g0 h1
    · exact v_11_B_3_i_i_i e hk h0 g0 h1
    · exact v_11_B_4_i_i_i e hk h0 g0 h1
  · rcases clc_5 (xs 2) with h1 | ⟨h1, g1⟩ | h1 | h1 | h1 | h1 | h1
    · exact v_11_v_A_i_i_i e hk h0 e0 h1
    · exact v_11_v_B_i_i_i e hk h0 e0 h1 g1
    · exact v_11_v_0_i_i_i e hk h0 e0 h1
    · exact v_11_v_1_i_i_i e hk h0 e0 h1
    · exact v_11_v_2_i_i_i e hk h0 e0 h1
    · exact v_11_v_3_i_i_i e hk h0 e0 h1
    · exact v_11_v_4_i_i_i e hk h0 e0 h1
theorem d_12 {t : sT} {xs : Nat → Int32} (e : t = T16 7 xs) (hk : ((xs 0) &&& 63) = 12) : X 297 23 [.inr (.inr (29, (some 0))), .inr (.inr (11, (some 0))), .inr (.inr (12, (some 0))), .inr (.inr (23, (some 0))), .inl 0, sJk, sJk] [] t Qp := by
  rcases cls_6 (xs 1) with h0 | ⟨h0, g0⟩ | ⟨m0, h0, e0⟩
  · rcases clc_5 (xs 2) with h1 | ⟨h1, g1⟩ | h1 | h1 | h1 | h1 | h1
    · exact v_12_A_A_i_i_i_i e hk h0 h1
    · exact v_12_A_B_i_i_i_i e hk h0 h1 g1
    · exact v_12_A_0_i_i_i_i e hk h0 h1
    · exact v_12_A_1_i_i_i_i e hk h0 h1
    · exact v_12_A_2_i_i_i_i e hk h0 h1
    · exact v_12_A_3_i_i_i_i e hk h0 h1
    · exact v_12_A_4_i_i_i_i e hk h0 h1
  · rcases clc_5 (xs 2) with h1 | ⟨h1, g1⟩ | h1 | h1 | h1 | h1 | h1
    · exact v_12_B_A_i_i_i_i e hk h0 g0 h1
    · exact v_12_B_B_i_i_i_i e hk h0 g0 h1 g1
    · exact v_12_B_0_i_i_i_i e hk h0 g0 h1
    · exact v_12_B_1_i_i_i_i e hk h0 g0 h1
    · exact v_12_B_2_i_i_i_i e hk h0 g0 h1
    · exact v_12_B_3_i_i_i_i e hk h0 g0 h1
    · exact v_12_B_4_i_i_i_i e hk h0 g0 h1
  · rcases clc_5 (xs 2) with h1 | ⟨h1, g1⟩ | h1 | h1 | h1 | h1 | h1
    · exact v_12_v_A_i_i_i_i e hk h0 e0 h1
    · exact v_12_v_B_i_i_i_i e hk h0 e0 h1 g1
    · exact v_12_v_0_i_i_i_i e hk h0 e0 h1
    · exact v_12_v_1_i_i_i_i e hk h0 e0 h1
    · exact v_12_v_2_i_i_i_i e hk h0 e0 h1
    · exact v_12_v_3_i_i_i_i e hk h0 e0 h1
    · exact v_12_v_4_i_i_i_i e hk h0 e0 h1
theorem d_13 {t : sT} {xs : Nat → Int32} (e : t = T16 7 xs) (hk : ((xs 0) &&& 63) = 13) : X 297 23 [.inr (.inr (29, (some 0))), .inr (.inr (11, (some 0))), .inr (.inr (12, (some 0))), .inr (.inr (23, (some 0))), .inl 0, sJk, sJk] [] t Qp := by
  rcases cls_6 (xs 1) with h0 | ⟨h0, g0⟩ | ⟨m0, h0, e0⟩
  · rcases clc_5 (xs 2) with h1 | ⟨h1, g1⟩ | h1 | h1 | h1 | h1 | h1
    · exact v_13_A_A_i_i_i e hk h0 h1
    · exact v_13_A_B_i_i_i e hk h0 h1 g1
    · exact v_13_A_0_i_i_i e hk h0 h1
    · exact v_13_A_1_i_i_i e hk h0 h1
    · exact v_13_A_2_i_i_i e hk h0 h1
    · exact v_13_A_3_i_i_i e hk h0 h1
    · exact v_13_A_4_i_i_i e hk h0 h1
  · rcases clc_5 (xs 2) with h1 | ⟨h1, g1⟩ | h1 | h1 | h1 | h1 | h1
    · exact v_13_B_A_i_i_i e hk h0 g0 h1
    · exact v_13_B_B_i_i_i e hk h0 g0 h1 g1
    · exact v_13_B_0_i_i_i e hk h0 g0 h1
    · exact v_13_B_1_i_i_i e hk h0 g0 h1
    · exact v_13_B_2_i_i_i e hk h0 g0 h1
    · exact v_13_B_3_i_i_i e hk h0 g0 h1
    · exact v_13_B_4_i_i_i e hk h0 g0 h1
  · rcases clc_5 (xs 2) with h1 | ⟨h1, g1⟩ | h1 | h1 | h1 | h1 | h1
    · exact v_13_v_A_i_i_i e hk h0 e0 h1
    · exact v_13_v_B_i_i_i e hk h0 e0 h1 g1
    · exact v_13_v_0_i_i_i e hk h0 e0 h1
    · exact v_13_v_1_i_i_i e hk h0 e0 h1
    · exact v_13_v_2_i_i_i e hk h0 e0 h1
    · exact v_13_v_3_i_i_i e hk h0 e0 h1
    · exact v_13_v_4_i_i_i e hk h0 e0 h1
theorem d_14 {t : sT} {xs : Nat → Int32} (e : t = T16 7 xs) (hk : ((xs 0) &&& 63) = 14) : X 297 23 [.inr (.inr (29, (some 0))), .inr (.inr (11, (some 0))), .inr (.inr (12, (some 0))), .inr (.inr (23, (some 0))), .inl 0, sJk, sJk] [] t Qp := by
  exact v_14_i e hk
theorem d_15 {t : sT} {xs : Nat → Int32} (e : t = T16 7 xs) (hk : ((xs 0) &&& 63) = 15) : X 297 23 [.inr (.inr (29, (some 0))), .inr (.inr (11, (some 0))), .inr (.inr (12, (some 0))), .inr (.inr (23, (some 0))), .inl 0, sJk, sJk] [] t Qp := by
  exact v_15_i e hk
theorem d_16 {t : sT} {xs : Nat → Int32} (e : t = T16 7 xs) (hk : ((xs 0) &&& 63) = 16) : X 297 23 [.inr (.inr (29, (some 0))), .inr (.inr (11, (some 0))), .inr (.inr (12, (some 0))), .inr (.inr (23, (some 0))), .inl 0, sJk, sJk] [] t Qp := by
  rcases clc_6 (xs 1) with h0 | ⟨h0, g0⟩ | h0 | h0 | h0 | h0 | h0 | h0
  · exact v_16_A_i e hk h0
  · exact v_16_B_i e hk h0 g0
  · exact v_16_0_i e hk h0
  · exact v_16_1_i e hk h0
  · exact v_16_2_i e hk h0
  · exact v_16_3_i e hk h0
  · exact v_16_4_i e hk h0
  · exact v_16_5_i e hk h0
theorem d_17 {t : sT} {xs : Nat → Int32} (e : t = T16 7 xs) (hk : ((xs 0) &&& 63) = 17) : X 297 23 [.inr (.inr (29, (some 0))), .inr (.inr (11, (some 0))), .inr (.inr (12, (some 0))), .inr (.inr (23, (some 0))), .inl 0, sJk, sJk] [] t Qp := by
  rcases cls_6 (xs 1) with h0 | ⟨h0, g0⟩ | ⟨m0, h0, e0⟩
  · exact v_17_A e hk h0
  · exact v_17_B e hk h0 g0
  · exact v_17_v e hk h0 e0
theorem d_18 {t : sT} {xs : Nat → Int32} (e : t = T16 7 xs) (hk : ((xs 0) &&& 63) = 18) : X 297 23 [.inr (.inr (29, (some 0))), .inr (.inr (11, (some 0))), .inr (.inr (12, (some 0))), .inr (.inr (23, (some 0))), .inl 0, sJk, sJk] [] t Qp := by
  rcases clc_5 (xs 1) with h0 | ⟨h0, g0⟩ | h0 | h0 | h0 | h0 | h0
  · exact v_18_A e hk h0
  · exact v_18_B e hk h0 g0
  · exact v_18_0 e hk h0
  · exact v_18_1 e hk h0
  · exact v_18_2 e hk h0
  · exact v_18_3 e hk h0
  · exact v_18_4 e hk h0
theorem d_19 {t : sT} {xs : Nat → Int32} (e : t = T16 7 xs) (hk : ((xs 0) &&& 63) = 19) : X 297 23 [.inr (.inr (29, (some 0))), .inr (.inr (11, (some 0))), .inr (.inr (12, (some 0))), .inr (.inr (23, (some 0))), .inl 0, sJk, sJk] [] t Qp := by
  exact v_19 e hk
theorem d_20 {t : sT} {xs : Nat → Int32} (e : t = T16 7 xs) (hk : ((xs 0) &&& 63) = 20) : X 297 23 [.inr (.inr (29, (some 0))), .inr (.inr (11, (some 0))), .inr (.inr (12, (some 0))), .inr (.inr (23, (some 0))), .inl 0, sJk, sJk] [] t Qp := by
  exact v_20_i e hk
theorem d_21 {t : sT} {xs : Nat → Int32} (e : t = T16 7 xs) (hk : ((xs 0) &&& 63) = 21) : X 297 23 [.inr (.inr (29, (some 0))), .inr (.inr (11, (some 0))), .inr (.inr (12, (some 0))), .inr (.inr (23, (some 0))), .inl 0, sJk, sJk] [] t Qp := by
  exact v_21_i e hk
theorem d_22 {t : sT} {xs : Nat → Int32} (e : t = T16 7 xs) (hk : ((xs 0) &&& 63) = 22) : X 297 23 [.inr (.inr (29, (some 0))), .inr (.inr (11, (some 0))), .inr (.inr (12, (some 0))), .inr (.inr (23, (some 0))), .inl 0, sJk, sJk] [] t Qp := by
  exact v_22_i e hk
theorem d_23 {t : sT} {xs : Nat → Int32} (e : t = T16 7 xs) (hk : ((xs 0) &&& 63) = 23) : X 297 23 [.inr (.inr (29, (some 0))), .inr (.inr (11, (some 0))), .inr (.inr (12, (some 0))), .inr (.inr (23, (some 0))), .inl 0, sJk, sJk] [] t Qp := by
  rcases clc_5 (xs 1) with h0 | ⟨h0, g0⟩ | h0 | h0 | h0 | h0 | h0
  · exact v_23_A_i e hk h0
  · exact v_23_B_i e hk h0 g0
  · exact v_23_0_i e hk h0
  · exact v_23_1_i e hk h0
  · exact v_23_2_i e hk h0
  · exact v_23_3_i e hk h0
  · exact v_23_4_i e hk h0
theorem d_24 {t : sT} {xs : Nat → Int32} (e : t = T16 7 xs) (hk : ((xs 0) &&& 63) = 24) : X 297 23 [.inr (.inr (29, (some 0))), .inr (.inr (11, (some 0))), .inr (.inr (12, (some 0))), .inr (.inr (23, (some 0))), .inl 0, sJk, sJk] [] t Qp := by
  rcases clc_5 (xs 1) with h0 | ⟨h0, g0⟩ | h0 | h0 | h0 | h0 | h0
  · exact v_24_A_i e hk h0
  · exact v_24_B_i e hk h0 g0
  · exact v_24_0_i e hk h0
  · exact v_24_1_i e hk h0
  · exact v_24_2_i e hk h0
  · exact v_24_3_i e hk h0
  · exact v_24_4_i e hk h0
theorem d_25 {t : sT} {xs : Nat → Int32} (e : t = T16 7 xs) (hk : ((xs 0) &&& 63) = 25) : X 297 23 [.inr (.inr (29, (some 0))), .inr (.inr (11, (some 0))), .inr (.inr (12, (some 0))), .inr (.inr (23, (some 0))), .inl 0, sJk, sJk] [] t Qp := by
  rcases clc_5 (xs 1) with h0 | ⟨h0, g0⟩ | h0 | h0 | h0 | h0 | h0
  · exact v_25_A_i e hk h0
  · exact v_25_B_i e hk h0 g0
  · exact v_25_0_i e hk h0
  · exact v_25_1_i e hk h0
  · exact v_25_2_i e hk h0
  · exact v_25_3_i e hk h0
  · exact v_25_4_i e hk h0
theorem d_26 {t : sT} {xs : Nat → Int32} (e : t = T16 7 xs) (hk : ((xs 0) &&& 63) = 26) : X 297 23 [.inr (.inr (29, (some 0))), .inr (.inr (11, (some 0))), .inr (.inr (12, (some 0))), .inr (.inr (23, (some 0))), .inl 0, sJk, sJk] [] t Qp := by
  rcases clc_5 (xs 1) with h0 | ⟨h0, g0⟩ | h0 | h0 | h0 | h0 | h0
  · exact v_26_A_i e hk h0
  · exact v_26_B_i e hk h0 g0
  · exact v_26_0_i e hk h0
  · exact v_26_1_i e hk h0
  · exact v_26_2_i e hk h0
  · exact v_26_3_i e hk h0
  · exact v_26_4_i e hk h0
theorem d_27 {t : sT} {xs : Nat → Int32} (e : t = T16 7 xs) (hk : ((xs 0) &&& 63) = 27) : X 297 23 [.inr (.inr (29, (some 0))), .inr (.inr (11, (some 0))), .inr (.inr (12, (some 0))), .inr (.inr (23, (some 0))), .inl 0, sJk, sJk] [] t Qp := by
  rcases clc_5 (xs 1) with h0 | ⟨h0, g0⟩ | h0 | h0 | h0 | h0 | h0
  · exact v_27_A e hk h0
  · exact v_27_B e hk h0 g0
  · exact v_27_0 e hk h0
  · exact v_27_1 e hk h0
  · exact v_27_2 e hk h0
  · exact v_27_3 e hk h0
  · exact v_27_4 e hk h0
theorem d_28 {t : sT} {xs : Nat → Int32} (e : t = T16 7 xs) (hk : ((xs 0) &&& 63) = 28) : X 297 23 [.inr (.inr (29, (some 0))), .inr (.inr (11, (some 0))), .inr (.inr (12, (some 0))), .inr (.inr (23, (some 0))), .inl 0, sJk, sJk] [] t Qp := by
  rcases clc_3 (xs 1) with h0 | ⟨h0, g0⟩ | h0 | h0 | h0
  · exact v_28_A e hk h0
  · exact v_28_B e hk h0 g0
  · exact v_28_0 e hk h0
  · exact v_28_1 e hk h0
  · exact v_28_2 e hk h0
theorem d_29 {t : sT} {xs : Nat → Int32} (e : t = T16 7 xs) (hk : ((xs 0) &&& 63) = 29) : X 297 23 [.inr (.inr (29, (some 0))), .inr (.inr (11, (some 0))), .inr (.inr (12, (some 0))), .inr (.inr (23, (some 0))), .inl 0, sJk, sJk] [] t Qp := by
  rcases clc_3 (xs 1) with h0 | ⟨h0, g0⟩ | h0 | h0 | h0
  · exact v_29_A e hk h0
  · exact v_29_B e hk h0 g0
  · exact v_29_0 e hk h0
  · exact v_29_1 e hk h0
  · exact v_29_2 e hk h0
theorem d_30 {t : sT} {xs : Nat → Int32} (e : t = T16 7 xs) (hk : ((xs 0) &&& 63) = 30) : X 297 23 [.inr (.inr (29, (some 0))), .inr (.inr (11, (some 0))), .inr (.inr (12, (some 0))), .inr (.inr (23, (some 0))), .inl 0, sJk, sJk] [] t Qp := by
  exact v_30 e hk
theorem d_31 {t : sT} {xs : Nat → Int32} (e : t = T16 7 xs) (hk : ((xs 0) &&& 63) = 31) : X 297 23 [.inr (.inr (29, (some 0))), .inr (.inr (11, (some 0))), .inr (.inr (12, (some 0))), .inr (.inr (23, (some 0))), .inl 0, sJk, sJk] [] t Qp := by
  exact v_31_i_i e hk
theorem d_32 {t : sT} {xs : Nat → Int32} (e : t = T16 7 xs) (hk : ((xs 0) &&& 63) = 32) : X 297 23 [.inr (.inr (29, (some 0))), .inr (.inr (11, (some 0))), .inr (.inr (12, (some 0))), .inr (.inr (23, (some 0))), .inl 0, sJk, sJk] [] t Qp := by
  rcases cls_6 (xs 1) with h0 | ⟨h0, g0⟩ | ⟨m0, h0, e0⟩
  · rcases clc_3 (xs 2) with h1 | ⟨h1, g1⟩ | h1 | h1 | h1
    · exact v_32_A_A e hk h0 h1
    · exact v_32_A_B e hk h0 h1 g1
    · exact v_32_A_0 e hk h0 h1
    · exact v_32_A_1 e hk h0 h1
    · exact v_32_A_2 e hk h0 h1
  · rcases clc_3 (xs 2) with h1 | ⟨h1, g1⟩ | h1 | h1 | h1
    · exact v_32_B_A e hk h0 g0 h1
    · exact v_32_B_B e hk h0 g0 h1 g1
    · exact v_32_B_0 e hk h0 g0 h1
    · exact v_32_B_1 e hk h0 g0 h1
    · exact v_32_B_2 e hk h0 g0 h1
  · rcases clc_3 (xs 2) with h1 | ⟨h1, g1⟩ | h1 | h1 | h1
    · exact v_32_v_A e hk h0 e0 h1
    · exact v_32_v_B e hk h0 e0 h1 g1
    · exact v_32_v_0 e hk h0 e0 h1
    · exact v_32_v_1 e hk h0 e0 h1
    · exact v_32_v_2 e hk h0 e0 h1
theorem d_33 {t : sT} {xs : Nat → Int32} (e : t = T16 7 xs) (hk : ((xs 0) &&& 63) = 33) : X 297 23 [.inr (.inr (29, (some 0))), .inr (.inr (11, (some 0))), .inr (.inr (12, (some 0))), .inr (.inr (23, (some 0))), .inl 0, sJk, sJk] [] t Qp := by
  rcases cls_6 (xs 1) with h0 | ⟨h0, g0⟩ | ⟨m0, h0, e0⟩
  · rcases clc_3 (xs 2) with h1 | ⟨h1, g1⟩ | h1 | h1 | h1
    · exact v_33_A_A e hk h0 h1
    · exact v_33_A_B e hk h0 h1 g1
    · exact v_33_A_0 e hk h0 h1
    · exact v_33_A_1 e hk h0 h1
    · exact v_33_A_2 e hk h0 h1
  · rcases clc_3 (xs 2) with h1 | ⟨h1, g1⟩ | h1 | h1 | h1
    · exact v_33_B_A e hk h0 g0 h1
    · exact v_33_B_B e hk h0 g0 h1 g1
    · exact v_33_B_0 e hk h0 g0 h1
    · exact v_33_B_1 e hk h0 g0 h1
    · exact v_33_B_2 e hk h0 g0 h1
  · rcases clc_3 (xs 2) with h1 | ⟨h1, g1⟩ | h1 | h1 | h1
    · exact v_33_v_A e hk h0 e0 h1
    · exact v_33_v_B e hk h0 e0 h1 g1
    · exact v_33_v_0 e hk h0 e0 h1
    · exact v_33_v_1 e hk h0 e0 h1
    · exact v_33_v_2 e hk h0 e0 h1
theorem d_34 {t : sT} {xs : Nat → Int32} (e : t = T16 7 xs) (hk : ((xs 0) &&& 63) = 34) : X 297 23 [.inr (.inr (29, (some 0))), .inr (.inr (11, (some 0))), .inr (.inr (12, (some 0))), .inr (.inr (23, (some 0))), .inl 0, sJk, sJk] [] t Qp := by
  rcases cls_6 (xs 1) with h0 | ⟨h0, g0⟩ | ⟨m0, h0, e0⟩
  · exact v_34_A e hk h0
  · exact v_34_B e hk h0 g0
  · exact v_34_v e hk h0 e0
theorem d_35 {t : sT} {xs : Nat → Int32} (e : t = T16 7 xs) (hk : ((xs 0) &&& 63) = 35) : X 297 23 [.inr (.inr (29, (some 0))), .inr (.inr (11, (some 0))), .inr (.inr (12, (some 0))), .inr (.inr (23, (some 0))), .inl 0, sJk, sJk] [] t Qp := by
  rcases cls_6 (xs 1) with h0 | ⟨h0, g0⟩ | ⟨m0, h0, e0⟩
  · exact v_35_A e hk h0
  · exact v_35_B e hk h0 g0
  · exact v_35_v e hk h0 e0
theorem d_36 {t : sT} {xs : Nat → Int32} (e : t = T16 7 xs) (hk : ((xs 0) &&& 63) = 36) : X 297 23 [.inr (.inr (29, (some 0))), .inr (.inr (11, (some 0))), .inr (.inr (12, (some 0))), .inr (.inr (23, (some 0))), .inl 0, sJk, sJk] [] t Qp := by
  rcases cls_6 (xs 1) with h0 | ⟨h0, g0⟩ | ⟨m0, h0, e0⟩
  · exact v_36_A e hk h0
  · exact v_36_B e hk h0 g0
  · exact v_36_v e hk h0 e0
theorem d_37 {t : sT} {xs : Nat → Int32} (e : t = T16 7 xs) (hk : ((xs 0) &&& 63) = 37) : X 297 23 [.inr (.inr (29, (some 0))), .inr (.inr (11, (some 0))), .inr (.inr (12, (some 0))), .inr (.inr (23, (some 0))), .inl 0, sJk, sJk] [] t Qp := by
  rcases cls_6 (xs 1) with h0 | ⟨h0, g0⟩ | ⟨m0, h0, e0⟩
  · exact v_37_A e hk h0
  · exact v_37_B e hk h0 g0
  · exact v_37_v e hk h0 e0
theorem d_38 {t : sT} {xs : Nat → Int32} (e : t = T16 7 xs) (hk : ((xs 0) &&& 63) = 38) : X 297 23 [.inr (.inr (29, (some 0))), .inr (.inr (11, (some 0))), .inr (.inr (12, (some 0))), .inr (.inr (23, (some 0))), .inl 0, sJk, sJk] [] t Qp := by
  rcases cls_6 (xs 1) with h0 | ⟨h0, g0⟩ | ⟨m0, h0, e0⟩
  · exact v_38_A e hk h0
  · exact v_38_B e hk h0 g0
  · exact v_38_v e hk h0 e0
theorem d_39 {t : sT} {xs : Nat → Int32} (e : t = T16 7 xs) (hk : ((xs 0) &&& 63) = 39) : X 297 23 [.inr (.inr (29, (some 0))), .inr (.inr (11, (some 0))), .inr (.inr (12, (some 0))), .inr (.inr (23, (some 0))), .inl 0, sJk, sJk] [] t Qp := by
  rcases cls_6 (xs 1) with h0 | ⟨h0, g0⟩ | ⟨m0, h0, e0⟩
  · exact v_39_A e hk h0
  · exact v_39_B e hk h0 g0
  · exact v_39_v e hk h0 e0
theorem d_40 {t : sT} {xs : Nat → Int32} (e : t = T16 7 xs) (hk : ((xs 0) &&& 63) = 40) : X 297 23 [.inr (.inr (29, (some 0))), .inr (.inr (11, (some 0))), .inr (.inr (12, (some 0))), .inr (.inr (23, (some 0))), .inl 0, sJk, sJk] [] t Qp := by
  exact v_40 e hk
theorem d_41 {t : sT} {xs : Nat → Int32} (e : t = T16 7 xs) (hk : ((xs 0) &&& 63) = 41) : X 297 23 [.inr (.inr (29, (some 0))), .inr (.inr (11, (some 0))), .inr (.inr (12, (some 0))), .inr (.inr (23, (some 0))), .inl 0, sJk, sJk] [] t Qp := by
  exact v_41 e hk
theorem p1_7 {t : sT} {xs : Nat → Int32} (e : t = T16 7 xs) : X 297 23 [.inr (.inr (29, (some 0))), .inr (.inr (11, (some 0))), .inr (.inr (12, (some 0))), .inr (.inr (23, (some 0))), .inl 0, sJk, sJk] [] t Qp := by
  obtain ⟨k, hk, h⟩ := and63 (xs 0)
  match k, hk with
  | 0, _ => exact d_0 e h
  | 1, _ => exact d_1 e h
  | 2, _ => exact d_2 e h
  | 3, _ => exact d_3 e h
  | 4, _ => exact d_4 e h
  | 5, _ => exact d_5 e h
  | 6, _ => exact d_6 e h
  | 7, _ => exact d_7 e h
  | 8, _ => exact d_8 e h
  | 9, _ => exact d_9 e h
  | 10, _ => exact d_10 e h
  | 11, _ => exact d_11 e h
  | 12, _ => exact d_12 e h
  | 13, _ => exact d_13 e h
  | 14, _ => exact d_14 e h
  | 15, _ => exact d_15 e h
  | 16, _ => exact d_16 e h
  | 17, _ => exact d_17 e h
  | 18, _ => exact d_18 e h
  | 19, _ => exact d_19 e h
  | 20, _ => exact d_20 e h
  | 21, _ => exact d_21 e h
  | 22, _ => exact d_22 e h
  | 23, _ => exact d_23 e h
  | 24, _ => exact d_24 e h
  | 25, _ => exact d_25 e h
  | 26, _ => exact d_26 e h
  | 27, _ => exact d_27 e h
  | 28, _ => exact d_28 e h
  | 29, _ => exact d_29 e h
  | 30, _ => exact d_30 e h
  | 31, _ => exact d_31 e h
  | 32, _ => exact d_32 e h
  | 33, _ => exact d_33 e h
  | 34, _ => exact d_34 e h
  | 35, _ => exact d_35 e h
  | 36, _ => exact d_36 e h
  | 37, _ => exact d_37 e h
  | 38, _ => exact d_38 e h
  | 39, _ => exact d_39 e h
  | 40, _ => exact d_40 e h
  | 41, _ => exact d_41 e h
  | 42, _ => exact u_42 e h
  | 43, _ => exact u_43 e h
  | 44, _ => exact u_44 e h
  | 45, _ => exact u_45 e h
  | 46, _ => exact u_46 e h
  | 47, _ => exact u_47 e h
  | 48, _ => exact u_48 e h
  | 49, _ => exact u_49 e h
  | 50, _ => exact u_50 e h
  | 51, _ => exact u_51 e h
  | 52, _ => exact u_52 e h
  | 53, _ => exact u_53 e h
  | 54, _ => exact u_54 e h
  | 55, _ => exact u_55 e h
  | 56, _ => exact u_56 e h
  | 57, _ => exact u_57 e h
  | 58, _ => exact u_58 e h
  | 59, _ => exact u_59 e h
  | 60, _ => exact u_60 e h
  | 61, _ => exact u_61 e h
  | 62, _ => exact u_62 e h
  | 63, _ => exact u_63 e h
  | k + 64, hk => exact absurd hk (by omega)
theorem p1_all {L : Nat} {xs : Nat → Int32} (hL : L ≤ 7) : X 297 23 [.inr (.inr (29, (some 0))), .inr (.inr (11, (some 0))), .inr (.inr (12, (some 0))), .inr (.inr (23, (some 0))), .inl 0, sJk, sJk] [] (T16 L xs) Qp := by
  match L, hL with
  | 0, _ => exact w_0 rfl
  | 1, _ => exact w_1 rfl
  | 2, _ => exact w_2 rfl
  | 3, _ => exact w_3 rfl
  | 4, _ => exact w_4 rfl
  | 5, _ => exact w_5 rfl
  | 6, _ => exact w_6 rfl
  | 7, _ => exact p1_7 rfl
theorem p1_run {L : Nat} {xs : Nat → Int32} (hL : L ≤ 7) : ∃ (f : Nat) (t' : sT), sRun f 297 0 (sEn [.inr (.inr (29, some 0))] 7) [] (sT0 L xs) = some (.inl (some (.inl 1)), t') ∧ sn t' ≤ 600002 ∧ sw t' ≤ 7302232 := by
  obtain ⟨f, r, t', h1, rfl, h2, h3⟩ := law_0 (p1_all (xs := xs) hL)
  exact ⟨f, t', h1, h2, h3⟩
theorem whole_start {p : Program} {e : Env} {s : State} {m : MethodId} {below : List Frame} {meth : Method} {c : Code} (l : Launch) (hflags : l.flags = flags0) {b L : Nat} {xs : Nat → Int32} (hL : L ≤ 7) (C0 : lw_At p s m meth c b L xs) : W p l e room_1 s m #[Value.ref b] below meth c s.heap [] 0 0 (lw_Z below #[Value.ref b] s) (entryFrame m ([Value.ref b] : List Value).toArray 7) := by
  exact sWhole l hflags hL C0 (p1_run hL)
set_option maxHeartbeats 4000000 in
theorem lw_walk (l : Launch) (hflags : l.flags = flags0) (b : Addr) (xs : List Int32) : MetFree l x (headSpec (Jvm.Cond.code x code maxLocals ret :: tables_1) room_1) (lw_P b xs) (fun _ _ _ _ _ => True) lw_Q := by
  refine MetFree.of_bodyS (code := code) (maxLocals := maxLocals) (ret := ret) (by decide) ?_ ?_
  · intro args s m h hn
    obtain ⟨meth, c, h1, h2, h3, h4, h5, h6, -, -⟩ := Cond.code_spec hn (atoms_spec (ws := Jvm.Cond.code x code maxLocals ret :: tables_1) h _ List.mem_cons_self)
    exact ⟨meth, c, h1, h2, h3, h4, h5, h6⟩
  · intro p e s m args below meth c s₁ B hml0 hP _
    obtain ⟨rfl, hx, hbd, hgv⟩ := hP
    obtain ⟨scr, harrAt, hlist, hof, hsmall⟩ := hx
    obtain ⟨hcb, hkn, -, -⟩ := State.arrayAt?_spec harrAt
    have hown : s.vm.findClass R_law = some m.cls := findClass_of_methodNamed B.named
    have hts0 : ∀ c ∈ (Jvm.Cond.code x code maxLocals ret :: tables_1), c.before #[Value.ref b] s = true := atoms_spec (ws := Jvm.Cond.code x code maxLocals ret :: tables_1) B.pre
    have hts : ∀ w ∈ lw_tbl, w.before #[Value.ref b] s = true := k2_hts_sels lw_privs (fun w hw => hts0 w (List.mem_cons_of_mem _ hw)) lw_privs_ok
    have hml : c.maxLocals = 7 := B.maxLocals_eq (hts0 _ List.mem_cons_self)
    have X₀ : Stand p l e room_1 s m #[Value.ref b] below meth c s₁ [] 0 0 := Stand.of_body B
    have hh0 : s₁.heap = s.heap := by rw [B.state]; rfl
    have hsz : scr.slots.size = xs.length := by rw [← Array.length_toList, hlist, List.length_map]
    have hval : ∀ j : Nat, j < xs.length → scr.slots[j]? = some (.int (xs.getD j 0)) := fun j hj => by
      rw [← Array.getElem?_toList, hlist]
      simp [hj]
    have hbl : b < s.heap.size := (Array.getElem?_eq_some_iff.mp hcb).1
    have hX : va_X b xs.length (fun j => xs.getD j 0) s s.heap := ⟨scr, hcb, hof, hkn, hsz, hval⟩
    have K : W p l e room_1 s m #[Value.ref b] below meth c s₁.heap [] 0 0 (lw_Z below #[Value.ref b] s) (entryFrame m ([Value.ref b] : List Value).toArray 7) := by
      rw [hh0]
      exact whole_start l hflags hbd ⟨B.exec, B.bytes, B.returns, hml, hown, hts, hX, hbl, B.notSynchronized, hgv⟩
    obtain ⟨t, a1, o, b1, b2, b3⟩ := K s₁ rfl X₀
    exact ⟨t, o, a1, b1, b2, b3⟩
theorem lw_pre_spec {args : Array Value} {s : State} (h : (Jvm.Cond.and given_1 narrow_1).before args s = true) (hr : rest_1_c.before args s = true) : ∃ (b : Addr) (xs : List Int32), lw_P b xs args s := by
  have hs := flat_of_before _ h
  have hq := flat_of_before _ hr
  have hc : (Cond.count 1).before args s = true := hs _ (by decide +kernel)
  have harr : (Cond.arrayOf (.arg 0) .int).before args s = true := hs _ (by decide +kernel)
  have hle : (Cond.le (.length (.arg 0)) (.int 7)).before args s = true := hs _ (by decide +kernel)
  have hlen : (Cond.isInt (.length (.arg 0))).before args s = true := hq _ (by decide +kernel)
  have hall : (Cond.all (.arg 0) (.isInt (.elem (.arg 0) (.index 0)))).before args s = true := hq _ (by decide +kernel)
  obtain ⟨b, xs, hb, hx⟩ := State.ints_of_pre rfl harr hlen hall
  have hsm : xs.length < 2 ^ 31 := hx.choose_spec.2.2.2
  have hev : (Term.length (.arg 0)).eval args s none [] s = some (.int xs.length.toInt32) := hx.length_eval hb
  have hv := Cond.le_ints hev (show (Term.int 7).eval args s none [] s = some (.int 7) from rfl)
  have hd : xs.length.toInt32 ≤ 7 := by
    simpa [Cond.before, Cond.holds, hv] using hle
  have hN : xs.length ≤ 7 := (Int32.ofNat_le_ofNat hsm (by decide)).mp (show Int32.ofNat xs.length ≤ Int32.ofNat 7 from hd)
  exact ⟨b, xs, Cond.one_arg hc (show args[0]? = some (.ref b) from hb), hx, hN, h⟩
theorem lw_comes (l : Launch) (hflags : l.flags = flags0) : Comes l x (Jvm.Cond.code x code maxLocals ret :: tables_1) room_1 (fun tb e args s => Calls_1 tb e args s ∧ rest_1 tb e args s ∧ Pre_1 tb e args s)
    (fun _ _ args s o t => lw_Q args s o t) := by
  intro p e ha hc hk s m args below hf hfit hheap happ hpre
  obtain ⟨b, xs, hP⟩ := lw_pre_spec hpre.2.2 hpre.2.1
  obtain ⟨k, o, h1, h2, h3, hQ⟩ := lw_walk l hflags b xs p e ha hc hk s m args below hf ((Spec.applies_iff_loose hf).mp happ).1 hP trivial
  exact ⟨k, o, h1, h2, h3, hQ⟩
theorem lw_frame {s t : State} {o : Outcome} {args : Array Value} (h : Framed s o t [] 600002 7302232) :
    Framed s o t (fieldLocs frame_1_writes args s ++ arrayLocs frame_1_arrays args s ++ staticLocs frame_1_statics s) 600002 7302232 := h
theorem lw_limb (L : Cond) (hL : ∀ (args : Array Value) (s t : State), L.after args s (.returned (some (.int 1))) t = true) :
    ArmFor flags0 classFile x code maxLocals ret World_1 tables_1 room_1 Calls_1 rest_1 Pre_1
      (fun tb e a s o t => postC L tb e a s o t ∧ Framed s o t (fieldLocs frame_1_writes a s ++ arrayLocs frame_1_arrays a s ++ staticLocs frame_1_statics s) 600002 7302232) := by
  intro l hflags _ _ p e ha hc hk s m args below hf hfit hheap happ hpre
  obtain ⟨k, o, h1, h2, h3, rfl, hF⟩ := lw_comes l hflags p e ha hc hk s m args below hf hfit hheap happ hpre
  exact ⟨k, _, h1, h2, h3, hL args s _, lw_frame hF⟩
theorem i_vc : Claimed_1_1 ∧ Claimed_1_2 := ⟨lw_limb limb_1_1 (fun args s t => by simp [limb_1_1, Cond.after, Cond.holds, Cond.value]), lw_limb limb_1_2 (fun args s t => Cond.after_iff.mpr (by
  first | (rw [show limb_1_2 = Cond.eq .result (.int 1) from rfl, Cond.eq_ints (x := 1) (y := 1) rfl rfl]; simp; done) | (simp [limb_1_2, Cond.value, Term.eval]; done)))⟩

