/-! order, now, stop: the class and the reference (printed by gen99d.py) -/
def okO (b : Nat) (p a h : Int32) : Bool := prB b p && (inB a 1 100 && inB h 1 a)
def okN (b : Nat) (p a : Int32) : Bool := prB b p && inB a 1 100
def okS (b : Nat) (p a h : Int32) : Bool := prB b p && (inB a 1 100 && prB b h)
def okQ (b : Nat) (p u a : Int32) : Bool := prB b p && (prB b u && (decide (p < u) && inB a 1 100))
def stO (M : sM) (n m b : Nat) : Bool := !(decide (mA M 0 b = 0)) && (!(mB M 2 m) && decide (n < 200))
def stN' (M : sM) (n m b : Nat) : Bool := decide (mA M 0 b = 2) && (!(mB M 2 m) && decide (n < 200))
def stQ (M : sM) (n m b : Nat) : Bool := !(decide (mA M 0 b = 0)) && (!(mB M 2 m) && decide (n ≤ 198))
section S99d
variable {t t' t0 u : sT} {M M' M0 N : sM} {n T A B b c m o k x y K w v j F e f : Nat} {p a h d sz : Int32} {s z : Bool} {L L' l : List Nat} {r r0 : Option Nat} {y0 y1 y2 : sV} {Q : sRs → sT → Prop}
theorem snd_n : ∀ {b : Nat}, b < 5 → snd b = none → b < 3 := fun {b} => (by decide : ∀ b, b < 5 → snd b = none → b < 3) b
theorem snd_s {j : Nat} (hb : b < 5) (h : snd b = some j) : ¬ b < 3 := fun g => (by decide : ∀ b, b < 3 → ¬ (snd b).isSome = true) b g (by rw [h]; rfl)

theorem n94q (hW : Wc t M n T L A B) (hm : m < 6) (hb : b < 5)
    (k1 : okO b p a h = false → Q (.inr 1) (sThr t))
    (k2 : okO b p a h = true → stO M n m b = false → Q (.inr 2) (sThr t))
    (k3 : okO b p a h = true → stO M n m b = true → X 138 0 [.inr (.inr (11, (some 0))), .inr (.inr (7, (some m))), .inr (.inr (1, (some b))), .inl (bz s), .inl a, sJk] [] t (sK 138 94 68 [.inr (.inr (11, (some 0))), .inl (io m), .inl (io b), .inl (bz s), .inl p, .inl a, .inl h, .inr (.inr (7, (some m))), .inr (.inr (1, (some b))), sJk] [] Q)) :
    X 94 0 [.inr (.inr (11, (some 0))), .inl (io m), .inl (io b), .inl (bz s), .inl p, .inl a, .inl h, sJk, sJk, sJk] [] t Q := by
  have hn2 := W_n hW
  refine n94 hW hm hb (by omega) ?_ ?_ ?_ ?_ ?_ ?_ ?_ ?_ ?_ ?_ ?_ ?_ ?_ ?_ ?_ ?_ ?_ ?_ ?_ ?_
  · intro c0 c1; exact k1 (by simp [okO, stO, prB, inB, snd_n hb c0, c1])
  · intro c0 c1 c2 c3; exact k1 (by simp [okO, stO, prB, inB, snd_n hb c0, c1, c2, c3])
  · intro c0 c1 c2 c3 c4 c5; exact k1 (by simp [okO, stO, prB, inB, snd_n hb c0, c1, c2, c3, c4, c5])
  · intro c0 c1 c2 c3 c4 c5 c6 c7; exact k2 (by simp [okO, stO, prB, inB, snd_n hb c0, c1, c2, c3, c4, c5, c6, c7]) (by simp [okO, stO, prB, inB, snd_n hb c0, c1, c2, c3, c4, c5, c6, c7])
  · intro c0 c1 c2 c3 c4 c5 c6 c7 c8; exact k2 (by simp [okO, stO, prB, inB, snd_n hb c0, c1, c2, c3, c4, c5, c6, c7, c8]) (by simp [okO, stO, prB, inB, snd_n hb c0, c1, c2, c3, c4, c5, c6, c7, c8])
  · intro c0 c1 c2 c3 c4 c5 c6 c7 c8 c9; exact k2 (by simp [okO, stO, prB, inB, snd_n hb c0, c1, c2, c3, c4, c5, c6, c7, c8, (show ¬ n < 200 by omega)]) (by simp [okO, stO, prB, inB, snd_n hb c0, c1, c2, c3, c4, c5, c6, c7, c8, (show ¬ n < 200 by omega)])
  · intro c0 c1 c2 c3 c4 c5 c6 c7 c8 c9; exact k3 (by simp [okO, stO, prB, inB, snd_n hb c0, c1, c2, c3, c4, c5, c6, c7, c8, (show n < 200 by omega)]) (by simp [okO, stO, prB, inB, snd_n hb c0, c1, c2, c3, c4, c5, c6, c7, c8, (show n < 200 by omega)])
  · intro c0 c1 c2 c3 c4 c5 c6; exact k1 (by simp [okO, stO, prB, inB, snd_n hb c0, c1, c2, c3, c4, c5, c6])
  · intro c0 c1 c2 c3 c4; exact k1 (by simp [okO, stO, prB, inB, snd_n hb c0, c1, c2, c3, c4])
  · intro c0 c1 c2; exact k1 (by simp [okO, stO, prB, inB, snd_n hb c0, c1, c2])
  · intro j0 c0 c1; exact k1 (by simp [okO, stO, prB, inB, snd_s hb c0, c1])
  · intro j0 c0 c1 c2 c3; exact k1 (by simp [okO, stO, prB, inB, snd_s hb c0, c1, c2, c3])
  · intro j0 c0 c1 c2 c3 c4 c5; exact k1 (by simp [okO, stO, prB, inB, snd_s hb c0, c1, c2, c3, c4, c5])
  · intro j0 c0 c1 c2 c3 c4 c5 c6 c7; exact k2 (by simp [okO, stO, prB, inB, snd_s hb c0, c1, c2, c3, c4, c5, c6, c7]) (by simp [okO, stO, prB, inB, snd_s hb c0, c1, c2, c3, c4, c5, c6, c7])
  · intro j0 c0 c1 c2 c3 c4 c5 c6 c7 c8; exact k2 (by simp [okO, stO, prB, inB, snd_s hb c0, c1, c2, c3, c4, c5, c6, c7, c8]) (by simp [okO, stO, prB, inB, snd_s hb c0, c1, c2, c3, c4, c5, c6, c7, c8])
  · intro j0 c0 c1 c2 c3 c4 c5 c6 c7 c8 c9; exact k2 (by simp [okO, stO, prB, inB, snd_s hb c0, c1, c2, c3, c4, c5, c6, c7, c8, (show ¬ n < 200 by omega)]) (by simp [okO, stO, prB, inB, snd_s hb c0, c1, c2, c3, c4, c5, c6, c7, c8, (show ¬ n < 200 by omega)])
  · intro j0 c0 c1 c2 c3 c4 c5 c6 c7 c8 c9; exact k3 (by simp [okO, stO, prB, inB, snd_s hb c0, c1, c2, c3, c4, c5, c6, c7, c8, (show n < 200 by omega)]) (by simp [okO, stO, prB, inB, snd_s hb c0, c1, c2, c3, c4, c5, c6, c7, c8, (show n < 200 by omega)])
  · intro j0 c0 c1 c2 c3 c4 c5 c6; exact k1 (by simp [okO, stO, prB, inB, snd_s hb c0, c1, c2, c3, c4, c5, c6])
  · intro j0 c0 c1 c2 c3 c4; exact k1 (by simp [okO, stO, prB, inB, snd_s hb c0, c1, c2, c3, c4])
  · intro j0 c0 c1 c2; exact k1 (by simp [okO, stO, prB, inB, snd_s hb c0, c1, c2])
theorem n95q (hW : Wc t M n T L A B) (hm : m < 6) (hb : b < 5)
    (k1 : okN b p a = false → Q (.inr 1) (sThr t))
    (k2 : okN b p a = true → stN' M n m b = false → Q (.inr 2) (sThr t))
    (k3 : okN b p a = true → stN' M n m b = true → X 138 0 [.inr (.inr (11, (some 0))), .inr (.inr (7, (some m))), .inr (.inr (1, (some b))), .inl (bz s), .inl a, sJk] [] t (sK 138 95 61 [.inr (.inr (11, (some 0))), .inl (io m), .inl (io b), .inl (bz s), .inl p, .inl a, .inr (.inr (7, (some m))), .inr (.inr (1, (some b))), sJk] [] Q)) :
    X 95 0 [.inr (.inr (11, (some 0))), .inl (io m), .inl (io b), .inl (bz s), .inl p, .inl a, sJk, sJk, sJk] [] t Q := by
  have hn2 := W_n hW
  refine n95 hW hm hb (by omega) ?_ ?_ ?_ ?_ ?_ ?_ ?_ ?_ ?_ ?_ ?_ ?_ ?_ ?_ ?_ ?_
  · intro c0 c1; exact k1 (by simp [okN, stN', prB, inB, snd_n hb c0, c1])
  · intro c0 c1 c2 c3; exact k1 (by simp [okN, stN', prB, inB, snd_n hb c0, c1, c2, c3])
  · intro c0 c1 c2 c3 c4 c5; exact k2 (by simp [okN, stN', prB, inB, snd_n hb c0, c1, c2, c3, c4, c5]) (by simp [okN, stN', prB, inB, snd_n hb c0, c1, c2, c3, c4, c5])
  · intro c0 c1 c2 c3 c4 c5 c6; exact k2 (by simp [okN, stN', prB, inB, snd_n hb c0, c1, c2, c3, c4, c5, c6]) (by simp [okN, stN', prB, inB, snd_n hb c0, c1, c2, c3, c4, c5, c6])
  · intro c0 c1 c2 c3 c4 c5 c6 c7; exact k2 (by simp [okN, stN', prB, inB, snd_n hb c0, c1, c2, c3, c4, c5, c6, (show ¬ n < 200 by omega)]) (by simp [okN, stN', prB, inB, snd_n hb c0, c1, c2, c3, c4, c5, c6, (show ¬ n < 200 by omega)])
  · intro c0 c1 c2 c3 c4 c5 c6 c7; exact k3 (by simp [okN, stN', prB, inB, snd_n hb c0, c1, c2, c3, c4, c5, c6, (show n < 200 by omega)]) (by simp [okN, stN', prB, inB, snd_n hb c0, c1, c2, c3, c4, c5, c6, (show n < 200 by omega)])
  · intro c0 c1 c2 c3 c4; exact k1 (by simp [okN, stN', prB, inB, snd_n hb c0, c1, c2, c3, c4])
  · intro c0 c1 c2; exact k1 (by simp [okN, stN', prB, inB, snd_n hb c0, c1, c2])
  · intro j0 c0 c1; exact k1 (by simp [okN, stN', prB, inB, snd_s hb c0, c1])
  · intro j0 c0 c1 c2 c3; exact k1 (by simp [okN, stN', prB, inB, snd_s hb c0, c1, c2, c3])
  · intro j0 c0 c1 c2 c3 c4 c5; exact k2 (by simp [okN, stN', prB, inB, snd_s hb c0, c1, c2, c3, c4, c5]) (by simp [okN, stN', prB, inB, snd_s hb c0, c1, c2, c3, c4, c5])
  · intro j0 c0 c1 c2 c3 c4 c5 c6; exact k2 (by simp [okN, stN', prB, inB, snd_s hb c0, c1, c2, c3, c4, c5, c6]) (by simp [okN, stN', prB, inB, snd_s hb c0, c1, c2, c3, c4, c5, c6])
  · intro j0 c0 c1 c2 c3 c4 c5 c6 c7; exact k2 (by simp [okN, stN', prB, inB, snd_s hb c0, c1, c2, c3, c4, c5, c6, (show ¬ n < 200 by omega)]) (by simp [okN, stN', prB, inB, snd_s hb c0, c1, c2, c3, c4, c5, c6, (show ¬ n < 200 by omega)])
  · intro j0 c0 c1 c2 c3 c4 c5 c6 c7; exact k3 (by simp [okN, stN', prB, inB, snd_s hb c0, c1, c2, c3, c4, c5, c6, (show n < 200 by omega)]) (by simp [okN, stN', prB, inB, snd_s hb c0, c1, c2, c3, c4, c5, c6, (show n < 200 by omega)])
  · intro j0 c0 c1 c2 c3 c4; exact k1 (by simp [okN, stN', prB, inB, snd_s hb c0, c1, c2, c3, c4])
  · intro j0 c0 c1 c2; exact k1 (by simp [okN, stN', prB, inB, snd_s hb c0, c1, c2])
theorem n96q (hW : Wc t M n T L A B) (hm : m < 6) (hb : b < 5)
    (k1 : okS b p a h = false → Q (.inr 1) (sThr t))
    (k2 : okS b p a h = true → stO M n m b = false → Q (.inr 2) (sThr t))
    (k3 : okS b p a h = true → stO M n m b = true → X 138 0 [.inr (.inr (11, (some 0))), .inr (.inr (7, (some m))), .inr (.inr (1, (some b))), .inl (bz s), .inl a, sJk] [] t (sK 138 96 67 [.inr (.inr (11, (some 0))), .inl (io m), .inl (io b), .inl (bz s), .inl p, .inl a, .inl h, .inr (.inr (7, (some m))), .inr (.inr (1, (some b))), sJk] [] Q)) :
    X 96 0 [.inr (.inr (11, (some 0))), .inl (io m), .inl (io b), .inl (bz s), .inl p, .inl a, .inl h, sJk, sJk, sJk] [] t Q := by
  have hn2 := W_n hW
  refine n96 hW hm hb (by omega) ?_ ?_ ?_ ?_ ?_ ?_ ?_ ?_ ?_ ?_ ?_ ?_ ?_ ?_ ?_ ?_ ?_ ?_ ?_ ?_ ?_ ?_ ?_ ?_ ?_ ?_
  · intro c0 c1; exact k1 (by simp [okS, stO, prB, inB, snd_n hb c0, c1])
  · intro c0 c1 c2 c3; exact k1 (by simp [okS, stO, prB, inB, snd_n hb c0, c1, c2, c3])
  · intro c0 c1 c2 c3 c4 c5 c6; exact k1 (by simp [okS, stO, prB, inB, snd_n hb c0, c1, c2, c3, c4, snd_n hb c5, c6])
  · intro c0 c1 c2 c3 c4 c5 c6 c7 c8; exact k2 (by simp [okS, stO, prB, inB, snd_n hb c0, c1, c2, c3, c4, snd_n hb c5, c6, c7, c8]) (by simp [okS, stO, prB, inB, snd_n hb c0, c1, c2, c3, c4, snd_n hb c5, c6, c7, c8])
  · intro c0 c1 c2 c3 c4 c5 c6 c7 c8 c9; exact k2 (by simp [okS, stO, prB, inB, snd_n hb c0, c1, c2, c3, c4, snd_n hb c5, c6, c7, c8, c9]) (by simp [okS, stO, prB, inB, snd_n hb c0, c1, c2, c3, c4, snd_n hb c5, c6, c7, c8, c9])
  · intro c0 c1 c2 c3 c4 c5 c6 c7 c8 c9 c10; exact k2 (by simp [okS, stO, prB, inB, snd_n hb c0, c1, c2, c3, c4, snd_n hb c5, c6, c7, c8, c9, (show ¬ n < 200 by omega)]) (by simp [okS, stO, prB, inB, snd_n hb c0, c1, c2, c3, c4, snd_n hb c5, c6, c7, c8, c9, (show ¬ n < 200 by omega)])
  · intro c0 c1 c2 c3 c4 c5 c6 c7 c8 c9 c10; exact k3 (by simp [okS, stO, prB, inB, snd_n hb c0, c1, c2, c3, c4, snd_n hb c5, c6, c7, c8, c9, (show n < 200 by omega)]) (by simp [okS, stO, prB, inB, snd_n hb c0, c1, c2, c3, c4, snd_n hb c5, c6, c7, c8, c9, (show n < 200 by omega)])
  · intro c0 c1 c2 c3 c4 c5 c6 c7; exact k1 (by simp [okS, stO, prB, inB, snd_n hb c0, c1, c2, c3, c4, snd_n hb c5, c6, c7])
  · intro c0 c1 c2 c3 c4 j1 c5 c6; rw [c0] at c5; cases c5
  · intro c0 c1 c2 c3 c4 j1 c5 c6 c7 c8; rw [c0] at c5; cases c5
  · intro c0 c1 c2 c3 c4 j1 c5 c6 c7 c8 c9; rw [c0] at c5; cases c5
  · intro c0 c1 c2 c3 c4 j1 c5 c6 c7 c8 c9 c10; rw [c0] at c5; cases c5
  · intro c0 c1 c2 c3 c4 j1 c5 c6 c7 c8 c9 c10; rw [c0] at c5; cases c5
  · intro c0 c1 c2 c3 c4 j1 c5 c6 c7; rw [c0] at c5; cases c5
  · intro c0 c1 c2 c3 c4; exact k1 (by simp [okS, stO, prB, inB, snd_n hb c0, c1, c2, c3, c4])
  · intro c0 c1 c2; exact k1 (by simp [okS, stO, prB, inB, snd_n hb c0, c1, c2])
  · intro j0 c0 c1; exact k1 (by simp [okS, stO, prB, inB, snd_s hb c0, c1])
  · intro j0 c0 c1 c2 c3; exact k1 (by simp [okS, stO, prB, inB, snd_s hb c0, c1, c2, c3])
  · intro j0 c0 c1 c2 c3 c4 c5; exact k1 (by simp [okS, stO, prB, inB, snd_s hb c0, c1, c2, c3, c4, c5])
  · intro j0 c0 c1 c2 c3 c4 c5 c6 c7; exact k2 (by simp [okS, stO, prB, inB, snd_s hb c0, c1, c2, c3, c4, c5, c6, c7]) (by simp [okS, stO, prB, inB, snd_s hb c0, c1, c2, c3, c4, c5, c6, c7])
  · intro j0 c0 c1 c2 c3 c4 c5 c6 c7 c8; exact k2 (by simp [okS, stO, prB, inB, snd_s hb c0, c1, c2, c3, c4, c5, c6, c7, c8]) (by simp [okS, stO, prB, inB, snd_s hb c0, c1, c2, c3, c4, c5, c6, c7, c8])
  · intro j0 c0 c1 c2 c3 c4 c5 c6 c7 c8 c9; exact k2 (by simp [okS, stO, prB, inB, snd_s hb c0, c1, c2, c3, c4, c5, c6, c7, c8, (show ¬ n < 200 by omega)]) (by simp [okS, stO, prB, inB, snd_s hb c0, c1, c2, c3, c4, c5, c6, c7, c8, (show ¬ n < 200 by omega)])
  · intro j0 c0 c1 c2 c3 c4 c5 c6 c7 c8 c9; exact k3 (by simp [okS, stO, prB, inB, snd_s hb c0, c1, c2, c3, c4, c5, c6, c7, c8, (show n < 200 by omega)]) (by simp [okS, stO, prB, inB, snd_s hb c0, c1, c2, c3, c4, c5, c6, c7, c8, (show n < 200 by omega)])
  · intro j0 c0 c1 c2 c3 c4 c5 c6; exact k1 (by simp [okS, stO, prB, inB, snd_s hb c0, c1, c2, c3, c4, c5, c6])
  · intro j0 c0 c1 c2 c3 c4; exact k1 (by simp [okS, stO, prB, inB, snd_s hb c0, c1, c2, c3, c4])
  · intro j0 c0 c1 c2; exact k1 (by simp [okS, stO, prB, inB, snd_s hb c0, c1, c2])
end S99d
