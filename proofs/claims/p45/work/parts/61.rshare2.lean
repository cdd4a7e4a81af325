/-! the reference's amounts and trades by shares -/
section S61
variable {t t' : sT} {M M' M0 : sM} {n T b c m o k x y K w : Nat} {p a d h : Int32} {s z : Bool} {L L' l : List Nat} {Q : sRs → sT → Prop}
theorem Vr_28 {v : Int32} (hV : Vr t M n) : Vr (sAw t 21 28 k v) M n := Vr_mk hV ((rp_As rfl).trans hV.1) cp_A (Fr.refl M)
theorem TkL_28 {v : Int32} (h : TkL t L) : TkL (sAw t 21 28 k v) L := ⟨h.1, fun i hi => h.2 i hi⟩
/-- amounts from a place on -/
def Am (t : sT) (k : Nat) (V : List Nat) : Prop := ∀ i, i < V.length → sA t 21 28 (k + i) = io (V.getD i 0)
theorem Am_c {v : Nat} {V : List Nat} (h : Am t k (v :: V)) : sA t 21 28 k = io v ∧ Am t (k + 1) V := by
  refine ⟨h 0 (Nat.succ_pos _), fun i hi => ?_⟩
  have h1 := h (i + 1) (Nat.succ_lt_succ hi)
  rw [show k + 1 + i = k + (i + 1) by omega]
  exact h1
theorem Am_cons {v : Nat} {V : List Nat} (h0 : sA t 21 28 k = io v) (h : Am t (k + 1) V) : Am t k (v :: V) := by
  intro i hi
  cases i with
  | zero => exact h0
  | succ i =>
    rw [show k + (i + 1) = k + 1 + i by omega]
    exact h i (Nat.lt_of_succ_lt_succ hi)
theorem Am_sp {V : List Nat} (hs : sp t' = sp t) (h : Am t k V) : Am t' k V := fun i hi => (am_sp hs).trans (h i hi)
theorem am_w {v : Int32} : sA (sAw t 21 28 x v) 21 28 y = if y = x then v else sA t 21 28 y := by
  show (if 21 = 21 ∧ 28 = 28 ∧ y = x then v else sA t 21 28 y) = _
  by_cases e : y = x
  · rw [if_pos ⟨rfl, rfl, e⟩, if_pos e]
  · rw [if_neg (fun q => e q.2.2), if_neg e]
end S61
