/-! the reference trades by shares; a step by shares -/
section S62
variable {t t' : sT} {M M' M0 N : sM} {n T b c m o k x y K w : Nat} {p a d h : Int32} {s z : Bool} {L L' l : List Nat} {Q : sRs → sT → Prop}
/-- trades of portions, then takes of portions -/
def mkL (M0 : sM) (o : Nat) (p : Int32) : List Nat → List Nat → sM → Nat → sM
  | x :: l, v :: V, M, T => if 0 < v then mkL M0 o p l V (dbF M T (oB M0 o) (dbM M0 o x) (dbS M0 o x) p (io v)) (dbT (oB M0 o) T) else mkL M0 o p l V M T
  | _, _, M, _ => M
def mkT (b : Nat) : List Nat → Nat → Nat
  | v :: V, T => if 0 < v then mkT b V (dbT b T) else mkT b V T
  | [], T => T
def flL : List Nat → List Nat → sM → sM
  | x :: l, v :: V, M => flL l V (if 0 < v then flF M x (io v) else M)
  | _, _, M => M
theorem Fr_mkL : ∀ (l V : List Nat) (M : sM) (T : Nat), Fr M M' → Fr (mkL M0 o p l V M T) M'
  | [], V, M, T, f => f
  | x :: l, [], M, T, f => f
  | x :: l, v :: V, M, T, f => by
    show Fr (if 0 < v then mkL M0 o p l V (dbF M T (oB M0 o) (dbM M0 o x) (dbS M0 o x) p (io v)) (dbT (oB M0 o) T) else mkL M0 o p l V M T) M'
    split
    · exact Fr_mkL l V _ _ (Fr_dbF f)
    · exact Fr_mkL l V _ _ f
theorem Fr_flL : ∀ (l V : List Nat) (M : sM), Fr M M' → Fr (flL l V M) M'
  | [], V, M, f => f
  | x :: l, [], M, f => f
  | x :: l, v :: V, M, f => by
    show Fr (flL l V (if 0 < v then flF M x (io v) else M)) M'
    split
    · exact Fr_flL l V _ (Fr_flF f)
    · exact Fr_flL l V _ f
theorem mk_T {s : Bool} : mI (mkF M T c m o p a s) 801 = io (T + 1) := rfl
theorem dbF_T : mI (dbF M T b m o p a) 801 = io (dbT b T) := by
  unfold dbF dbT
  cases snd b with
  | none => exact mk_T
  | some e => exact mk_T
theorem snd_lt (h : b < 3) : snd b = none ∧ fst b = b := by
  unfold snd fst
  exact ⟨if_pos h, if_pos h⟩
theorem mb_db (hb3 : b < 3) : mbF M T b s m o p a true = dbF M T b (bif s then m else o) (bif s then o else m) p a := by
  unfold dbF
  rw [(snd_lt hb3).1, (snd_lt hb3).2]
  rfl
theorem ms3_db : ms3F M T s m o p a = dbF M T 3 (bif s then m else o) (bif s then o else m) p a := by cases s <;> rfl
theorem ms4_db : ms4F M T s m o p a = dbF M T 4 (bif s then m else o) (bif s then o else m) p a := by cases s <;> rfl
theorem portN_len {S : List Nat} {a : Nat} (h : ∀ s, s ∈ S → 1 ≤ s) : (portN S a).length = S.length := leL_len (portN_le h)
theorem leL_b : ∀ {V S : List Nat} {B : Nat}, leL V S → (∀ s, s ∈ S → s ≤ B) → ∀ v, v ∈ V → v ≤ B
  | [], [], _, _, _, v, hv => by cases hv
  | u :: V, s :: S, B, h, hb, v, hv => by
    rcases List.mem_cons.mp hv with e | e
    · rw [e]; exact Nat.le_trans h.1 (hb s List.mem_cons_self)
    · exact leL_b h.2 (fun s2 hs => hb s2 (List.mem_cons_of_mem s hs)) v e
  | [], _ :: _, _, h, _, _, _ => by cases h
  | _ :: _, [], _, h, _, _, _ => by cases h
theorem Sh_b (hS : Sh M L) : ∀ s, s ∈ L.map (shN M) → s ≤ 100 := fun s hs => by
  obtain ⟨x, hx, e⟩ := List.mem_map.mp hs
  rw [← e]; exact (hS x hx).2.2
/-- the state that a trade by shares leaves -/
def shrF (M : sM) (n T o : Nat) (p : Int32) (A : Nat) (L : List Nat) : sM := reF (ofF (flL L (portN (L.map (shN M)) A) (mkL M o p L (portN (L.map (shN M)) A) M T)) o (io (min (L.map (shN M)).sum A))) n (oB M o) p
/-! a step -/
end S62
