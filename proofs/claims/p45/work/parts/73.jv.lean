/-! what a step keeps: stamps of resting orders differ, states of the others stay -/
section S73
variable {M M' M0 N : sM} {n T b c m o k x y K w f v : Nat} {p a d sz : Int32} {s z : Bool} {L L' l : List Nat} {V : TV}
def Sd (M : sM) (n : Nat) : Prop := ∀ x y, x < n → y < n → mA M 19 x = 1 → mA M 19 y = 1 → mA M 18 x = mA M 18 y → x = y
def Jv (M : sM) (n : Nat) : Prop := Iv M n ∧ Sd M n
def St (M M' : sM) : Prop := ∀ k, mA M' 19 k = mA M 19 k ∨ mA M 19 k = 1
theorem St.refl (M : sM) : St M M := fun _ => Or.inl rfl
theorem St.trans (h1 : St M M') (h2 : St M' N) : St M N := fun k => by
  rcases h2 k with e | e
  · rcases h1 k with e2 | e2
    · exact Or.inl (e.trans e2)
    · exact Or.inr e2
  · rcases h1 k with e2 | e2
    · exact Or.inr (e2 ▸ e)
    · exact Or.inr e2
theorem St_eq (h : mA M' 19 = mA M 19) : St M M' := fun k => Or.inl (congrFun h k)
theorem Sd_mono (h : Sd M n) (hk : ∀ k, mA M' 19 k = 1 → mA M 19 k = 1 ∧ mA M' 18 k = mA M 18 k) : Sd M' n := fun x y hx hy h1 h2 e => by
  obtain ⟨g1, g2⟩ := hk x h1
  obtain ⟨g3, g4⟩ := hk y h2
  exact h x y hx hy g1 g3 (by rw [← g2, ← g4]; exact e)
theorem Sd_eq (h : Sd M n) (h18 : mA M' 18 = mA M 18) (h19 : mA M' 19 = mA M 19) : Sd M' n := Sd_mono h (fun k h1 => ⟨by rw [← h19]; exact h1, congrFun h18 k⟩)
theorem Jv_same (h : Jv M n) (h15 : mA M' 15 = mA M 15) (h16 : mA M' 16 = mA M 16) (h17 : mA M' 17 = mA M 17) (h18 : mA M' 18 = mA M 18) (h19 : mA M' 19 = mA M 19) (h3 : mA M' 3 = mA M 3) (h14 : mA M' 14 = mA M 14) (h800 : mI M' 800 = mI M 800) : Jv M' n := ⟨Iv_same h.1 h15 h16 h17 h18 h19 h3 h14 h800, Sd_eq h.2 h18 h19⟩
theorem Jv_re (h : Jv M n) : Jv (reF M k b p) n := by
  rw [reF_eq]
  exact Jv_same h rfl rfl rfl rfl rfl rfl rfl rfl
theorem re_0 : mA (reF M k b p) 0 = mA M 0 := by rw [reF_eq]; rfl
theorem Jv_pt (h : Jv M n) : Jv (pt1 M N) n := Jv_same h rfl rfl rfl rfl rfl rfl rfl rfl
theorem Jv_ph {v : Int32} (h : Jv M n) : Jv (mAw M 0 c v) n := Jv_same h rfl rfl rfl rfl rfl rfl rfl rfl
theorem Jv_tk (h : Jv M n) (hx : x < n) (hs : ¬ mA M 19 x = 1) (hv : v ≤ lfN M x) : Jv (tkF M x (io v)) n := ⟨Iv_tk h.1 hx hs hv, Sd_eq h.2 rfl rfl⟩
theorem cn_19 : mA (cnF M x) 19 k = if k = x then 3 else mA M 19 k := by
  by_cases e : k = x
  · rw [if_pos e, e]; exact if_pos ⟨rfl, rfl⟩
  · rw [if_neg e]; exact aw_o (M := M) (B := 19) (v := 3) e
theorem Jv_cn (h : Jv M n) (hx : x < n) : Jv (cnF M x) n := ⟨Iv_cn h.1 hx, Sd_mono h.2 (fun k h1 => by
  rw [cn_19] at h1
  by_cases e : k = x
  · rw [if_pos e] at h1; exact absurd h1 (by decide)
  · rw [if_neg e] at h1; exact ⟨h1, rfl⟩)⟩
theorem own_19 : ∀ {l : List Nat} {M : sM}, mA (ownF m l M) 19 k = mA M 19 k ∨ (k ∈ l ∧ mA (ownF m l M) 19 k = 3)
  | [], M => Or.inl rfl
  | x :: l, M => by
    have e : ownF m (x :: l) M = ownF m l (bif decide (oM M x = m) then cnF M x else M) := rfl
    rw [e]
    cases decide (oM M x = m) with
    | false =>
      rcases (own_19 : mA (ownF m l M) 19 k = mA M 19 k ∨ (k ∈ l ∧ mA (ownF m l M) 19 k = 3)) with h | h
      · exact Or.inl h
      · exact Or.inr ⟨List.mem_cons_of_mem x h.1, h.2⟩
    | true =>
      rcases (own_19 : mA (ownF m l (cnF M x)) 19 k = mA (cnF M x) 19 k ∨ (k ∈ l ∧ mA (ownF m l (cnF M x)) 19 k = 3)) with h | h
      · have h2 : mA (ownF m l (bif true then cnF M x else M)) 19 k = mA (cnF M x) 19 k := h
        rw [h2, cn_19]
        by_cases ek : k = x
        · rw [if_pos ek]; exact Or.inr ⟨by rw [ek]; exact List.mem_cons_self, rfl⟩
        · rw [if_neg ek]; exact Or.inl rfl
      · exact Or.inr ⟨List.mem_cons_of_mem x h.1, h.2⟩
theorem own_3 : ∀ {l : List Nat} {M : sM}, mA M 19 k = 3 → mA (ownF m l M) 19 k = 3 := fun {l M} h => by
  rcases own_19 (m := m) (k := k) (l := l) (M := M) with h2 | h2
  · exact h2.trans h
  · exact h2.2
theorem own_ex : ∀ {l : List Nat} {M : sM}, ownB M m l = true → ∃ k, k ∈ l ∧ mA (ownF m l M) 19 k = 3
  | [], M, h => by cases h
  | x :: l, M, h => by
    have e : ownF m (x :: l) M = ownF m l (bif decide (oM M x = m) then cnF M x else M) := rfl
    rw [e]
    have hB : ownB M m (x :: l) = (decide (oM M x = m) || ownB M m l) := rfl
    rw [hB] at h
    cases hd : decide (oM M x = m) with
    | true =>
      refine ⟨x, List.mem_cons_self, ?_⟩
      show mA (ownF m l (cnF M x)) 19 x = 3
      exact own_3 (by rw [cn_19, if_pos rfl])
    | false =>
      rw [hd] at h
      obtain ⟨k, h1, h2⟩ := own_ex (M := M) (l := l) h
      exact ⟨k, List.mem_cons_of_mem x h1, h2⟩
theorem Jv_own : ∀ {l : List Nat} {M : sM}, Jv M n → (∀ x, x ∈ l → x < n) → Jv (ownF m l M) n
  | [], _, h, _ => h
  | x :: l, M, h, hx => by
    show Jv (ownF m l (bif decide (oM M x = m) then cnF M x else M)) n
    refine Jv_own ?_ (fun y hy => hx y (List.mem_cons_of_mem x hy))
    cases decide (oM M x = m)
    · exact h
    · exact Jv_cn h (hx x List.mem_cons_self)
theorem own_0 : ∀ {l : List Nat} {M : sM}, mA (ownF m l M) 0 = mA M 0
  | [], _ => rfl
  | x :: l, M => by
    show mA (ownF m l (bif decide (oM M x = m) then cnF M x else M)) 0 = mA M 0
    rw [own_0]
    cases decide (oM M x = m) <;> rfl
theorem Sd_fl (h : Jv M n) (hx : x < n) (hs : mA M 19 x = 1) (hv1 : 1 ≤ v) (hv : v ≤ shN M x) : Sd (flF M x (io v)) n := by
  have h0 := Iv_st h.1
  have nw : (∀ k, k < n → ¬ k = x → mA (flF M x (io v)) 19 k = 1 → ¬ mA (flF M x (io v)) 18 k = mA M 18 x → ¬ mA (flF M x (io v)) 18 k = mA (flF M x (io v)) 18 x) := fun k hk hn h1 h2 e => by
    rw [fl_o hn (by decide)] at h2 e
    obtain ⟨_, w⟩ := fl_val h.1 hx hs hv1 hv
    rcases w with ⟨_, _, u3, _⟩ | ⟨_, _, ⟨_, _, u3, _⟩ | ⟨_, _, u3, _⟩⟩
    · rw [u3] at e; exact h2 e
    · rw [u3] at e; exact h2 e
    · rw [u3, h.1.2.1, io_succ] at e
      obtain ⟨_, _, _, _, _, _, _, g, _⟩ := h.1.1 k hk
      rw [e, io_int (by omega)] at g
      omega
  have old : ∀ k, k < n → ¬ k = x → mA (flF M x (io v)) 19 k = 1 → ¬ mA (flF M x (io v)) 18 k = mA M 18 x := fun k hk hn h1 e => by
    rw [fl_o hn (by decide)] at h1 e
    exact hn (h.2 k x hk hx h1 hs e)
  intro u w hu hw h1 h2 e
  by_cases e1 : u = x
  · by_cases e2 : w = x
    · rw [e1, e2]
    · rw [e1] at e
      exact absurd e.symm (nw w hw e2 h2 (old w hw e2 h2))
  · by_cases e2 : w = x
    · rw [e2] at e
      exact absurd e (nw u hu e1 h1 (old u hu e1 h1))
    · rw [fl_o e1 (by decide)] at h1 e
      rw [fl_o e2 (by decide)] at h2 e
      exact h.2 u w hu hw h1 h2 e
theorem Jv_fl (h : Jv M n) (hx : x < n) (hs : mA M 19 x = 1) (hv1 : 1 ≤ v) (hv : v ≤ shN M x) : Jv (flF M x (io v)) n := ⟨Iv_fl h.1 hx hs hv1 hv, Sd_fl h hx hs hv1 hv⟩
theorem St_fl (hs : mA M 19 x = 1) : St M (flF M x a) := fun k => by
  by_cases e : k = x
  · exact Or.inr (e ▸ hs)
  · exact Or.inl (fl_o e (by decide))
theorem J_flL : ∀ {l V : List Nat} {M : sM}, Jv M n → (∀ x, x ∈ l → x < n ∧ mA M 19 x = 1) → l.Nodup → leL V (l.map (shN M)) → Jv (flL l V M) n ∧ St M (flL l V M) ∧ mA (flL l V M) 0 = mA M 0
  | [], _, _, h, _, _, _ => ⟨h, St.refl _, rfl⟩
  | x :: l, [], _, h, _, _, hV => by cases hV
  | x :: l, v :: V, M, h, hx, hN, hV => by
    have hN2 := List.nodup_cons.mp hN
    obtain ⟨h1, h2⟩ := hx x List.mem_cons_self
    have hv : v ≤ shN M x := hV.1
    have hV2 : leL V (l.map (shN M)) := hV.2
    have hne : ∀ y, y ∈ l → ¬ y = x := fun y hy e => hN2.1 (by rw [← e]; exact hy)
    have e : flL (x :: l) (v :: V) M = flL l V (if 0 < v then flF M x (io v) else M) := rfl
    rw [e]
    by_cases h0 : 0 < v
    · rw [if_pos h0]
      obtain ⟨i1, i2, i3⟩ := J_flL (l := l) (V := V) (Jv_fl h h1 h2 h0 hv) (fun y hy => ⟨(hx y (List.mem_cons_of_mem x hy)).1, (st_flF (hne y hy)).trans (hx y (List.mem_cons_of_mem x hy)).2⟩) hN2.2 (by
        rw [List.map_congr_left (g := shN M) (fun y hy => shN_o (hne y hy))]
        exact hV2)
      exact ⟨i1, (St_fl h2).trans i2, i3.trans (fl_A rfl)⟩
    · rw [if_neg h0]
      exact J_flL h (fun y hy => hx y (List.mem_cons_of_mem x hy)) hN2.2 hV2
theorem J_flS (hv1 : 1 ≤ v) : ∀ {l : List Nat} {M : sM}, Jv M n → (∀ x, x ∈ l → x < n ∧ mA M 19 x = 1 ∧ v ≤ shN M x) → l.Nodup → Jv (flS (io v) l M) n ∧ St M (flS (io v) l M) ∧ mA (flS (io v) l M) 0 = mA M 0
  | [], _, h, _, _ => ⟨h, St.refl _, rfl⟩
  | x :: l, M, h, hx, hN => by
    have hN2 := List.nodup_cons.mp hN
    obtain ⟨h1, h2, h3⟩ := hx x List.mem_cons_self
    have hne : ∀ y, y ∈ l → ¬ y = x := fun y hy e => hN2.1 (by rw [← e]; exact hy)
    have e : flS (io v) (x :: l) M = flS (io v) l (flF M x (io v)) := rfl
    rw [e]
    obtain ⟨i1, i2, i3⟩ := J_flS hv1 (l := l) (Jv_fl h h1 h2 hv1 h3) (fun y hy => ⟨(hx y (List.mem_cons_of_mem x hy)).1, (st_flF (hne y hy)).trans (hx y (List.mem_cons_of_mem x hy)).2.1, by rw [shN_o (hne y hy)]; exact (hx y (List.mem_cons_of_mem x hy)).2.2⟩) hN2.2
    exact ⟨i1, (St_fl h2).trans i2, i3.trans (fl_A rfl)⟩
theorem flS_o (hy : ¬ y ∈ L) {A : Nat} (hA : ¬ A = 26) : ∀ (M : sM), mA (flS sz L M) A y = mA M A y := by
  induction L with
  | nil => intro M; rfl
  | cons x l ih =>
    intro M
    show mA (flS sz l (flF M x sz)) A y = mA M A y
    rw [ih (fun e => hy (List.mem_cons_of_mem x e))]
    exact fl_o (fun e => hy (by rw [e]; exact List.mem_cons_self)) hA
theorem J_rfL : ∀ {l : List Nat} {M : sM}, Jv M n → Jv (rfL M0 n l M) n ∧ mA (rfL M0 n l M) 19 = mA M 19 ∧ mA (rfL M0 n l M) 0 = mA M 0 ∧ mA (rfL M0 n l M) 15 = mA M 15
  | [], _, h => ⟨h, rfl, rfl, rfl⟩
  | x :: l, M, h => by
    have e : rfL M0 n (x :: l) M = rfL M0 n l (reF M n (oB M0 x) (mA M0 14 x)) := rfl
    rw [e]
    have ih : Jv (rfL M0 n l (reF M n (oB M0 x) (mA M0 14 x))) n ∧ mA (rfL M0 n l (reF M n (oB M0 x) (mA M0 14 x))) 19 = mA (reF M n (oB M0 x) (mA M0 14 x)) 19 ∧ mA (rfL M0 n l (reF M n (oB M0 x) (mA M0 14 x))) 0 = mA (reF M n (oB M0 x) (mA M0 14 x)) 0 ∧ mA (rfL M0 n l (reF M n (oB M0 x) (mA M0 14 x))) 15 = mA (reF M n (oB M0 x) (mA M0 14 x)) 15 := J_rfL (Jv_re h)
    obtain ⟨i1, i2, i3, i4⟩ := ih
    exact ⟨i1, i2.trans re_st, i3.trans re_0, i4.trans (by rw [reF_eq]; rfl)⟩
def szN (M : sM) : List Nat → Nat → Nat
  | [], a => a
  | x :: l, a => szN M l (min (shN M x) a)
theorem szF_io : ∀ {l : List Nat} {a : Nat}, Sh M l → a ≤ 100 → szF M l (io a) = io (szN M l a)
  | [], _, _, _ => rfl
  | x :: l, a, hS, ha => by
    obtain ⟨h1, h2, h3⟩ := hS x List.mem_cons_self
    show szF M l (mnc (mA M 17 x) (io a)) = io (szN M l (min (shN M x) a))
    rw [h1, mnc_io (by omega) (by omega)]
    exact szF_io (Sh_tl hS) (by omega)
theorem szN_b : ∀ {l : List Nat} {a : Nat}, Sh M l → 1 ≤ a → 1 ≤ szN M l a ∧ szN M l a ≤ a ∧ ∀ x, x ∈ l → szN M l a ≤ shN M x
  | [], _, _, h => ⟨h, Nat.le_refl _, fun x hx => by cases hx⟩
  | x :: l, a, hS, ha => by
    obtain ⟨h1, h2, h3⟩ := hS x List.mem_cons_self
    have e : szN M (x :: l) a = szN M l (min (shN M x) a) := rfl
    rw [e]
    obtain ⟨i1, i2, i3⟩ := szN_b (l := l) (a := min (shN M x) a) (Sh_tl hS) (by omega)
    refine ⟨i1, by omega, fun y hy => ?_⟩
    rcases List.mem_cons.mp hy with e | e
    · rw [e]; omega
    · exact i3 y e
end S73
