/-! the class's three lists (0 trades, 1 orders, 2 taken), and what a call on them leaves as it is -/
def lf (t t' : sT) : Prop := (∀ F, ¬ F = 832 → ¬ F = 834 → sI t' F = sI t F) ∧ sZ t' = sZ t ∧ (∀ F, ¬ F = 833 → sR t' F = sR t F) ∧ sA t' = sA t ∧ sB t' = sB t ∧ (∀ k, ¬ k = 27 → sE t' k = sE t k) ∧ sL t' = sL t ∧ (∀ k o, ¬ (k = 27 ∧ sC t 27 ≤ o) → sN t' k o = sN t k o) ∧ (∀ k, ¬ k = 27 → sC t' k = sC t k) ∧ sC t 27 ≤ sC t' 27
theorem sU1_e {α : Type} (m : Nat → α) (k : Nat) (v : α) : sU1 m k v k = v := if_pos rfl
section S52
variable {t t' t'' : sT} {F o k p n T l : Nat} {M : sM}
theorem lf.refl (t : sT) : lf t t := ⟨fun _ _ _ => rfl, rfl, fun _ _ => rfl, rfl, rfl, fun _ _ => rfl, rfl, fun _ _ _ => rfl, fun _ _ => rfl, Nat.le_refl _⟩
theorem lf.trans (a : lf t t') (b : lf t' t'') : lf t t'' := by
  obtain ⟨a1, a2, a3, a4, a5, a6, a7, a8, a9, a10⟩ := a
  obtain ⟨b1, b2, b3, b4, b5, b6, b7, b8, b9, b10⟩ := b
  exact ⟨fun F h1 h2 => (b1 F h1 h2).trans (a1 F h1 h2), b2.trans a2, fun F h => (b3 F h).trans (a3 F h), b4.trans a4, b5.trans a5, fun k h => (b6 k h).trans (a6 k h), b7.trans a7, fun k o h => (b8 k o (fun z => h ⟨z.1, Nat.le_trans a10 z.2⟩)).trans (a8 k o h), fun k h => (b9 k h).trans (a9 k h), Nat.le_trans a10 b10⟩
theorem lf_I {v : Int32} (h : F = 832 ∨ F = 834) : lf t (sIw t F o v) := ⟨fun F' h1 h2 => funext fun o' => if_neg (fun z => by rcases h with e | e <;> rw [e] at z <;> first | exact h1 z.1 | exact h2 z.1), rfl, fun _ _ => rfl, rfl, rfl, fun _ _ => rfl, rfl, fun _ _ _ => rfl, fun _ _ => rfl, Nat.le_refl _⟩
theorem lf_R {v : Option Nat} : lf t (sRw t 833 o v) := ⟨fun _ _ _ => rfl, rfl, fun F' h1 => funext fun o' => if_neg (fun z => h1 z.1), rfl, rfl, fun _ _ => rfl, rfl, fun _ _ _ => rfl, fun _ _ => rfl, Nat.le_refl _⟩
theorem lf_E {v : Nat × Option Nat} : lf t (sEw t 27 o p v) := ⟨fun _ _ _ => rfl, rfl, fun _ _ => rfl, rfl, rfl, fun k h => funext fun o' => funext fun p' => if_neg (fun z => h z.1), rfl, fun _ _ _ => rfl, fun _ _ => rfl, Nat.le_refl _⟩
theorem lf_N : lf t (sNwA t 27 n) := ⟨fun _ _ _ => rfl, rfl, fun _ _ => rfl, rfl, rfl, fun _ _ => rfl, rfl, fun k o h => if_neg (fun z => h ⟨z.1, Nat.le_of_eq z.2.symm⟩), fun k h => if_neg h, by have : sC (sNwA t 27 n) 27 = sC t 27 + 1 := sU1_e (sC t) 27 (sC t 27 + 1); omega⟩
theorem lf_C {i : Nat} : lf t (sCpy t i n) := ⟨fun _ _ _ => rfl, rfl, fun _ _ => rfl, rfl, rfl, fun k h => funext fun o' => funext fun p' => if_neg (fun z => h z.1), rfl, fun k o h => if_neg (fun z => h ⟨z.1, Nat.le_of_eq z.2.symm⟩), fun k h => if_neg h, by have : sC (sCpy t i n) 27 = sC t 27 + 1 := sU1_e (sC t) 27 (sC t 27 + 1); omega⟩
theorem Cn_lf (h : lf t t') (hc : Cn t) : Cn t' := by
  obtain ⟨a1, a2, a3, a4, a5, a6, a7, a8, a9, a10⟩ := h
  refine ⟨fun q hq => ?_, fun q hq => ?_, fun q hq => ?_, fun q hq => ?_, fun q hq => ?_, fun p => ?_⟩
  · rw [a3 _ ((by decide : ∀ q ∈ sKR, ¬ q.1 = 833) q hq)]; exact hc.1 q hq
  · rw [a8 _ _ (fun z => ?_)]; exact hc.2.1 q hq
    have h1 := (by decide : ∀ q ∈ sKN, q.1 = 27 → q.2.1 = 0) q hq z.1
    have h3 : 0 < sC t 27 := kC_27 hc
    have h4 := z.2
    omega
  · rw [a1 _ ((by decide : ∀ q ∈ sKI, ¬ q.1 = 832) q hq) ((by decide : ∀ q ∈ sKI, ¬ q.1 = 834) q hq)]; exact hc.2.2.1 q hq
  · rw [a6 _ ((by decide : ∀ q ∈ sKE, ¬ q.1 = 27) q hq)]; exact hc.2.2.2.1 q hq
  · by_cases e : q.1 = 27
    · have := hc.2.2.2.2.1 q hq
      rw [e] at this ⊢; omega
    · rw [a9 _ e]; exact hc.2.2.2.2.1 q hq
  · rw [a4]; exact hc.2.2.2.2.2 p
end S52
def lk (l : Nat) : Nat := match l with
  | 0 => 9
  | _ => 8
def l3 (a b c : Nat) (l : Nat) : Nat := match l with
  | 0 => a
  | 1 => b
  | _ => c
def e3 (L : List Nat) (l i : Nat) : Nat := match l with
  | 0 => i
  | 1 => i
  | _ => L.getD i 0
/-- lengths ln, at most m so far; elements le; room A, B and what the lists have -/
def LLd (t : sT) (ln m : Nat → Nat) (le : Nat → Nat → Nat) (A B : Nat) (d w : Nat → Nat) : Prop :=
  (∀ l, l < 3 → Ls t l (lk l) (le l) (ln l) (d l) (w l) ∧ ln l ≤ m l ∧ w l ≤ 2 * m l + 10) ∧ (∀ a b, a < 3 → b < 3 → ¬ a = b → d a = d b → d a = 0) ∧ sn t ≤ A + (w 0 + w 1 + w 2) ∧ sw t ≤ B + 4 * (w 0 + w 1 + w 2)
def up1 (f : Nat → Nat) (l v : Nat) : Nat → Nat := fun l' => if l' = l then v else f l'
def up2 (f : Nat → Nat → Nat) (l i v : Nat) : Nat → Nat → Nat := fun l' i' => if l' = l ∧ i' = i then v else f l' i'
theorem rdIcpy {t : sT} {i n : Nat} {F O : Nat} : sI (sCpy t i n) F O = sI t F O := rfl
theorem sC_nw {t : sT} {n : Nat} : sC (sNwA t 27 n) 27 = sC t 27 + 1 := sU1_e (sC t) 27 (sC t 27 + 1)
theorem sC_cp {t : sT} {i n : Nat} : sC (sCpy t i n) 27 = sC t 27 + 1 := sU1_e (sC t) 27 (sC t 27 + 1)
theorem up1_s (f : Nat → Nat) (l v : Nat) : up1 f l v l = v := if_pos rfl
theorem up1_n {f : Nat → Nat} {l v a : Nat} (h : ¬ a = l) : up1 f l v a = f a := if_neg h
theorem up1_3 {f : Nat → Nat} {l v : Nat} (hl : l < 3) : up1 f l v 0 + up1 f l v 1 + up1 f l v 2 + f l = f 0 + f 1 + f 2 + v := by
  match l, hl with
  | 0, _ => rw [up1_s, up1_n (by decide), up1_n (by decide)]; omega
  | 1, _ => rw [up1_s, up1_n (by decide), up1_n (by decide)]; omega
  | 2, _ => rw [up1_s, up1_n (by decide), up1_n (by decide)]; omega
theorem cap_gw {n m : Nat} (h0 : 0 < n) (h : n + 1 ≤ m) : n + max 1 (n / 2) ≤ 2 * m + 10 := by omega
theorem cap_gs (n : Nat) : n + max 1 (n / 2) ≤ 4 * max 1 (n / 2) := by omega
section S52b
variable {t t' : sT} {ln m m' d w : Nat → Nat} {le : Nat → Nat → Nat} {A B l x : Nat} {Q : sRs → sT → Prop}
/-- a list that another one's change leaves -/
theorem Ls_o {k d' w' n' : Nat} {f : Nat → Nat} {a : Nat} (h : Ls t a k f n' d' w') (h1 : sR t' 833 a = sR t 833 a) (h2 : sI t' 834 a = sI t 834 a) (h3 : sN t' 27 d' = sN t 27 d') (h4 : sC t 27 ≤ sC t' 27) (h5 : ∀ i, i < n' → sE t' 27 d' i = sE t 27 d' i) : Ls t' a k f n' d' w' := by
  obtain ⟨a1, a2, a3, a4, a5, a6, a7⟩ := h
  exact ⟨h1.trans a1, h2.trans a2, h3.trans a3, a4, Nat.lt_of_lt_of_le a5 h4, a6, fun i hi => (h5 i hi).trans (a7 i hi)⟩
theorem y_addA (hl : l < 3) (hn : ln l < 20000) (hs : sI t 834 l = io (ln l)) (hd : sR t 833 l = some (d l)) (hw : sN t 27 (d l) = w l) (hiw : ln l < w l) (hwb : w l < 2 ^ 31)
    (q : Q (.inl (some (.inl (bz true)))) (sIw (sEw (sIw t 832 l ((sI t 832 l) + 1)) 27 (d l) (ln l) (lk l, some x)) 834 l (io (ln l + 1)))) :
    X 254 0 [.inr (.inr (13, (some l))), .inr (.inr (lk l, (some x)))] [] t Q := by
  match l, hl with
  | 0, _ => exact y_addA9 hwb hs hd hw hiw q
  | 1, _ => exact y_addA8 hwb hs hd hw hiw q
  | 2, _ => exact y_addA8 hwb hs hd hw hiw q
theorem y_addB {c : Nat} (hl : l < 3) (hs : sI t 834 l = 0) (hd : sR t 833 l = some 0) (hw : sN t 27 0 = 0) (hC : sC t 27 = c) (hc0 : 0 < c)
    (q : Q (.inl (some (.inl (bz true)))) (sIw (sEw (sRw (sNwA (sIw t 832 l ((sI t 832 l) + 1)) 27 10) 833 l (some c)) 27 c 0 (lk l, some x)) 834 l 1)) :
    X 254 0 [.inr (.inr (13, (some l))), .inr (.inr (lk l, (some x)))] [] t Q := by
  match l, hl with
  | 0, _ => exact y_addB9 hs hd hw hC hc0 q
  | 1, _ => exact y_addB8 hs hd hw hC hc0 q
  | 2, _ => exact y_addB8 hs hd hw hC hc0 q
theorem y_addC {c n d0 : Nat} (hl : l < 3) (hn0 : 0 < n) (hnb : n < 20000) (hd0 : ¬ d0 = 0) (hs : sI t 834 l = io n) (hd : sR t 833 l = some d0) (hw : sN t 27 d0 = n) (hC : sC t 27 = c) (hc0 : 0 < c)
    (q : Q (.inl (some (.inl (bz true)))) (sIw (sEw (sRw (sCpy (sIw t 832 l ((sI t 832 l) + 1)) d0 (n + (max 1 (n / 2)))) 833 l (some c)) 27 c n (lk l, some x)) 834 l (io (n + 1)))) :
    X 254 0 [.inr (.inr (13, (some l))), .inr (.inr (lk l, (some x)))] [] t Q := by
  match l, hl with
  | 0, _ => exact y_addC9 hn0 hnb hd0 hs hd hw hC hc0 q
  | 1, _ => exact y_addC8 hn0 hnb hd0 hs hd hw hC hc0 q
  | 2, _ => exact y_addC8 hn0 hnb hd0 hs hd hw hC hc0 q
theorem y_add (hl : l < 3) (h : LLd t ln m le A B d w) (hn : ∀ a, a < 3 → m' a < 9000) (hm : ln l + 1 ≤ m' l) (hmm : ∀ a, a < 3 → m a ≤ m' a)
    (q : ∀ t' d' w', LLd t' (up1 ln l (ln l + 1)) m' (up2 le l (ln l) x) A B d' w' → lf t t' → Q (.inl (some (.inl (bz true)))) t') :
    X 254 0 [.inr (.inr (13, (some l))), .inr (.inr (lk l, (some x)))] [] t Q := by
  obtain ⟨hL, hD, hsn, hsw⟩ := h
  obtain ⟨⟨a1, a2, a3, a4, a5, a6, a7⟩, a8, a9⟩ := hL l hl
  have hm9 := hn l hl
  have hm8 := hmm l hl
  have hl20 : ln l < 20000 := by omega
  by_cases c1 : ln l < w l
  · -- room left
    have hd0 : ¬ d l = 0 := fun z => by have := a6.mp z; omega
    refine y_addA hl hl20 a2 a1 a3 c1 (by omega) (q _ d w ⟨fun a ha => ?_, hD, hsn, hsw⟩ (((lf_I (Or.inl rfl)).trans lf_E).trans (lf_I (Or.inr rfl))))
    obtain ⟨b0, b8, b9⟩ := hL a ha
    have hma := hmm a ha
    by_cases e : a = l
    · subst e
      rw [up1_s]
      refine ⟨⟨a1, if_pos ⟨rfl, rfl⟩, a3, c1, a5, a6, fun i hi => ?_⟩, hm, by omega⟩
      show (if 27 = 27 ∧ d a = d a ∧ i = ln a then (lk a, some x) else sE t 27 (d a) i) = (lk a, some (if a = a ∧ i = ln a then x else le a i))
      by_cases e2 : i = ln a
      · rw [if_pos ⟨rfl, rfl, e2⟩, if_pos ⟨rfl, e2⟩]
      · rw [if_neg (fun z => e2 z.2.2), if_neg (fun z => e2 z.2)]; exact a7 i (by omega)
    · rw [up1_n e]
      refine ⟨?_, by omega, by omega⟩
      have hf : up2 le l (ln l) x a = le a := funext fun i => if_neg (fun z => e z.1)
      rw [hf]
      refine Ls_o b0 rfl ((rdI_d e).trans (rdIE.trans (rdI_F rfl))) rfl (Nat.le_refl _) (fun i hi => if_neg (fun z => ?_))
      exact hd0 (hD l a hl ha (fun z2 => e z2.symm) z.2.1.symm)
  · have hw0 : ln l = w l := by omega
    have hc0 : 0 < sC t 27 := by omega
    by_cases c2 : w l = 0
    · -- the first one
      have hd0 : d l = 0 := a6.mpr c2
      have hln : ln l = 0 := by omega
      refine y_addB (c := sC t 27) hl (by rw [a2, hln]; rfl) (by rw [a1, hd0]) (by have h0 := a3; rw [hd0] at h0; exact h0.trans c2) rfl hc0 (q _ (up1 d l (sC t 27)) (up1 w l 10) ⟨fun a ha => ?_, fun a b ha hb hab hdd => ?_, ?_, ?_⟩ (((((lf_I (Or.inl rfl)).trans lf_N).trans lf_R).trans lf_E).trans (lf_I (Or.inr rfl))))
      · obtain ⟨b0, b8, b9⟩ := hL a ha
        have hma := hmm a ha
        by_cases e : a = l
        · subst e
          rw [up1_s, up1_s, up1_s, hln]
          refine ⟨⟨if_pos ⟨rfl, rfl⟩, if_pos ⟨rfl, rfl⟩, if_pos ⟨rfl, rfl⟩, by omega, ?_, by omega, fun i hi => ?_⟩, by omega, by omega⟩
          · have h : sC (sNwA (sIw t 832 a ((sI t 832 a) + 1)) 27 10) 27 = sC t 27 + 1 := sC_nw (t := sIw t 832 a ((sI t 832 a) + 1))
            exact Nat.lt_of_lt_of_le (Nat.lt_succ_self _) (Nat.le_of_eq h.symm)
          · have hi0 : i = 0 := by omega
            subst hi0
            show (if 27 = 27 ∧ sC t 27 = sC t 27 ∧ 0 = 0 then (lk a, some x) else _) = (lk a, some (if a = a ∧ 0 = 0 then x else le a 0))
            rw [if_pos ⟨rfl, rfl, rfl⟩, if_pos ⟨rfl, rfl⟩]
        · rw [up1_n e, up1_n e, up1_n e]
          have hf : up2 le l (ln l) x a = le a := funext fun i => if_neg (fun z => e z.1)
          have hda : d a < sC t 27 := b0.2.2.2.2.1
          refine ⟨?_, by omega, by omega⟩
          rw [hf]
          refine Ls_o b0 (if_neg (fun z => e z.2)) ((rdI_d e).trans (rdIE.trans (rdIR.trans (rdInwa.trans (rdI_F rfl))))) (if_neg (fun z => by have h : d a = sC t 27 := z.2; omega)) ?_ (fun i hi => if_neg (fun z => by have h : d a = sC t 27 := z.2.1; omega))
          have h : sC (sNwA (sIw t 832 l ((sI t 832 l) + 1)) 27 10) 27 = sC t 27 + 1 := sC_nw (t := sIw t 832 l ((sI t 832 l) + 1))
          exact Nat.le_of_lt (Nat.lt_of_lt_of_le (Nat.lt_succ_self _) (Nat.le_of_eq h.symm))
      · have hda : d a < sC t 27 := (hL a ha).1.2.2.2.2.1
        have hdb : d b < sC t 27 := (hL b hb).1.2.2.2.2.1
        by_cases e : a = l
        · subst e
          rw [up1_s, up1_n (fun z => hab z.symm)] at hdd
          omega
        · rw [up1_n e] at hdd ⊢
          by_cases e2 : b = l
          · rw [e2, up1_s] at hdd; omega
          · rw [up1_n e2] at hdd; exact hD a b ha hb hab hdd
      · show sn t + 1 ≤ _
        have := up1_3 (f := w) (v := 10) hl
        omega
      · show sw t + 10 ≤ _
        have := up1_3 (f := w) (v := 10) hl
        omega
    · -- it is full
      have hd0 : ¬ d l = 0 := fun z => c2 (a6.mp z)
      have hn0 : 0 < ln l := by omega
      have hcg := cap_gw hn0 hm
      have hcs := cap_gs (ln l)
      refine y_addC (c := sC t 27) hl hn0 hl20 hd0 a2 a1 (a3.trans hw0.symm) rfl hc0 (q _ (up1 d l (sC t 27)) (up1 w l (ln l + max 1 (ln l / 2))) ⟨fun a ha => ?_, fun a b ha hb hab hdd => ?_, ?_, ?_⟩ (((((lf_I (Or.inl rfl)).trans lf_C).trans lf_R).trans lf_E).trans (lf_I (Or.inr rfl))))
      · obtain ⟨b0, b8, b9⟩ := hL a ha
        have hma := hmm a ha
        by_cases e : a = l
        · subst e
          rw [up1_s, up1_s, up1_s]
          refine ⟨⟨if_pos ⟨rfl, rfl⟩, if_pos ⟨rfl, rfl⟩, if_pos ⟨rfl, rfl⟩, by omega, ?_, by omega, fun i hi => ?_⟩, by omega, by omega⟩
          · have h : sC (sCpy (sIw t 832 a ((sI t 832 a) + 1)) (d a) (ln a + max 1 (ln a / 2))) 27 = sC t 27 + 1 := sC_cp (t := sIw t 832 a ((sI t 832 a) + 1))
            exact Nat.lt_of_lt_of_le (Nat.lt_succ_self _) (Nat.le_of_eq h.symm)
          · have h9 : ∀ u : sT, sE u 27 = sE t 27 → sN u 27 = sN t 27 → sC u 27 = sC t 27 → i < sN t 27 (d a) → ∀ N, sE (sCpy u (d a) N) 27 (sC t 27) i = sE t 27 (d a) i := fun u y1 y2 y3 y4 N => by
              rw [← y1]
              exact if_pos ⟨rfl, y3.symm, by rw [y2]; exact y4⟩
            by_cases e2 : i = ln a
            · exact (if_pos ⟨rfl, rfl, e2⟩).trans (by rw [show up2 le a (ln a) x a i = x from if_pos ⟨rfl, e2⟩])
            · refine (if_neg (fun z => e2 z.2.2)).trans ?_
              refine (h9 (sIw t 832 a ((sI t 832 a) + 1)) rfl rfl rfl (by omega) _).trans ?_
              rw [show up2 le a (ln a) x a i = le a i from if_neg (fun z => e2 z.2)]
              exact a7 i (by omega)
        · rw [up1_n e, up1_n e, up1_n e]
          have hf : up2 le l (ln l) x a = le a := funext fun i => if_neg (fun z => e z.1)
          have hda : d a < sC t 27 := b0.2.2.2.2.1
          refine ⟨?_, by omega, by omega⟩
          rw [hf]
          refine Ls_o b0 (if_neg (fun z => e z.2)) ((rdI_d e).trans (rdIE.trans (rdIR.trans (rdIcpy.trans (rdI_F rfl))))) (if_neg (fun z => by have h : d a = sC t 27 := z.2; omega)) ?_ (fun i hi => (if_neg (fun z => by have h : d a = sC t 27 := z.2.1; omega)).trans (if_neg (fun z => by have h : d a = sC t 27 := z.2.1; omega)))
          have h : sC (sCpy (sIw t 832 l ((sI t 832 l) + 1)) (d l) (ln l + max 1 (ln l / 2))) 27 = sC t 27 + 1 := sC_cp (t := sIw t 832 l ((sI t 832 l) + 1))
          exact Nat.le_of_lt (Nat.lt_of_lt_of_le (Nat.lt_succ_self _) (Nat.le_of_eq h.symm))
      · have hda : d a < sC t 27 := (hL a ha).1.2.2.2.2.1
        have hdb : d b < sC t 27 := (hL b hb).1.2.2.2.2.1
        by_cases e : a = l
        · subst e
          rw [up1_s, up1_n (fun z => hab z.symm)] at hdd
          omega
        · rw [up1_n e] at hdd ⊢
          by_cases e2 : b = l
          · rw [e2, up1_s] at hdd; omega
          · rw [up1_n e2] at hdd; exact hD a b ha hb hab hdd
      · show sn t + 1 ≤ _
        have := up1_3 (f := w) (v := ln l + max 1 (ln l / 2)) hl
        omega
      · show sw t + (ln l + max 1 (ln l / 2)) ≤ _
        have := up1_3 (f := w) (v := ln l + max 1 (ln l / 2)) hl
        omega
end S52b
/-- what a call of the class never changes -/
def ep (t : sT) : (Nat → Nat → Nat → Int32) × (Nat → Nat → Nat → Bool) × (Nat → Nat → Nat → Int64) × (Nat → Nat → Int32) × (Nat → Nat) := (fun k o p => bif Nat.beq k 20 then 0 else sA t k o p, sB t, sL t, fun F o => bif sMr F then sI t F o else 0, sN t 29)
/-- what a step plans: portion, price, contract, given -/
def tv (t : sT) : (Nat → Int32) × (Nat → Int32) × (Nat → Option Nat) × (Nat → Int32) := (sI t 526, sI t 528, sR t 527, sI t 455)
def Fz (t : sT) (n T : Nat) : Prop := (∀ o, n ≤ o → sI t 518 o = 0 ∧ sI t 525 o = 0 ∧ sZ t 519 o = false ∧ sZ t 520 o = false ∧ sZ t 521 o = false) ∧ ∀ k, T ≤ k → sZ t 581 k = false
/-- the three lists, the room used, and what no order has yet -/
def LL (t : sT) (T n : Nat) (L : List Nat) (A B : Nat) : Prop := (∃ d w, LLd t (l3 T n L.length) (l3 T n 200) (e3 L) (A + n + T) (B + 18 * n + 6 * T) d w) ∧ Fz t n T
section S52c
variable {t t' t'' : sT} {F o k p n T A B a b c l : Nat} {M : sM} {L : List Nat} {Q : sRs → sT → Prop}
theorem ep_np (h : np t' = np t) : ep t' = ep t := by
  have h1 := congrArg (fun z : sNp => z.2.2.2.1) h
  have h2 := congrArg (fun z : sNp => z.2.2.2.2.1) h
  have h3 := congrArg (fun z : sNp => z.2.2.2.2.2.2.1) h
  refine Prod.ext h1 (Prod.ext h2 (Prod.ext h3 (Prod.ext (funext fun F => funext fun o => ?_) (by show sN t' 29 = sN t 29; rw [eN_np h]))))
  show (bif sMr F then sI t' F o else 0) = bif sMr F then sI t F o else 0
  cases hF : sMr F with
  | false => rfl
  | true =>
    refine eI_np h ?_
    have h1 : 768 ≤ F := by
      unfold sMr at hF
      simp only [Bool.and_eq_true] at hF
      exact Nat.le_of_ble_eq_true hF.1
    cases hz : kw F with
    | false => rfl
    | true =>
      have := (by decide : ∀ x ∈ kwL, x < 768) _ (kw_mem hz)
      omega
theorem ep_lf (h : lf t t') : ep t' = ep t := by
  obtain ⟨a1, a2, a3, a4, a5, a6, a7, a8, a9, a10⟩ := h
  refine Prod.ext (by show (fun k o p => bif Nat.beq k 20 then 0 else sA t' k o p) = _; rw [a4]; rfl) (Prod.ext a5 (Prod.ext a7 (Prod.ext (funext fun F => funext fun o => ?_) (funext fun o => a8 29 o (fun z => by cases z.1)))))
  show (bif sMr F then sI t' F o else 0) = bif sMr F then sI t F o else 0
  cases hF : sMr F with
  | false => rfl
  | true =>
    have h2 : F < 832 := by
      unfold sMr at hF
      simp only [Bool.and_eq_true] at hF
      exact Nat.le_of_ble_eq_true hF.2
    show sI t' F o = sI t F o
    rw [a1 F (by omega) (by omega)]
theorem ep_I {v : Int32} (h : sMr F = false) : ep (sIw t F o v) = ep t := by
  refine Prod.ext rfl (Prod.ext rfl (Prod.ext rfl (Prod.ext (funext fun F' => funext fun o' => ?_) rfl)))
  show (bif sMr F' then (if F' = F ∧ o' = o then v else sI t F' o') else 0) = bif sMr F' then sI t F' o' else 0
  by_cases e : F' = F
  · rw [e, h]; rfl
  · rw [if_neg (fun z => e z.1)]
theorem rp_ep (h : ep t' = ep t) : rp t' = rp t := by
  have h1 : ∀ a p, sA t' 21 a p = sA t 21 a p := fun a p => congrFun (congrFun (congrFun (congrArg (fun z => z.1) h) 21) a) p
  have h2 : sB t' = sB t := congrArg (fun z => z.2.1) h
  have h30 : (fun F o => bif sMr F then sI t' F o else 0) = (fun F o => bif sMr F then sI t F o else 0) := congrArg (fun z => z.2.2.2.1) h
  have h3 : ∀ F, (bif sMr F then sI t' F 0 else 0) = bif sMr F then sI t F 0 else 0 := fun F => congrFun (congrFun h30 F) 0
  refine Prod.ext (funext fun a => funext fun p => ?_) (Prod.ext (by show sB t' 22 = sB t 22; rw [h2]) (funext fun F => ?_))
  · show (bif sSc a then 0 else sA t' 21 a p) = bif sSc a then 0 else sA t 21 a p
    rw [h1]
  · show (bif sMq F then sI t' F 0 else 0) = bif sMq F then sI t F 0 else 0
    cases hF : sMq F with
    | false => rfl
    | true =>
      have h4 : sMr F = true := by unfold sMq at hF; simp only [Bool.and_eq_true] at hF; exact hF.1
      have := h3 F
      rw [h4] at this; exact this
theorem tv_np (h : np t' = np t) : tv t' = tv t := by
  refine Prod.ext (funext fun o => eI_np h (by decide)) (Prod.ext (funext fun o => eI_np h (by decide)) (Prod.ext (funext fun o => eR_np h (by decide)) (funext fun o => eI_np h (by decide))))
theorem tv_lf (h : lf t t') : tv t' = tv t := by
  obtain ⟨a1, a2, a3, a4, a5, a6, a7, a8, a9, a10⟩ := h
  exact Prod.ext (a1 _ (by decide) (by decide)) (Prod.ext (a1 _ (by decide) (by decide)) (Prod.ext (a3 _ (by decide)) (a1 _ (by decide) (by decide))))
theorem Rl_lf (h : lf t t') (hM : Rl t M n T) : Rl t' M n T := by
  obtain ⟨a1, a2, a3, a4, a5, a6, a7, a8, a9, a10⟩ := h
  refine ⟨fun q hq o' ho => ?_, fun q hq o' ho => ?_, fun q hq => ?_, ⟨fun m c h1 h2 => ?_, fun k hk => ?_⟩, fun o' ho => ?_⟩
  · rw [a1 _ ((by decide : ∀ q ∈ sPI, ¬ q.1 = 832) q hq) ((by decide : ∀ q ∈ sPI, ¬ q.1 = 834) q hq)]; exact hM.1 q hq o' ho
  · rw [a2]; exact hM.2.1 q hq o' ho
  · rw [a1 _ ((by decide : ∀ q ∈ sPS, ¬ q.1 = 832) q hq) ((by decide : ∀ q ∈ sPS, ¬ q.1 = 834) q hq)]; exact hM.2.2.1 q hq
  · rw [a4]; exact hM.2.2.2.1.1 m c h1 h2
  · rw [a4]; exact hM.2.2.2.1.2 k hk
  · rw [a1 524 (by decide) (by decide)]; exact hM.2.2.2.2 o' ho
theorem rlC_lf (h : lf t t') (hC : rlC t M n) : rlC t' M n := by
  obtain ⟨a1, a2, a3, a4, a5, a6, a7, a8, a9, a10⟩ := h
  refine rlC_fr hC (funext fun F => funext fun x => ?_) rfl rfl rfl rfl rfl
  show (bif kc F then sR t' F x else none) = bif kc F then sR t F x else none
  by_cases e : F = 833
  · subst e; rfl
  · rw [a3 F e]
theorem Fz_lf (h : lf t t') (hz : Fz t n T) : Fz t' n T := by
  obtain ⟨a1, a2, a3, a4, a5, a6, a7, a8, a9, a10⟩ := h
  refine ⟨fun o ho => ?_, fun k hk => ?_⟩
  · rw [a1 518 (by decide) (by decide), a1 525 (by decide) (by decide), a2]; exact hz.1 o ho
  · rw [a2]; exact hz.2 k hk
theorem Fz_np (h : np t' = np t) (h8 : sC t 8 = n) (hz : Fz t n T) : Fz t' n T := by
  refine ⟨fun o ho => ?_, fun k hk => ?_⟩
  · rw [eI_np h (by decide), eI5_np h (by omega), eZ_np h (by decide), eZ_np h (by decide), eZ1_np h (by omega)]; exact hz.1 o ho
  · rw [eZ_np h (by decide)]; exact hz.2 k hk
theorem LLd_np {ln m d w : Nat → Nat} {le : Nat → Nat → Nat} (h : np t' = np t) (hL : LLd t ln m le A B d w) : LLd t' ln m le A B d w := by
  obtain ⟨h1, h2, h3, h4⟩ := hL
  refine ⟨fun l hl => ⟨Ls_o (h1 l hl).1 (eR_np h (by decide)) (eI_np h (by decide)) (by rw [eN_np h]) (by rw [eC_np h]; exact Nat.le_refl _) (fun i _ => by rw [eE_np h]), (h1 l hl).2⟩, h2, ?_, ?_⟩
  · have e := congrArg (fun z : sNp => z.2.2.2.2.2.2.2.2.2.2.1) h
    have e : sn t' = sn t := e
    rw [e]; exact h3
  · have e := congrArg (fun z : sNp => z.2.2.2.2.2.2.2.2.2.2.2) h
    have e : sw t' = sw t := e
    rw [e]; exact h4
theorem LL_np (h : np t' = np t) (h8 : sC t 8 = n) (hL : LL t T n L A B) : LL t' T n L A B := by
  obtain ⟨⟨d, w, h1⟩, h2⟩ := hL
  exact ⟨⟨d, w, LLd_np h h1⟩, Fz_np h h8 h2⟩
theorem Ls_f {d w n' : Nat} {f g : Nat → Nat} (h : Ls t l k f n' d w) (e : ∀ i, i < n' → f i = g i) : Ls t l k g n' d w := by
  obtain ⟨a1, a2, a3, a4, a5, a6, a7⟩ := h
  exact ⟨a1, a2, a3, a4, a5, a6, fun i hi => by rw [a7 i hi, e i hi]⟩
theorem LLd_f {ln ln' m m' d w : Nat → Nat} {le le' : Nat → Nat → Nat} (h : LLd t ln m le A B d w) (e1 : ∀ l, l < 3 → ln l = ln' l) (e2 : ∀ l, l < 3 → m l ≤ m' l) (e3 : ∀ l i, l < 3 → i < ln l → le l i = le' l i) : LLd t ln' m' le' A B d w := by
  refine ⟨fun l hl => ?_, h.2⟩
  obtain ⟨b0, b1, b2⟩ := h.1 l hl
  have := e2 l hl
  rw [← e1 l hl]
  exact ⟨Ls_f b0 (fun i hi => e3 l i hl hi), by omega, by omega⟩
theorem LL_0 (hL : LL t T n L A B) : Ls1 t 0 9 T := by
  obtain ⟨⟨d, w, h1, -⟩, -⟩ := hL
  obtain ⟨b0, b1, b2⟩ := h1 0 (by decide)
  exact ⟨d 0, w 0, b0, b2⟩
theorem LL_1 (hL : LL t T n L A B) : Ls1 t 1 8 n := by
  obtain ⟨⟨d, w, h1, -⟩, -⟩ := hL
  obtain ⟨b0, b1, b2⟩ := h1 1 (by decide)
  exact ⟨d 1, w 1, b0, b2⟩
/-- how many are taken -/
theorem LL_s (hL : LL t T n L A B) : sI t 834 2 = io L.length := by
  obtain ⟨⟨d, w, h1, -⟩, -⟩ := hL
  exact (h1 2 (by decide)).1.2.1
theorem y_clr0 {d : Nat}
    (hs : sI t 834 l = io n)
    (hd : sR t 833 l = some d)
    (k0 : X 255 27 [.inr (.inr (13, (some l))), .inr (.inr (27, (some d))), .inl (io n), .inl 0] [] (sIw (sIw t 832 l ((sI t 832 l) + 1)) 834 l 0) Q) :
    X 255 0 [.inr (.inr (13, (some l))), sJk, sJk, sJk] [] t Q := by
  refine x_aload_n (pc' := 1) rfl rfl rfl rfl rfl ?_
  refine x_dup (pc' := 2) rfl rfl rfl ?_
  refine x_gI (pc' := 5) (x := (sI t 832 l)) rfl rfl rfl rfl ?_
  refine x_iconst (pc' := 6) rfl rfl ?_
  refine x_iadd (pc' := 7) (z := ((sI t 832 l) + 1)) rfl rfl rfl ?_
  refine x_pI (pc' := 10) rfl rfl rfl ?_
  refine x_aload_n (pc' := 11) rfl rfl rfl rfl rfl ?_
  refine x_gR (pc' := 14) (r := (some d)) rfl rfl rfl hd ?_
  refine x_astore_n (pc' := 15) (ls' := [_, _, _, _]) rfl rfl rfl rfl rfl ?_
  refine x_aload_n (pc' := 16) rfl rfl rfl rfl rfl ?_
  refine x_gI (pc' := 19) (x := (io n)) rfl rfl rfl hs ?_
  refine x_istore_n (pc' := 20) (ls' := [_, _, _, _]) rfl rfl rfl rfl ?_
  refine x_aload_n (pc' := 21) rfl rfl rfl rfl rfl ?_
  refine x_iconst (pc' := 22) rfl rfl ?_
  refine x_dup_x1 (pc' := 23) rfl rfl rfl rfl ?_
  refine x_pI (pc' := 26) rfl rfl rfl ?_
  refine x_istore_n (pc' := 27) (ls' := [_, _, _, _]) rfl rfl rfl rfl ?_
  exact k0
theorem y_clrb {d w : Nat}
    (hw : sN t 27 d = w)
    (hk : k < n)
    (hnw : n ≤ w)
    (hw31 : w < 2 ^ 31)
    (k0 : X 255 27 [.inr (.inr (13, (some l))), .inr (.inr (27, (some d))), .inl (io n), .inl (io (k + 1))] [] (sEw t 27 d k (8, none)) Q) :
    X 255 27 [.inr (.inr (13, (some l))), .inr (.inr (27, (some d))), .inl (io n), .inl (io k)] [] t Q := by
  refine x_iload_n (pc' := 28) rfl rfl rfl ?_
  refine x_iload_n (pc' := 29) rfl rfl rfl ?_
  refine x_icmp_n (a' := 42) (pc' := 32) (z := decide (k < n)) rfl rfl rfl (ic_gen (p := k) (q := n) (Nat.lt_trans hk (Nat.lt_of_le_of_lt hnw hw31)) (Nat.lt_of_le_of_lt hnw hw31)) (fun h => absurd hk (of_decide_eq_false h)) (fun _ => ?_)
  refine x_aload_n (pc' := 33) rfl rfl rfl rfl rfl ?_
  refine x_iload_n (pc' := 34) rfl rfl rfl ?_
  refine x_null (pc' := 35) rfl rfl rfl ?_
  refine x_aast (pc' := 36) (N := w) (p := k) rfl rfl rfl hw (io_in (p := k) (N := w) (Nat.lt_of_lt_of_le hk hnw) hw31) (nn_io (p := k) (Nat.lt_trans (Nat.lt_of_lt_of_le hk hnw) hw31)) ?_
  refine x_iinc (pc' := 39) (y := (io (k + 1))) (ls' := [_, _, _, _]) rfl rfl rfl (io_add k 1) rfl ?_
  refine x_goto (pc' := 27) rfl rfl ?_
  exact k0
theorem y_clre {v : sV}
    (hn31 : n < 2 ^ 31)
    (k0 : Q (.inl none) t) :
    X 255 27 [.inr (.inr (13, (some l))), v, .inl (io n), .inl (io n)] [] t Q := by
  refine x_iload_n (pc' := 28) rfl rfl rfl ?_
  refine x_iload_n (pc' := 29) rfl rfl rfl ?_
  refine x_icmp_n (a' := 42) (pc' := 32) (z := decide (n < n)) rfl rfl rfl (ic_gen (p := n) (q := n) hn31 hn31) (fun _ => ?_) (fun h => absurd (of_decide_eq_true h) (Nat.lt_irrefl n))
  refine x_ret rfl ?_
  exact k0
theorem y_size (hs : sI t 834 l = io n) (k0 : Q (.inl (some (.inl (io n)))) t) : X 250 0 [.inr (.inr (13, (some l)))] [] t Q := by
  refine x_aload_n (pc' := 1) rfl rfl rfl rfl rfl ?_
  refine x_gI (pc' := 4) (x := (io n)) rfl rfl rfl hs ?_
  refine x_reti rfl rfl ?_
  exact k0
theorem lf_1E {v : Nat × Option Nat} {d : Nat} (h : lf t t') : lf t (sEw t' 27 d p v) := h.trans lf_E
set_option maxHeartbeats 1000000 in
/-- the list of orders taken is cleared -/
theorem y_clear (hL : LL t T n L A B) (hn : T < 9000) (hn2 : n < 9000) (q : ∀ t', LL t' T n [] A B → lf t t' → Q (.inl none) t') : X 255 0 [.inr (.inr (13, (some 2))), sJk, sJk, sJk] [] t Q := by
  obtain ⟨⟨d, w, h1, hD, h3, h4⟩, hz⟩ := hL
  obtain ⟨⟨a1, a2, a3, a4, a5, a6, a7⟩, a8, a9⟩ := h1 2 (by decide)
  have hw31 : w 2 < 2 ^ 31 := by
    have : w 2 ≤ 2 * 200 + 10 := a9
    omega
  have hlen : (l3 T n L.length 2) = L.length := rfl
  rw [hlen] at a2 a4 a7
  refine y_clr0 a2 a1 ?_
  refine lp0 (n := L.length) (fun k ls u => ls = [.inr (.inr (13, (some 2))), .inr (.inr (27, (some (d 2)))), .inl (io L.length), .inl (io k)] ∧ lf t u ∧ (sI u 834 = fun o => if o = 2 then 0 else sI t 834 o) ∧ sR u = sR t ∧ sN u = sN t ∧ sC u = sC t ∧ (∀ o, ¬ o = d 2 → sE u 27 o = sE t 27 o) ∧ sn u = sn t ∧ sw u = sw t ∧ (0 < k → ¬ d 2 = 0)) ⟨rfl, (lf_I (Or.inl rfl)).trans (lf_I (Or.inr rfl)), ?_, rfl, rfl, rfl, fun _ _ => rfl, rfl, rfl, fun z => absurd z (Nat.lt_irrefl 0)⟩ ?_ ?_
  · funext o
    show (if 834 = 834 ∧ o = 2 then (0 : Int32) else (if 834 = 832 ∧ o = 2 then (sI t 832 2) + 1 else sI t 834 o)) = if o = 2 then 0 else sI t 834 o
    by_cases e : o = 2
    · rw [if_pos ⟨rfl, e⟩, if_pos e]
    · rw [if_neg (fun z => e z.2), if_neg (fun z => e z.2), if_neg e]
  · rintro k ls u hk ⟨rfl, b1, b2, b3, b4, b5, b6, b7, b8, -⟩ ih
    refine y_clrb (w := w 2) (by rw [b4]; exact a3) hk a4 hw31 ?_
    refine ih _ _ ⟨rfl, b1.trans lf_E, b2, b3, b4, b5, fun o ho => ?_, b7, b8, fun _ z => ?_⟩
    · rw [← b6 o ho]
      exact funext fun i => if_neg (fun z => ho z.2.1)
    · have := a6.mp z
      omega
  · rintro ls u ⟨rfl, b1, b2, b3, b4, b5, b6, b7, b8, b9⟩
    refine y_clre (by omega) (q u ⟨⟨d, w, fun l hl => ?_, hD, by rw [b7]; exact h3, by rw [b8]; exact h4⟩, Fz_lf b1 hz⟩ b1)
    by_cases e : l = 2
    · subst e
      refine ⟨⟨by rw [b3]; exact a1, by rw [b2]; rfl, by rw [b4]; exact a3, Nat.zero_le _, by rw [b5]; exact a5, a6, fun i hi => absurd hi (Nat.not_lt_zero i)⟩, Nat.zero_le _, a9⟩
    · obtain ⟨c1, c2, c3⟩ := h1 l hl
      have hl3 : l3 T n L.length l = l3 T n ([] : List Nat).length l := by
        match l, hl with
        | 0, _ => rfl
        | 1, _ => rfl
        | 2, _ => exact absurd rfl e
      rw [← hl3]
      refine ⟨Ls_f (Ls_o c1 (by rw [b3]) (by rw [b2]; exact if_neg e) (by rw [b4]) (by rw [b5]; exact Nat.le_refl _) (fun i hi => ?_)) (fun i hi => ?_), c2, c3⟩
      · by_cases e2 : d l = d 2
        · by_cases e3 : 0 < L.length
          · have h9 := b9 e3
            exact absurd (hD 2 l (by decide) hl (fun z => e z.symm) e2.symm) h9
          · -- nothing was written
            have h0 := hD l 2 hl (by decide) e e2
            have h5 := c1.2.2.2.1
            have h6 := c1.2.2.2.2.2.1.mp h0
            omega
        · rw [b6 _ e2]
      · match l, hl with
        | 0, _ => rfl
        | 1, _ => rfl
        | 2, _ => exact absurd rfl e
/-- one more is taken -/
theorem y_takes {x : Nat} (hL : LL t T n L A B) (hn : T < 9000) (hn2 : n < 9000) (hl : L.length < 200) (q : ∀ t', LL t' T n (L ++ [x]) A B → lf t t' → Q (.inl (some (.inl (bz true)))) t') : X 254 0 [.inr (.inr (13, (some 2))), .inr (.inr (8, (some x)))] [] t Q := by
  obtain ⟨⟨d, w, h1⟩, hz⟩ := hL
  refine y_add (l := 2) (m' := l3 T n 200) (by decide) h1 (fun a ha => ?_) hl (fun a ha => Nat.le_refl _) (fun t' d' w' h2 h3 => q t' ⟨⟨d', w', LLd_f h2 (fun l hl => ?_) (fun l hl => Nat.le_refl _) (fun l i hl hi => ?_)⟩, Fz_lf h3 hz⟩ h3)
  · match a, ha with
    | 0, _ => exact hn
    | 1, _ => exact hn2
    | 2, _ => show 200 < 9000; decide
  · match l, hl with
    | 0, _ => rfl
    | 1, _ => rfl
    | 2, _ => show (if 2 = 2 then L.length + 1 else _) = (L ++ [x]).length; rw [if_pos rfl, List.length_append]; rfl
  · match l, hl with
    | 0, _ => exact if_neg (fun z => by cases z.1)
    | 1, _ => exact if_neg (fun z => by cases z.1)
    | 2, _ =>
      have hi2 : i < L.length + 1 := hi
      by_cases e : i = L.length
      · refine (if_pos ⟨rfl, e⟩).trans ?_
        show x = (L ++ [x]).getD i 0
        rw [e]; simp
      · refine (if_neg (fun z => e z.2)).trans ?_
        show L.getD i 0 = (L ++ [x]).getD i 0
        have hi3 : i < L.length := by omega
        simp [List.getElem?_append_left hi3]
theorem LL_g (hL : LL t T n L A B) (hk : k < L.length) (q : Q (.inl (some (.inr (.inr (8, some (L.getD k 0)))))) t) : X 252 0 [.inr (.inr (13, some 2)), .inl (io k)] [] t Q := by
  obtain ⟨⟨d, w, h1, -⟩, -⟩ := hL
  obtain ⟨⟨a1, a2, a3, a4, a5, a6, a7⟩, a8, a9⟩ := h1 2 (by decide)
  have hlen : (l3 T n L.length 2) = L.length := rfl
  rw [hlen] at a2 a4 a7
  have : w 2 ≤ 2 * 200 + 10 := a9
  exact y_get8 (by omega) hk a2 a1 a3 (by omega) (by omega) (a7 k hk) q
end S52c
