/-! a forest: what lies below a folder lies in it or below one right below (source: wip/p35/src/289.ff.txt, by expand3.py) -/
section ZF
variable {c : Nat} {g : Nat → Int32} {d : Nat → Nat}
/-- nothing lies above itself -/
theorem bWi_rank (hd : ∀ k, d k < 8) (hr : zRk g c d) (hc : c ≤ 8) : ∀ (N f tp : Nat), d f ≤ N → f < c → tp < c → bWi c g tp f = 1 → tp = f ∨ d tp < d f := by
  intro N
  induction N with
  | zero =>
    intro f tp hN hf htp h
    by_cases e : f = tp
    · exact Or.inl e.symm
    · rcases hr f hf with e1 | ⟨j, hj, e1, hlt⟩
      · rw [bWi_top hd hr hc hf (by omega) e e1] at h
        cases h
      · omega
  | succ N ih =>
    intro f tp hN hf htp h
    by_cases e : f = tp
    · exact Or.inl e.symm
    · rcases hr f hf with e1 | ⟨j, hj, e1, hlt⟩
      · rw [bWi_top hd hr hc hf (by omega) e e1] at h
        cases h
      · rw [bWi_up hd hr hc hf hj (by omega) e e1] at h
        rcases ih j tp (by omega) hj htp h with z | z
        · exact Or.inr (by rw [z]; exact hlt)
        · exact Or.inr (by omega)
/-- of the folders right below f, how many g lies in or below -/
def sCh (c : Nat) (g : Nat → Int32) (f i : Nat) : Nat → Nat
  | 0 => 0
  | o + 1 => sCh c g f i o + (if g o = nI f then bWi c g o i else 0)
theorem sCh_ext {f i j : Nat} : ∀ N, (∀ o, o < N → g o = nI f → bWi c g o i = bWi c g o j) → sCh c g f i N = sCh c g f j N
  | 0, _ => rfl
  | N + 1, h => by
    show sCh c g f i N + _ = sCh c g f j N + _
    rw [sCh_ext N (fun o ho e => h o (by omega) e)]
    by_cases e : g N = nI f
    · rw [if_pos e, if_pos e, h N (by omega) e]
    · rw [if_neg e, if_neg e]
theorem sCh_0 {f i : Nat} : ∀ N, (∀ o, o < N → g o = nI f → bWi c g o i = 0) → sCh c g f i N = 0
  | 0, _ => rfl
  | N + 1, h => by
    show sCh c g f i N + _ = 0
    rw [sCh_0 N (fun o ho e => h o (by omega) e)]
    by_cases e : g N = nI f
    · rw [if_pos e, h N (by omega) e]
    · rw [if_neg e]
theorem sCh_one {f i j k : Nat} : ∀ N, (∀ o, o < N → ¬ o = k → g o = nI f → bWi c g o i = bWi c g o j) → k < N → g k = nI f → bWi c g k i = 1 → bWi c g k j = 0 → sCh c g f i N = sCh c g f j N + 1
  | 0, _, h, _, _, _ => absurd h (Nat.not_lt_zero _)
  | N + 1, h, hk, e, e1, e0 => by
    show sCh c g f i N + _ = sCh c g f j N + _ + 1
    by_cases z : N = k
    · subst z
      rw [sCh_ext N (fun o ho e => h o (by omega) (by omega) e), if_pos e, if_pos e, e1, e0]
    · rw [sCh_one N (fun o ho z e => h o (by omega) z e) (by omega) e e1 e0]
      by_cases z2 : g N = nI f
      · rw [if_pos z2, if_pos z2, h N (by omega) z z2]
        omega
      · rw [if_neg z2, if_neg z2]
theorem bWi_sum (hd : ∀ k, d k < 8) (hr : zRk g c d) (hc : c ≤ 8) {f : Nat} (hf : f < c) : ∀ (N i : Nat), d i ≤ N → i < c → bWi c g f i = (if i = f then 1 else 0) + sCh c g f i c := by
  have anti : ∀ o, o < c → g o = nI f → d f < d o := fun o ho e => by
    rcases hr o ho with z | ⟨j, hj, z, hlt⟩
    · rw [z] at e; exact absurd e.symm (nI_m1 (by omega))
    · rw [z] at e
      have := (nI_eq (by omega) (by omega)).mp e
      subst this
      exact hlt
  have self : ∀ i, i < c → i = f → bWi c g f i = (if i = f then 1 else 0) + sCh c g f i c := fun i hi e => by
    subst e
    rw [bWi_self hd hr hc hi, if_pos rfl, sCh_0 c (fun o ho e => by
      have h1 := anti o ho e
      have h2 := bWi_le (c := c) (g := g) (tp := o) (f := i)
      rcases (show bWi c g o i = 0 ∨ bWi c g o i = 1 by omega) with z | z
      · exact z
      · rcases bWi_rank hd hr hc 8 i o (by have := hd i; omega) hi ho z with y | y
        · subst y; omega
        · omega)]
  have root : ∀ i, i < c → ¬ i = f → g i = -1 → bWi c g f i = (if i = f then 1 else 0) + sCh c g f i c := fun i hi e e1 => by
    rw [bWi_top hd hr hc hi (by omega) e e1, if_neg e, sCh_0 c (fun o ho eo => by
      by_cases z : i = o
      · subst z
        rw [e1] at eo
        exact absurd eo.symm (nI_m1 (by omega))
      · exact bWi_top hd hr hc hi (by omega) z e1)]
  intro N
  induction N with
  | zero =>
    intro i hN hi
    by_cases e : i = f
    · exact self i hi e
    · rcases hr i hi with e1 | ⟨j, hj, e1, hlt⟩
      · exact root i hi e e1
      · omega
  | succ N ih =>
    intro i hN hi
    by_cases e : i = f
    · exact self i hi e
    · rcases hr i hi with e1 | ⟨j, hj, e1, hlt⟩
      · exact root i hi e e1
      · have hij := ih j (by omega) hj
        rw [bWi_up hd hr hc hi hj (by omega) e e1, hij, if_neg e, Nat.zero_add]
        have hup : ∀ o, o < c → ¬ o = i → g o = nI f → bWi c g o i = bWi c g o j := fun o ho z _ => bWi_up hd hr hc hi hj (by omega) (fun q => z q.symm) e1
        by_cases ejf : j = f
        · rw [if_pos ejf]
          have := sCh_one (c := c) (g := g) (f := f) (i := i) (j := j) (k := i) c hup hi (by rw [e1, ejf]) (bWi_self hd hr hc hi) (by
            have h2 := bWi_le (c := c) (g := g) (tp := i) (f := j)
            rcases (show bWi c g i j = 0 ∨ bWi c g i j = 1 by omega) with z | z
            · exact z
            · rcases bWi_rank hd hr hc 8 j i (by have := hd j; omega) hj hi z with y | y <;> omega)
          omega
        · rw [if_neg ejf, Nat.zero_add]
          exact (sCh_ext c (fun o ho eo => by
            by_cases z : o = i
            · subst z
              rw [e1] at eo
              exact absurd ((nI_eq (by omega) (by omega)).mp eo) ejf
            · exact hup o ho z eo)).symm
end ZF
