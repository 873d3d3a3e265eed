/-! boxes emptied (source: wip/p35/src/229.t8.txt, by expand2.py) -/
theorem sNx_ext2 {sh nu sh' nu' : Nat → Int32} {f v : Int32} (n : Nat) : n ≤ 60 → (∀ i, i < n → ((sh i = f ∧ v < nu i) ↔ (sh' i = f ∧ v < nu' i)) ∧ (sh i = f → v < nu i → nu' i = nu i)) → sNx sh' nu' f v n = sNx sh nu f v n := by
  induction n with
  | zero => intro _ _; simp [sNx]
  | succ n ihn =>
    intro h60 h
    have ih := ihn (by omega) (fun i hi => h i (by omega))
    rw [sNx_succ, sNx_succ, ih]
    obtain ⟨h1, h2⟩ := h n (by omega)
    by_cases hc : sh n = f ∧ v < nu n
    · have hc' := h1.mp hc
      have e := h2 hc.1 hc.2
      rcases sNx_spec sh nu f v n (by omega) with ⟨e0, -⟩ | ⟨j, hj, e0, a1, a2, -⟩
      · rw [e0, if_pos ⟨hc'.1, hc'.2, Or.inl rfl⟩, if_pos ⟨hc.1, hc.2, Or.inl rfl⟩]
      · have ej := (h j (by omega)).2 a1 a2
        rw [e0, nI_clamp (by omega), e, ej]
        by_cases hl : nu n < nu j
        · rw [if_pos ⟨hc'.1, hc.2, Or.inr hl⟩, if_pos ⟨hc.1, hc.2, Or.inr hl⟩]
        · rw [if_neg (fun q => hl (q.2.2.resolve_left (nI_m1 (by omega)))), if_neg (fun q => hl (q.2.2.resolve_left (nI_m1 (by omega))))]
    · rw [if_neg (fun q => hc (h1.mpr ⟨q.1, q.2.1⟩)), if_neg (fun q => hc ⟨q.1, q.2.1⟩)]
/-- some copies of a box gone -/
def sVs (x : zSt) (p : Nat) (S : Nat → Bool) : zSt := fun c q k => if q = p ∧ S k = true then (if c = 25 then -1 else if c = 26 ∨ c = 27 ∨ c = 28 then nI 0 else x c q k) else x c q k
theorem sVs_0 (x : zSt) (p : Nat) : sVs x p (fun _ => false) = x := zS_ext fun c q k => by
  unfold sVs
  rw [if_neg (fun e => by cases e.2)]
theorem sVa_eq (x : zSt) (p i c q k : Nat) : sVa x p i c q k = if q = p ∧ k = i then (if c = 25 then -1 else if c = 26 ∨ c = 27 ∨ c = 28 then nI 0 else x c q k) else x c q k := by
  unfold sVa
  simp only [su_eq]
  by_cases h25 : c = 25
  · subst h25
    simp only [Nat.reduceEqDiff, reduceIte]
    rw [u2_eq]
  by_cases h26 : c = 26
  · subst h26
    simp only [Nat.reduceEqDiff, reduceIte, true_or]
    rw [u2_eq]
  by_cases h27 : c = 27
  · subst h27
    simp only [Nat.reduceEqDiff, reduceIte, true_or, or_true]
    rw [u2_eq]
  by_cases h28 : c = 28
  · subst h28
    simp only [Nat.reduceEqDiff, reduceIte, or_true]
    rw [u2_eq]
  simp only [h25, h26, h27, h28, reduceIte, or_self, ite_self]
theorem sVa_sVs (x : zSt) (p i : Nat) (S : Nat → Bool) : sVa (sVs x p S) p i = sVs x p (fun k => S k || decide (k = i)) := zS_ext fun c q k => by
  rw [sVa_eq]
  unfold sVs
  by_cases hq : q = p
  · by_cases hk : k = i
    · simp only [hq, hk, and_self, reduceIte, decide_true, Bool.or_true]
      (repeat' split) <;> rfl
    · simp only [hq, hk, true_and, and_false, reduceIte, decide_false, Bool.or_false]
  · simp only [hq, false_and, reduceIte]
theorem sClr_sVs {h : zSt → Nat → Bool} {x : zSt} {p : Nat} (hh : ∀ S i, S i = false → h (sVs x p S) i = h x i) : ∀ n, sClr h p n x = (sVs x p (fun i => decide (i < n) && h x i), nI (tcnt (h x) n))
  | 0 => by
    have : (fun i => decide (i < 0) && h x i) = fun _ => false := funext fun i => by simp
    rw [this, sVs_0]
    rfl
  | n + 1 => by
    have e : sClr h p (n + 1) x = if h (sClr h p n x).1 n = true then (sVa (sClr h p n x).1 p n, (sClr h p n x).2 + nI 1) else sClr h p n x := rfl
    rw [e, sClr_sVs hh n]
    dsimp only
    rw [hh _ n (by simp)]
    have e2 : tcnt (h x) (n + 1) = tcnt (h x) n + (if h x n = true then 1 else 0) := rfl
    by_cases hc : h x n = true
    · rw [if_pos hc, sVa_sVs, e2, if_pos hc, nI_add]
      congr 2
      funext k
      by_cases hk : k = n
      · subst hk; simp [hc]
      · by_cases h2 : k < n
        · simp [h2, hk, show k < n + 1 by omega]
        · simp [h2, hk, show ¬ k < n + 1 by omega]
    · rw [if_neg hc, e2, if_neg hc, Nat.add_zero]
      congr 2
      funext k
      by_cases hk : k = n
      · subst hk; simp [hc]
      · by_cases h2 : k < n
        · simp [h2, show k < n + 1 by omega]
        · simp [h2, show ¬ k < n + 1 by omega]
def zSv (x : zSt) (p : Nat) (v : Int32) : Nat → Bool := fun i => decide (i < 60) && decide (x 25 p i = nI 1) && !decide (v < x 26 p i)
def zSe (x : zSt) (p : Nat) : Nat → Bool := fun i => decide (i < 60) && decide (x 25 p i = nI 1)
theorem sVs_25 (x : zSt) (p : Nat) (S : Nat → Bool) (i : Nat) : sVs x p S 25 p i = if S i = true then -1 else x 25 p i := by
  unfold sVs; simp only [true_and, reduceIte]
theorem sVs_26 (x : zSt) (p : Nat) (S : Nat → Bool) (i : Nat) : sVs x p S 26 p i = if S i = true then nI 0 else x 26 p i := by
  unfold sVs; simp only [true_and, reduceIte, Nat.reduceEqDiff, true_or]
theorem walk_va {x : zSt} {p b : Nat} (hN : iNum x p b) : ∀ (k : Nat) (v : Int32), ¬ v < nI 0 → zmu (x 25 p) (x 26 p) (nI 1) v ≤ k → sWk (fun x i => sVa x p i) p (nI 1) k (sVs x p (zSv x p v)) (sNm (sVs x p (zSv x p v)) p (nI 1) v) = (sVs x p (zSe x p), zmu (x 25 p) (x 26 p) (nI 1) v) := by
  intro k
  induction k with
  | zero =>
    intro v hv hk
    have hn : ∀ i, i < 60 → x 25 p i = nI 1 → ¬ v < x 26 p i := fun i hi e => by
      rcases sNx_spec (x 25 p) (x 26 p) (nI 1) v 60 (Nat.le_refl 60) with ⟨-, h⟩ | ⟨j, hj, -, a1, a2, -⟩
      · exact h i hi e
      · have := zmu_lt (sh' := x 25 p) (nu' := x 26 p) hj a1 a2 (fun i _ e => ⟨e, rfl⟩)
        omega
    have e : zSv x p v = zSe x p := funext fun i => by
      unfold zSv zSe
      by_cases h1 : i < 60
      · by_cases h2 : x 25 p i = nI 1
        · simp [h1, h2, hn i h1 h2]
        · simp [h2]
      · simp [h1]
    unfold sWk
    rw [e, show zmu (x 25 p) (x 26 p) (nI 1) v = 0 by omega]
  | succ k ih =>
    intro v hv hk
    have hsn : sNm (sVs x p (zSv x p v)) p (nI 1) v = sNx (x 25 p) (x 26 p) (nI 1) v 60 := by
      unfold sNm
      refine sNx_ext2 60 (Nat.le_refl 60) (fun i hi => ?_)
      rw [sVs_25, sVs_26]
      by_cases hs : zSv x p v i = true
      · rw [if_pos hs, if_pos hs]
        unfold zSv at hs
        simp only [Bool.and_eq_true, decide_eq_true_eq, Bool.not_eq_true', decide_eq_false_iff_not] at hs
        refine ⟨⟨fun q => absurd q.2 hs.2, fun q => absurd q.1.symm (nI_m1 (by omega))⟩, fun _ q => absurd q hs.2⟩
      · rw [if_neg hs, if_neg hs]
        exact ⟨Iff.rfl, fun _ _ => rfl⟩
    rw [hsn]
    rcases sNx_spec (x 25 p) (x 26 p) (nI 1) v 60 (Nat.le_refl 60) with ⟨e, h⟩ | ⟨j, hj, e, a1, a2, a3⟩
    · have e2 : zSv x p v = zSe x p := funext fun i => by
        unfold zSv zSe
        by_cases h1 : i < 60
        · by_cases h2 : x 25 p i = nI 1
          · simp [h1, h2, h i h1 h2]
          · simp [h2]
        · simp [h1]
      unfold sWk
      rw [e, if_pos rfl, zmu_0 h, e2]
    · have hd := iNum_dst hN (f := 1) (by omega)
      have hone := zmu_one hj a1 a2 a3 (fun i hi b1 b2 => hd i j hi hj b1 a1 b2)
      have hSj : zSv x p v j = false := by
        unfold zSv
        simp [a2]
      have hst : sVa (sVs x p (zSv x p v)) p j = sVs x p (zSv x p (x 26 p j)) := by
        rw [sVa_sVs]
        congr 1
        funext i
        unfold zSv
        by_cases h1 : i < 60
        · by_cases h2 : x 25 p i = nI 1
          · by_cases hij : i = j
            · subst hij
              have : ¬ x 26 p i < x 26 p i := by rw [Int32.lt_iff_toInt_lt]; omega
              simp [h1, h2, this]
            · have hne : ¬ x 26 p i = x 26 p j := fun q => hij (hd i j h1 hj h2 a1 q)
              have hne' : ¬ (x 26 p i).toInt = (x 26 p j).toInt := fun q => hne (Int32.toInt_inj.mp q)
              have h3 := a3 i h1 h2
              simp only [h1, h2, hij, decide_true, decide_false, Bool.true_and, Bool.or_false]
              congr 1
              apply decide_eq_decide.mpr
              rw [Int32.lt_iff_toInt_lt] at a2 ⊢
              rw [Int32.lt_iff_toInt_lt] at h3 ⊢
              rw [Int32.lt_iff_toInt_lt] at h3
              constructor
              · intro q; have := h3 q; omega
              · intro q; omega
          · by_cases hij : i = j
            · exact absurd (hij ▸ a1) h2
            · simp [h2, hij]
        · by_cases hij : i = j
          · omega
          · simp [h1, hij]
      have hnum : sVs x p (zSv x p v) 26 p j = x 26 p j := by
        rw [sVs_26, hSj]; rfl
      have hv' : ¬ x 26 p j < nI 0 := by
        rw [Int32.lt_iff_toInt_lt] at hv a2 ⊢
        omega
      have := ih (x 26 p j) hv' (by omega)
      unfold sWk
      rw [e, if_neg (nI_m1 (by omega)), nI_clamp (by omega), hst, hnum, this, hone]
theorem zSv_0 {x : zSt} {p b : Nat} (hb : b < 1000000000) (hN : iNum x p b) : zSv x p (nI 0) = fun _ => false := funext fun i => by
  unfold zSv
  by_cases h1 : i < 60
  · by_cases h2 : x 25 p i = nI 1
    · obtain ⟨u, v, e1, e2, e3, e4, e5⟩ := hN.2.1 i 1 h1 (by omega) h2
      rw [e1, decide_eq_true ((nI_ltI (by omega) (by omega)).mpr (by omega)), Bool.not_true, Bool.and_false]
    · rw [decide_eq_false h2, Bool.and_false, Bool.false_and]
  · rw [decide_eq_false h1]; rfl
theorem iRl_vs {x y : zSt} {n p : Nat} {nr : Nat → Nat} (S : Nat → Bool) (h : iRl x y n nr) : iRl (sVs x p S) (sVs y p S) n nr := by
  obtain ⟨h6, h7, h8⟩ := h
  have ho : ∀ (z : zSt) c, ¬ (25 ≤ c ∧ c ≤ 28) → sVs z p S c = z c := fun z c hc => funext fun q => funext fun k => by
    have h25 : ¬ c = 25 := by omega
    have h26 : ¬ c = 26 := by omega
    have h27 : ¬ c = 27 := by omega
    have h28 : ¬ c = 28 := by omega
    simp only [sVs, h25, h26, h27, h28, or_self, reduceIte, ite_self]
  refine ⟨fun c hc => ?_, fun c i a1 a2 hi => ?_, fun q r hq hr => ?_⟩
  · funext q k
    unfold sVs
    rw [h6 c hc]
  · rw [ho y c (by omega), ho x c (by omega)]
    exact h7 c i a1 a2 hi
  · have := h8 q r hq hr
    unfold iRr iFl at this ⊢
    rw [ho y 18 (by omega), ho y 19 (by omega), ho y 20 (by omega), ho y 21 (by omega), ho y 22 (by omega), ho x 17 (by omega), ho x 18 (by omega), ho x 19 (by omega), ho x 20 (by omega), ho x 21 (by omega), ho x 22 (by omega), ho x 23 (by omega)]
    exact this
theorem iBx_clr {h : zSt → Nat → Bool} {p q n c b : Nat} {x : zSt} (hb : iBx x q n c b) : ∀ k, iBx (sClr h p k x).1 q n c b
  | 0 => hb
  | k + 1 => by
    have e : sClr h p (k + 1) x = if h (sClr h p k x).1 k = true then (sVa (sClr h p k x).1 p k, (sClr h p k x).2 + nI 1) else sClr h p k x := rfl
    rw [e]
    have ih := iBx_clr (h := h) (p := p) hb k
    split
    · by_cases hq : q = p
      · subst hq; exact iBx_va ih
      · exact iBx_va_o hq ih
    · exact ih
theorem sClr_o {h : zSt → Nat → Bool} {p : Nat} {x : zSt} {c : Nat} (hc : ¬ (25 ≤ c ∧ c ≤ 28)) : ∀ k, (sClr h p k x).1 c = x c
  | 0 => rfl
  | k + 1 => by
    have e : sClr h p (k + 1) x = if h (sClr h p k x).1 k = true then (sVa (sClr h p k x).1 p k, (sClr h p k x).2 + nI 1) else sClr h p k x := rfl
    rw [e]
    have ih := sClr_o (h := h) (p := p) (x := x) hc k
    split
    · rw [← ih]
      unfold sVa
      simp only [su_eq]
      rw [if_neg (by omega), if_neg (by omega), if_neg (by omega), if_neg (by omega)]
    · exact ih
/-- two walks side by side, so many steps -/
theorem sWk_relK {stepx stepy : zSt → Nat → zSt} {p K : Nat} {f : Int32} {G : Nat → zSt → zSt → Prop} (he : ∀ j x y, G j x y → y 25 = x 25 ∧ y 26 = x 26) (hs : ∀ j x y i, j < K → i < 60 → x 25 p i = f → G j x y → G (j + 1) (stepx x i) (stepy y i)) (hm1 : ∀ j x y, j < K → G j x y → G (j + 1) x y) : ∀ (k j : Nat) (x y : zSt) (m : Int32), j + k ≤ K → (m = -1 ∨ ∃ i, i < 60 ∧ m = nI i ∧ x 25 p i = f) → G j x y → G (j + k) (sWk stepx p f k x m).1 (sWk stepy p f k y m).1 ∧ (sWk stepy p f k y m).2 = (sWk stepx p f k x m).2 := by
  intro k
  induction k with
  | zero => intro j x y m hK hm h; exact ⟨h, rfl⟩
  | succ k ih =>
    intro j x y m hK hm h
    unfold sWk
    by_cases e0 : m = -1
    · rw [if_pos e0, if_pos e0]
      refine ⟨?_, rfl⟩
      have mono : ∀ t, j + t ≤ K → G (j + t) x y := by
        intro t
        induction t with
        | zero => intro _; exact h
        | succ t iht => intro ht; exact hm1 (j + t) x y (by omega) (iht (by omega))
      exact mono (k + 1) hK
    · rw [if_neg e0, if_neg e0]
      obtain ⟨i, hi, rfl, hsh⟩ := hm.resolve_left e0
      rw [nI_clamp (by omega)]
      have hg := hs j x y i (by omega) hi hsh h
      obtain ⟨a1, a2⟩ := he _ _ _ hg
      obtain ⟨b1, b2⟩ := he _ _ _ h
      have hnm : sNm (stepy y i) p f (y 26 p i) = sNm (stepx x i) p f (x 26 p i) := by
        unfold sNm
        rw [a1, a2, b2]
      rw [hnm]
      obtain ⟨c1, c2⟩ := ih (j + 1) _ _ _ (by omega) (sNm_ok (stepx x i) p f (x 26 p i)) hg
      refine ⟨?_, by rw [c2]⟩
      rw [show j + (k + 1) = j + 1 + k by omega]
      exact c1
def zWn (y : zSt) (p n : Nat) : Prop := y 0 0 2 = nI n ∧ ∀ i, n ≤ i → i < 60 → y 25 p i = -1
theorem zW_lay {y : zSt} {p n i k : Nat} (h : zWn y p n) (hi : i < n) : zWn (sLay y p i k) p n := by
  refine ⟨h.1, fun j h1 h2 => ?_⟩
  rw [(sLay_c y p i k).1, u2_eq, if_neg (by omega)]
  exact h.2 j h1 h2
theorem zW_va {y : zSt} {p n i : Nat} (h : zWn y p n) (hi : i < n) : zWn (sVa y p i) p n := by
  refine ⟨h.1, fun j h1 h2 => ?_⟩
  rw [sVa_eq, if_neg (by omega)]
  exact h.2 j h1 h2
theorem sWk_st {step : zSt → Nat → zSt} {p : Nat} {f : Int32} {k : Nat} {y : zSt} {j : Nat} (hj : j < 60) : sWk step p f (k + 1) y (nI j) = ((sWk step p f k (step y j) (sNm (step y j) p f (y 26 p j))).1, (sWk step p f k (step y j) (sNm (step y j) p f (y 26 p j))).2 + 1) := by
  conv => lhs; unfold sWk
  rw [if_neg (nI_m1 (by omega)), nI_clamp (by omega)]
section ZC
variable {x : zSt} {E : zEx} {Q : zO → zM → Prop}
end ZC
section ZT
variable {x y : zSt} {E : zEx} {b : Nat}
theorem sLay_sh {y : zSt} {p f i i' : Nat} (hf : f < 8) (h1 : ¬ f = 1) (e : sLay y p i 1 25 p i' = nI f) : y 25 p i' = nI f ∧ sLay y p i 1 26 p i' = y 26 p i' := by
  rw [(sLay_c y p i 1).1, u2_row] at e
  rw [(sLay_c y p i 1).2.1, u2_row]
  dsimp only at e ⊢
  by_cases h : i' = i
  · rw [if_pos h] at e
    exact absurd ((nI_eq (by omega) (by omega)).mp e).symm h1
  · rw [if_neg h] at e ⊢
    exact ⟨e, rfl⟩
theorem sVa_sh {y : zSt} {p f i i' : Nat} (hf : f < 8) (e : sVa y p i 25 p i' = nI f) : y 25 p i' = nI f ∧ sVa y p i 26 p i' = y 26 p i' := by
  rw [sVa_eq] at e ⊢
  simp only [true_and, reduceIte] at e ⊢
  by_cases h : i' = i
  · rw [if_pos h] at e
    exact absurd e.symm (nI_m1 (by omega))
  · rw [if_neg h] at e ⊢
    exact ⟨e, rfl⟩
end ZT
