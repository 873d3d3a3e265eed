/-! boxes emptied (source: wip/whole/src/229.t8.txt, by expand2.py) -/
theorem sNx_ext2 {sh nu sh' nu' : Nat → Int32} {f v : Int32} (n : Nat) : n ≤ 60 → (∀ i, i < n → ((sh i = f ∧ v < nu i) ↔ (sh' i = f ∧ v < nu' i)) ∧ (sh i = f → v < nu i → nu' i = nu i)) → sNx sh' nu' f v n = sNx sh nu f v n := by
  induction n with
  | zero => intro _ _; simp [sNx]
  | succ n ihn =>
    intro h60 h
    have ih := ihn (by omega) (fun i hi => h i (by omega))
    rw [sNx_succ, sNx_succ, ih]
    obtain ⟨h1, h2⟩ := h n (by omega)
    by_cases hc : sh n = f ∧ v < nu n
    · have hc' := h1.mp hc
      have e := h2 hc.1 hc.2
      rcases sNx_spec sh nu f v n (by omega) with ⟨e0, -⟩ | ⟨j, hj, e0, a1, a2, -⟩
      · rw [e0, if_pos ⟨hc'.1, hc'.2, Or.inl rfl⟩, if_pos ⟨hc.1, hc.2, Or.inl rfl⟩]
      · have ej := (h j (by omega)).2 a1 a2
        rw [e0, nI_clamp (by omega), e, ej]
        by_cases hl : nu n < nu j
        · rw [if_pos ⟨hc'.1, hc.2, Or.inr hl⟩, if_pos ⟨hc.1, hc.2, Or.inr hl⟩]
        · rw [if_neg (fun q => hl (q.2.2.resolve_left (nI_m1 (by omega)))), if_neg (fun q => hl (q.2.2.resolve_left (nI_m1 (by omega))))]
    · rw [if_neg (fun q => hc (h1.mpr ⟨q.1, q.2.1⟩)), if_neg (fun q => hc ⟨q.1, q.2.1⟩)]
/-- some copies of a box gone -/
def sVs (x : zSt) (p : Nat) (S : Nat → Bool) : zSt := fun c q k => if q = p ∧ S k = true then (if c = 25 then -1 else if c = 26 ∨ c = 27 ∨ c = 28 then nI 0 else x c q k) else x c q k
theorem sVs_0 (x : zSt) (p : Nat) : sVs x p (fun _ => false) = x := zS_ext fun c q k => by
  unfold sVs
  rw [if_neg (fun e => by cases e.2)]
theorem sVa_eq (x : zSt) (p i c q k : Nat) : sVa x p i c q k = if q = p ∧ k = i then (if c = 25 then -1 else if c = 26 ∨ c = 27 ∨ c = 28 then nI 0 else x c q k) else x c q k := by
  unfold sVa
  simp only [su_eq]
  by_cases h25 : c = 25
  · subst h25
    simp only [Nat.reduceEqDiff, reduceIte]
    rw [u2_eq]
  by_cases h26 : c = 26
  · subst h26
    simp only [Nat.reduceEqDiff, reduceIte, true_or]
    rw [u2_eq]
  by_cases h27 : c = 27
  · subst h27
    simp only [Nat.reduceEqDiff, reduceIte, true_or, or_true]
    rw [u2_eq]
  by_cases h28 : c = 28
  · subst h28
    simp only [Nat.reduceEqDiff, reduceIte, or_true]
    rw [u2_eq]
  simp only [h25, h26, h27, h28, reduceIte, or_self, ite_self]
theorem sVa_sVs (x : zSt) (p i : Nat) (S : Nat → Bool) : sVa (sVs x p S) p i = sVs x p (fun k => S k || decide (k = i)) := zS_ext fun c q k => by
  rw [sVa_eq]
  unfold sVs
  by_cases hq : q = p
  · by_cases hk : k = i
    · simp only [hq, hk, and_self, reduceIte, decide_true, Bool.or_true]
      (repeat' split) <;> rfl
    · simp only [hq, hk, true_and, and_false, reduceIte, decide_false, Bool.or_false]
  · simp only [hq, false_and, reduceIte]
theorem sClr_sVs {h : zSt → Nat → Bool} {x : zSt} {p : Nat} (hh : ∀ S i, S i = false → h (sVs x p S) i = h x i) : ∀ n, sClr h p n x = (sVs x p (fun i => decide (i < n) && h x i), nI (tcnt (h x) n))
  | 0 => by
    have : (fun i => decide (i < 0) && h x i) = fun _ => false := funext fun i => by simp
    rw [this, sVs_0]
    rfl
  | n + 1 => by
    have e : sClr h p (n + 1) x = if h (sClr h p n x).1 n = true then (sVa (sClr h p n x).1 p n, (sClr h p n x).2 + nI 1) else sClr h p n x := rfl
    rw [e, sClr_sVs hh n]
    dsimp only
    rw [hh _ n (by simp)]
    have e2 : tcnt (h x) (n + 1) = tcnt (h x) n + (if h x n = true then 1 else 0) := rfl
    by_cases hc : h x n = true
    · rw [if_pos hc, sVa_sVs, e2, if_pos hc, nI_add]
      congr 2
      funext k
      by_cases hk : k = n
      · subst hk; simp [hc]
      · by_cases h2 : k < n
        · simp [h2, hk, show k < n + 1 by omega]
        · simp [h2, hk, show ¬ k < n + 1 by omega]
    · rw [if_neg hc, e2, if_neg hc, Nat.add_zero]
      congr 2
      funext k
      by_cases hk : k = n
      · subst hk; simp [hc]
      · by_cases h2 : k < n
        · simp [h2, show k < n + 1 by omega]
        · simp [h2, show ¬ k < n + 1 by omega]
def zSv (x : zSt) (p : Nat) (v : Int32) : Nat → Bool := fun i => decide (i < 60) && decide (x 25 p i = nI 1) && !decide (v < x 26 p i)
def zSe (x : zSt) (p : Nat) : Nat → Bool := fun i => decide (i < 60) && decide (x 25 p i = nI 1)
theorem sVs_25 (x : zSt) (p : Nat) (S : Nat → Bool) (i : Nat) : sVs x p S 25 p i = if S i = true then -1 else x 25 p i := by
  unfold sVs; simp only [true_and, reduceIte]
theorem sVs_26 (x : zSt) (p : Nat) (S : Nat → Bool) (i : Nat) : sVs x p S 26 p i = if S i = true then nI 0 else x 26 p i := by
  unfold sVs; simp only [true_and, reduceIte, Nat.reduceEqDiff, true_or]
theorem walk_va {x : zSt} {p b : Nat} (hN : iNum x p b) : ∀ (k : Nat) (v : Int32), ¬ v < nI 0 → zmu (x 25 p) (x 26 p) (nI 1) v ≤ k → sWk (fun x i => sVa x p i) p (nI 1) k (sVs x p (zSv x p v)) (sNm (sVs x p (zSv x p v)) p (nI 1) v) = (sVs x p (zSe x p), zmu (x 25 p) (x 26 p) (nI 1) v) := by
  intro k
  induction k with
  | zero =>
    intro v hv hk
    have hn : ∀ i, i < 60 → x 25 p i = nI 1 → ¬ v < x 26 p i := fun i hi e => by
      rcases sNx_spec (x 25 p) (x 26 p) (nI 1) v 60 (Nat.le_refl 60) with ⟨-, h⟩ | ⟨j, hj, -, a1, a2, -⟩
      · exact h i hi e
      · have := zmu_lt (sh' := x 25 p) (nu' := x 26 p) hj a1 a2 (fun i _ e => ⟨e, rfl⟩)
        omega
    have e : zSv x p v = zSe x p := funext fun i => by
      unfold zSv zSe
      by_cases h1 : i < 60
      · by_cases h2 : x 25 p i = nI 1
        · simp [h1, h2, hn i h1 h2]
        · simp [h2]
      · simp [h1]
    unfold sWk
    rw [e, show zmu (x 25 p) (x 26 p) (nI 1) v = 0 by omega]
  | succ k ih =>
    intro v hv hk
    have hsn : sNm (sVs x p (zSv x p v)) p (nI 1) v = sNx (x 25 p) (x 26 p) (nI 1) v 60 := by
      unfold sNm
      refine sNx_ext2 60 (Nat.le_refl 60) (fun i hi => ?_)
      rw [sVs_25, sVs_26]
      by_cases hs : zSv x p v i = true
      · rw [if_pos hs, if_pos hs]
        unfold zSv at hs
        simp only [Bool.and_eq_true, decide_eq_true_eq, Bool.not_eq_true', decide_eq_false_iff_not] at hs
        refine ⟨⟨fun q => absurd q.2 hs.2, fun q => absurd q.1.symm (nI_m1 (by omega))⟩, fun _ q => absurd q hs.2⟩
      · rw [if_neg hs, if_neg hs]
        exact ⟨Iff.rfl, fun _ _ => rfl⟩
    rw [hsn]
    rcases sNx_spec (x 25 p) (x 26 p) (nI 1) v 60 (Nat.le_refl 60) with ⟨e, h⟩ | ⟨j, hj, e, a1, a2, a3⟩
    · have e2 : zSv x p v = zSe x p := funext fun i => by
        unfold zSv zSe
        by_cases h1 : i < 60
        · by_cases h2 : x 25 p i = nI 1
          · simp [h1, h2, h i h1 h2]
          · simp [h2]
        · simp [h1]
      unfold sWk
      rw [e, if_pos rfl, zmu_0 h, e2]
    · have hd := iNum_dst hN (f := 1) (by omega)
      have hone := zmu_one hj a1 a2 a3 (fun i hi b1 b2 => hd i j hi hj b1 a1 b2)
      have hSj : zSv x p v j = false := by
        unfold zSv
        simp [a2]
      have hst : sVa (sVs x p (zSv x p v)) p j = sVs x p (zSv x p (x 26 p j)) := by
        rw [sVa_sVs]
        congr 1
        funext i
        unfold zSv
        by_cases h1 : i < 60
        · by_cases h2 : x 25 p i = nI 1
          · by_cases hij : i = j
            · subst hij
              have : ¬ x 26 p i < x 26 p i := by rw [Int32.lt_iff_toInt_lt]; omega
              simp [h1, h2, this]
            · have hne : ¬ x 26 p i = x 26 p j := fun q => hij (hd i j h1 hj h2 a1 q)
              have hne' : ¬ (x 26 p i).toInt = (x 26 p j).toInt := fun q => hne (Int32.toInt_inj.mp q)
              have h3 := a3 i h1 h2
              simp only [h1, h2, hij, decide_true, decide_false, Bool.true_and, Bool.or_false]
              congr 1
              apply decide_eq_decide.mpr
              rw [Int32.lt_iff_toInt_lt] at a2 ⊢
              rw [Int32.lt_iff_toInt_lt] at h3 ⊢
              rw [Int32.lt_iff_toInt_lt] at h3
              constructor
              · intro q; have := h3 q; omega
              · intro q; omega
          · by_cases hij : i = j
            · exact absurd (hij ▸ a1) h2
            · simp [h2, hij]
        · by_cases hij : i = j
          · omega
          · simp [h1, hij]
      have hnum : sVs x p (zSv x p v) 26 p j = x 26 p j := by
        rw [sVs_26, hSj]; rfl
      have hv' : ¬ x 26 p j < nI 0 := by
        rw [Int32.lt_iff_toInt_lt] at hv a2 ⊢
        omega
      have := ih (x 26 p j) hv' (by omega)
      unfold sWk
      rw [e, if_neg (nI_m1 (by omega)), nI_clamp (by omega), hst, hnum, this, hone]
theorem zSv_0 {x : zSt} {p b : Nat} (hb : b < 1000000000) (hN : iNum x p b) : zSv x p (nI 0) = fun _ => false := funext fun i => by
  unfold zSv
  by_cases h1 : i < 60
  · by_cases h2 : x 25 p i = nI 1
    · obtain ⟨u, v, e1, e2, e3, e4, e5⟩ := hN.2.1 i 1 h1 (by omega) h2
      rw [e1, decide_eq_true ((nI_ltI (by omega) (by omega)).mpr (by omega)), Bool.not_true, Bool.and_false]
    · rw [decide_eq_false h2, Bool.and_false, Bool.false_and]
  · rw [decide_eq_false h1]; rfl
theorem iRl_vs {x y : zSt} {n p : Nat} {nr : Nat → Nat} (S : Nat → Bool) (h : iRl x y n nr) : iRl (sVs x p S) (sVs y p S) n nr := by
  obtain ⟨h6, h7, h8⟩ := h
  have ho : ∀ (z : zSt) c, ¬ (25 ≤ c ∧ c ≤ 28) → sVs z p S c = z c := fun z c hc => funext fun q => funext fun k => by
    have h25 : ¬ c = 25 := by omega
    have h26 : ¬ c = 26 := by omega
    have h27 : ¬ c = 27 := by omega
    have h28 : ¬ c = 28 := by omega
    simp only [sVs, h25, h26, h27, h28, or_self, reduceIte, ite_self]
  refine ⟨fun c hc => ?_, fun c i a1 a2 hi => ?_, fun q r hq hr => ?_⟩
  · funext q k
    unfold sVs
    rw [h6 c hc]
  · rw [ho y c (by omega), ho x c (by omega)]
    exact h7 c i a1 a2 hi
  · have := h8 q r hq hr
    unfold iRr iFl at this ⊢
    rw [ho y 18 (by omega), ho y 19 (by omega), ho y 20 (by omega), ho y 21 (by omega), ho y 22 (by omega), ho x 17 (by omega), ho x 18 (by omega), ho x 19 (by omega), ho x 20 (by omega), ho x 21 (by omega), ho x 22 (by omega), ho x 23 (by omega)]
    exact this
theorem iBx_clr {h : zSt → Nat → Bool} {p q n c b : Nat} {x : zSt} (hb : iBx x q n c b) : ∀ k, iBx (sClr h p k x).1 q n c b
  | 0 => hb
  | k + 1 => by
    have e : sClr h p (k + 1) x = if h (sClr h p k x).1 k = true then (sVa (sClr h p k x).1 p k, (sClr h p k x).2 + nI 1) else sClr h p k x := rfl
    rw [e]
    have ih := iBx_clr (h := h) (p := p) hb k
    split
    · by_cases hq : q = p
      · subst hq; exact iBx_va ih
      · exact iBx_va_o hq ih
    · exact ih
theorem sClr_o {h : zSt → Nat → Bool} {p : Nat} {x : zSt} {c : Nat} (hc : ¬ (25 ≤ c ∧ c ≤ 28)) : ∀ k, (sClr h p k x).1 c = x c
  | 0 => rfl
  | k + 1 => by
    have e : sClr h p (k + 1) x = if h (sClr h p k x).1 k = true then (sVa (sClr h p k x).1 p k, (sClr h p k x).2 + nI 1) else sClr h p k x := rfl
    rw [e]
    have ih := sClr_o (h := h) (p := p) (x := x) hc k
    split
    · rw [← ih]
      unfold sVa
      simp only [su_eq]
      rw [if_neg (by omega), if_neg (by omega), if_neg (by omega), if_neg (by omega)]
    · exact ih
/-- two walks side by side, so many steps -/
theorem sWk_relK {stepx stepy : zSt → Nat → zSt} {p K : Nat} {f : Int32} {G : Nat → zSt → zSt → Prop} (he : ∀ j x y, G j x y → y 25 = x 25 ∧ y 26 = x 26) (hs : ∀ j x y i, j < K → i < 60 → x 25 p i = f → G j x y → G (j + 1) (stepx x i) (stepy y i)) (hm1 : ∀ j x y, j < K → G j x y → G (j + 1) x y) : ∀ (k j : Nat) (x y : zSt) (m : Int32), j + k ≤ K → (m = -1 ∨ ∃ i, i < 60 ∧ m = nI i ∧ x 25 p i = f) → G j x y → G (j + k) (sWk stepx p f k x m).1 (sWk stepy p f k y m).1 ∧ (sWk stepy p f k y m).2 = (sWk stepx p f k x m).2 := by
  intro k
  induction k with
  | zero => intro j x y m hK hm h; exact ⟨h, rfl⟩
  | succ k ih =>
    intro j x y m hK hm h
    unfold sWk
    by_cases e0 : m = -1
    · rw [if_pos e0, if_pos e0]
      refine ⟨?_, rfl⟩
      have mono : ∀ t, j + t ≤ K → G (j + t) x y := by
        intro t
        induction t with
        | zero => intro _; exact h
        | succ t iht => intro ht; exact hm1 (j + t) x y (by omega) (iht (by omega))
      exact mono (k + 1) hK
    · rw [if_neg e0, if_neg e0]
      obtain ⟨i, hi, rfl, hsh⟩ := hm.resolve_left e0
      rw [nI_clamp (by omega)]
      have hg := hs j x y i (by omega) hi hsh h
      obtain ⟨a1, a2⟩ := he _ _ _ hg
      obtain ⟨b1, b2⟩ := he _ _ _ h
      have hnm : sNm (stepy y i) p f (y 26 p i) = sNm (stepx x i) p f (x 26 p i) := by
        unfold sNm
        rw [a1, a2, b2]
      rw [hnm]
      obtain ⟨c1, c2⟩ := ih (j + 1) _ _ _ (by omega) (sNm_ok (stepx x i) p f (x 26 p i)) hg
      refine ⟨?_, by rw [c2]⟩
      rw [show j + (k + 1) = j + 1 + k by omega]
      exact c1
def zWn (y : zSt) (p n : Nat) : Prop := y 0 0 2 = nI n ∧ ∀ i, n ≤ i → i < 60 → y 25 p i = -1
theorem zW_lay {y : zSt} {p n i k : Nat} (h : zWn y p n) (hi : i < n) : zWn (sLay y p i k) p n := by
  refine ⟨h.1, fun j h1 h2 => ?_⟩
  rw [(sLay_c y p i k).1, u2_eq, if_neg (by omega)]
  exact h.2 j h1 h2
theorem zW_va {y : zSt} {p n i : Nat} (h : zWn y p n) (hi : i < n) : zWn (sVa y p i) p n := by
  refine ⟨h.1, fun j h1 h2 => ?_⟩
  rw [sVa_eq, if_neg (by omega)]
  exact h.2 j h1 h2
theorem sWk_st {step : zSt → Nat → zSt} {p : Nat} {f : Int32} {k : Nat} {y : zSt} {j : Nat} (hj : j < 60) : sWk step p f (k + 1) y (nI j) = ((sWk step p f k (step y j) (sNm (step y j) p f (y 26 p j))).1, (sWk step p f k (step y j) (sNm (step y j) p f (y 26 p j))).2 + 1) := by
  conv => lhs; unfold sWk
  rw [if_neg (nI_m1 (by omega)), nI_clamp (by omega)]
section ZC
variable {x : zSt} {E : zEx} {Q : zO → zM → Prop}
theorem c152_lp {p f n : Nat} {step : zSt → Nat → zSt} (hp : p < 4) (h60 : n ≤ 60) (hf : f < 8) (hst : ∀ y i, i < n → zWn y p n → zWn (step y i) p n) (hsh : ∀ y i i', i < 60 → i' < 60 → step y i 25 p i' = nI f → y 25 p i' = nI f ∧ step y i 26 p i' = y 26 p i')
  (hcode : ∀ (y : zSt) (i s : Nat) (v : Int32), i < n → (zwp zm_152 (58, [some (.ref 409), some (.int (nI p)), some (.int (nI f)), some (.int (nI s)), some (.int v), some (.int (nI i))], [], zmem x y E, 0, 0) Q ↔ zwp zm_152 (81, [some (.ref 409), some (.int (nI p)), some (.int (nI f)), some (.int (nI s)), some (.int v), some (.int (nI i))], [], zmem x (step y i) E, 0, 0) Q)) :
  ∀ (k s : Nat) (y : zSt) (v : Int32), zmu (y 25 p) (y 26 p) (nI f) v ≤ k → zWn y p n → (zwp zm_152 (35, [some (.ref 409), some (.int (nI p)), some (.int (nI f)), some (.int (nI s)), some (.int v), some (.int (sNm y p (nI f) v))], [], zmem x y E, 0, 0) Q ↔ Q (.inl (some (.int (nI (s + (sWk step p (nI f) k y (sNm y p (nI f) v)).2))))) (zmem x (sWk step p (nI f) k y (sNm y p (nI f) v)).1 E)) := by
  intro k
  induction k with
  | zero =>
    intro s y v hk hW
    have hm : sNm y p (nI f) v = -1 := by
      rcases sNx_spec (y 25 p) (y 26 p) (nI f) v 60 (Nat.le_refl 60) with ⟨e, -⟩ | ⟨j, hj, -, a1, a2, -⟩
      · exact e
      · have := zmu_lt (sh' := y 25 p) (nu' := y 26 p) hj a1 a2 (fun i _ e => ⟨e, rfl⟩)
        omega
    rw [hm, p152_35]
    simp (disch := omega) only [p152_0, p152_1, p152_2, p152_5, p152_6, p152_7, p152_8, p152_11, p152_14, p152_15, p152_16, p152_19, p152_20, p152_21, p152_22, p152_23, p152_25, p152_26, p152_27, p152_28, p152_30, p152_33, p152_37, p152_38, p152_41, p152_42, p152_45, p152_46, p152_48, p152_49, p152_51, p152_52, p152_53, p152_55, p152_59, p152_60, p152_63, p152_64, p152_65, p152_67, p152_70, p152_73, p152_74, p152_75, p152_77, p152_78, p152_82, p152_83, p152_84, p152_86, p152_89, p152_91, p152_94, p152_95, l_md_ok, l_md_0, l_md_0p, l_md_1, l_md_1p, l_md_2, l_md_2p, l_md_3, l_md_3p, l_md_4, l_md_4p, l_md_5, l_md_6, l_md_7, l_md_8, l_md_9, l_md_10, l_md_11, l_md_12, l_md_13, l_md_14, l_md_15, l_md_16, l_md_17, l_md_17p, l_md_18, l_md_19, l_md_20, l_md_21, l_md_22, l_md_23, l_md_24, l_md_25, l_md_26, l_md_27, l_md_28, l_md_29, l_md_30, l_md_30p, l_md_31, l_md_32, l_md_33, l_md_34, l_md_34p, l_md_35, l_md_35p, l_md_36, l_md_36p, l_md_37, l_md_37p, l_md_38, zvi_int, zvl_long, zvd_double, zvr_ref, zisI_int, zisR_ref, zgI_int, zgR_ref, zkl_int, zkl_ref, zkl_none, zkl_long, zkl_double, zct_nil, zct_int, zct_ref, zct_long, zct_double, zbk_some, zbk_none, zbk_exc, nI_clamp, nI_add, nI_mul, true_and, and_true, Nat.reduceAdd, Nat.reduceMul, Nat.reduceLeDiff, Nat.reducePow, ↓reduceIte, Nat.zero_add, Nat.add_zero, Nat.reduceLT, Nat.reduceEqDiff, Nat.le_refl, zn10, zn01, zfitB0, zfitB1, znarB0, znarB1, Nat.lt_irrefl, ↓zvi_eq, ↓zvr_eq, sWk]
  | succ k ih =>
    intro s y v hk hW
    rcases sNx_spec (y 25 p) (y 26 p) (nI f) v 60 (Nat.le_refl 60) with ⟨e, -⟩ | ⟨j, hj, e, a1, a2, a3⟩
    · rw [show sNm y p (nI f) v = -1 from e, p152_35]
      simp (disch := omega) only [p152_0, p152_1, p152_2, p152_5, p152_6, p152_7, p152_8, p152_11, p152_14, p152_15, p152_16, p152_19, p152_20, p152_21, p152_22, p152_23, p152_25, p152_26, p152_27, p152_28, p152_30, p152_33, p152_37, p152_38, p152_41, p152_42, p152_45, p152_46, p152_48, p152_49, p152_51, p152_52, p152_53, p152_55, p152_59, p152_60, p152_63, p152_64, p152_65, p152_67, p152_70, p152_73, p152_74, p152_75, p152_77, p152_78, p152_82, p152_83, p152_84, p152_86, p152_89, p152_91, p152_94, p152_95, l_md_ok, l_md_0, l_md_0p, l_md_1, l_md_1p, l_md_2, l_md_2p, l_md_3, l_md_3p, l_md_4, l_md_4p, l_md_5, l_md_6, l_md_7, l_md_8, l_md_9, l_md_10, l_md_11, l_md_12, l_md_13, l_md_14, l_md_15, l_md_16, l_md_17, l_md_17p, l_md_18, l_md_19, l_md_20, l_md_21, l_md_22, l_md_23, l_md_24, l_md_25, l_md_26, l_md_27, l_md_28, l_md_29, l_md_30, l_md_30p, l_md_31, l_md_32, l_md_33, l_md_34, l_md_34p, l_md_35, l_md_35p, l_md_36, l_md_36p, l_md_37, l_md_37p, l_md_38, zvi_int, zvl_long, zvd_double, zvr_ref, zisI_int, zisR_ref, zgI_int, zgR_ref, zkl_int, zkl_ref, zkl_none, zkl_long, zkl_double, zct_nil, zct_int, zct_ref, zct_long, zct_double, zbk_some, zbk_none, zbk_exc, nI_clamp, nI_add, nI_mul, true_and, and_true, Nat.reduceAdd, Nat.reduceMul, Nat.reduceLeDiff, Nat.reducePow, ↓reduceIte, Nat.zero_add, Nat.add_zero, Nat.reduceLT, Nat.reduceEqDiff, Nat.le_refl, zn10, zn01, zfitB0, zfitB1, znarB0, znarB1, Nat.lt_irrefl, ↓zvi_eq, ↓zvr_eq, sWk]
    · have hjn : j < n := by
        by_cases hjn : j < n
        · exact hjn
        · rw [hW.2 j (by omega) hj] at a1
          exact absurd a1.symm (nI_m1 (by omega))
      have hm1 := nI_m1 (k := j) (by omega)
      have hW' := hst y j hjn hW
      have hmu := zmu_lt (sh' := step y j 25 p) (nu' := step y j 26 p) hj a1 a2 (fun i hi e => hsh y j i hj hi e)
      have hih := ih (s + 1) (step y j) (y 26 p j) (by omega) hW'
      have h146 : ∀ (Q : zO → zM → Prop), zcl 146 [.ref 409, .int (nI p), .int (nI f), .int (y 26 p j)] (zmem x (step y j) E) Q ↔ Q (.inl (some (.int (sNm (step y j) p (nI f) (y 26 p j))))) (zmem x (step y j) E) := fun Q => by
        rw [c146 hp hW'.1 h60]
        have := sNx_more (sh := step y j 25 p) (nu := step y j 26 p) (f := nI f) (v := y 26 p j) (n := n) 60 h60 (fun i h1 h2 => by rw [hW'.2 i h1 h2]; exact fun q => nI_m1 (k := f) (by omega) q.symm)
        rw [← this]
        rfl
      have hc := hcode y j (s + 1) (y 26 p j) hjn
      rw [show sNm y p (nI f) v = nI j from e, sWk_st hj, p152_35]
      simp (disch := omega) only [p152_0, p152_1, p152_2, p152_5, p152_6, p152_7, p152_8, p152_11, p152_14, p152_15, p152_16, p152_19, p152_20, p152_21, p152_22, p152_23, p152_25, p152_26, p152_27, p152_28, p152_30, p152_33, p152_37, p152_38, p152_41, p152_42, p152_45, p152_46, p152_48, p152_49, p152_51, p152_52, p152_53, p152_55, p152_59, p152_60, p152_63, p152_64, p152_65, p152_67, p152_70, p152_73, p152_74, p152_75, p152_77, p152_78, p152_82, p152_83, p152_84, p152_86, p152_89, p152_91, p152_94, p152_95, hm1, l_md_ok, l_md_0, l_md_0p, l_md_1, l_md_1p, l_md_2, l_md_2p, l_md_3, l_md_3p, l_md_4, l_md_4p, l_md_5, l_md_6, l_md_7, l_md_8, l_md_9, l_md_10, l_md_11, l_md_12, l_md_13, l_md_14, l_md_15, l_md_16, l_md_17, l_md_17p, l_md_18, l_md_19, l_md_20, l_md_21, l_md_22, l_md_23, l_md_24, l_md_25, l_md_26, l_md_27, l_md_28, l_md_29, l_md_30, l_md_30p, l_md_31, l_md_32, l_md_33, l_md_34, l_md_34p, l_md_35, l_md_35p, l_md_36, l_md_36p, l_md_37, l_md_37p, l_md_38, l_mnumber_ar, l_mnumber_ln, l_mnumber_ia, l_mnumber_is, l_mnumber_e, l_mnumber_ep, zvi_int, zvl_long, zvd_double, zvr_ref, zisI_int, zisR_ref, zgI_int, zgR_ref, zkl_int, zkl_ref, zkl_none, zkl_long, zkl_double, zct_nil, zct_int, zct_ref, zct_long, zct_double, zbk_some, zbk_none, zbk_exc, nI_clamp, nI_add, nI_mul, true_and, and_true, Nat.reduceAdd, Nat.reduceMul, Nat.reduceLeDiff, Nat.reducePow, ↓reduceIte, Nat.zero_add, Nat.add_zero, Nat.reduceLT, Nat.reduceEqDiff, Nat.le_refl, zn10, zn01, zfitB0, zfitB1, znarB0, znarB1, Nat.lt_irrefl, ↓zvi_eq, ↓zvr_eq]
      rw [hc, p152_81]
      simp (disch := omega) only [p152_0, p152_1, p152_2, p152_5, p152_6, p152_7, p152_8, p152_11, p152_14, p152_15, p152_16, p152_19, p152_20, p152_21, p152_22, p152_23, p152_25, p152_26, p152_27, p152_28, p152_30, p152_33, p152_37, p152_38, p152_41, p152_42, p152_45, p152_46, p152_48, p152_49, p152_51, p152_52, p152_53, p152_55, p152_59, p152_60, p152_63, p152_64, p152_65, p152_67, p152_70, p152_73, p152_74, p152_75, p152_77, p152_78, p152_82, p152_83, p152_84, p152_86, p152_89, p152_91, p152_94, p152_95, h146, l_md_ok, l_md_0, l_md_0p, l_md_1, l_md_1p, l_md_2, l_md_2p, l_md_3, l_md_3p, l_md_4, l_md_4p, l_md_5, l_md_6, l_md_7, l_md_8, l_md_9, l_md_10, l_md_11, l_md_12, l_md_13, l_md_14, l_md_15, l_md_16, l_md_17, l_md_17p, l_md_18, l_md_19, l_md_20, l_md_21, l_md_22, l_md_23, l_md_24, l_md_25, l_md_26, l_md_27, l_md_28, l_md_29, l_md_30, l_md_30p, l_md_31, l_md_32, l_md_33, l_md_34, l_md_34p, l_md_35, l_md_35p, l_md_36, l_md_36p, l_md_37, l_md_37p, l_md_38, zvi_int, zvl_long, zvd_double, zvr_ref, zisI_int, zisR_ref, zgI_int, zgR_ref, zkl_int, zkl_ref, zkl_none, zkl_long, zkl_double, zct_nil, zct_int, zct_ref, zct_long, zct_double, zbk_some, zbk_none, zbk_exc, nI_clamp, nI_add, nI_mul, true_and, and_true, Nat.reduceAdd, Nat.reduceMul, Nat.reduceLeDiff, Nat.reducePow, ↓reduceIte, Nat.zero_add, Nat.add_zero, Nat.reduceLT, Nat.reduceEqDiff, Nat.le_refl, zn10, zn01, zfitB0, zfitB1, znarB0, znarB1, Nat.lt_irrefl, ↓zvi_eq, ↓zvr_eq]
      rw [hih, Nat.add_assoc, Nat.add_comm 1]
end ZC
section ZT
variable {x y : zSt} {E : zEx} {b : Nat}
theorem sLay_sh {y : zSt} {p f i i' : Nat} (hf : f < 8) (h1 : ¬ f = 1) (e : sLay y p i 1 25 p i' = nI f) : y 25 p i' = nI f ∧ sLay y p i 1 26 p i' = y 26 p i' := by
  rw [(sLay_c y p i 1).1, u2_row] at e
  rw [(sLay_c y p i 1).2.1, u2_row]
  dsimp only at e ⊢
  by_cases h : i' = i
  · rw [if_pos h] at e
    exact absurd ((nI_eq (by omega) (by omega)).mp e).symm h1
  · rw [if_neg h] at e ⊢
    exact ⟨e, rfl⟩
theorem sVa_sh {y : zSt} {p f i i' : Nat} (hf : f < 8) (e : sVa y p i 25 p i' = nI f) : y 25 p i' = nI f ∧ sVa y p i 26 p i' = y 26 p i' := by
  rw [sVa_eq] at e ⊢
  simp only [true_and, reduceIte] at e ⊢
  by_cases h : i' = i
  · rw [if_pos h] at e
    exact absurd e.symm (nI_m1 (by omega))
  · rw [if_neg h] at e ⊢
    exact ⟨e, rfl⟩
theorem t13 (hb : b < 900000000) (h : zInv x y b) (v f : Int32) : zOK 195 152 [.ref 1, .int v, .int f, .ref 438] [.ref 409, .int v, .int f] x y E b := by
  rcases zper v with h0 | ⟨h0, h4, h3⟩ | ⟨p, hp, rfl⟩
  · refine zOK_no (c := 1) (r := nI 0) h (by omega) (fun Q => ?_) (fun Q => ?_)
    · rw [e195]
      simp (disch := omega) only [p195_0, p195_1, p195_2, p195_3, p195_4, p195_5, p195_8, p195_9, p195_10, p195_15, p195_16, p195_17, p195_18, x195_12, e54, p54_0, p54_1, p54_2, p54_5, p54_6, p54_7, p54_8, p54_11, p54_12, p54_13, p54_16, p54_17, p54_18, p54_21, p54_24, p54_25, p54_26, p54_27, p54_30, x54, e74, p74_0, p74_1, p74_2, p74_5, p74_8, p74_19, x74, c73, c73_a, c73_b, c32, nI_ltI, Nat.not_lt_zero, Nat.lt_irrefl, zo_ia, zo_ep, eq_self, h0, l_dm_ok, l_dm_0, l_dm_1, l_dm_2, l_dm_2p, l_dm_3, l_dm_4, l_dm_4p, l_dm_5, l_dm_6, l_dm_6p, l_dm_7, l_dm_7p, l_dm_8, l_dm_8p, l_dm_9, l_dm_9p, l_dm_10, l_dm_11, l_dm_12, l_dm_13, l_dm_14, l_bx_ok, l_bx_0, l_bx_1, l_bx_1p, l_bx_2, l_bx_3, l_bx_3p, l_bx_4, l_bx_5, l_bx_5p, l_bxa_ar, l_bxa_ln, l_bxa_ia, l_bxa_e, l_lea_ar, l_lea_ln, l_lea_ia, l_lea_e, l_qua_ar, l_qua_ln, l_qua_ia, l_qua_e, l_bo_ar, l_bo_ln, l_bo_ia, l_bo_is, l_bo_e, l_bo_ep, l_fc_ar, l_fc_ln, l_fc_ia, l_fc_is, l_fc_e, l_fc_ep, l_sha_ar, l_sha_ln, l_sha_ia, l_sha_e, l_rua_ar, l_rua_ln, l_rua_ia, l_rua_e, l_rua_ep, l_rua_e2, l_coa_ar, l_coa_ln, l_coa_ia, l_coa_e, zvi_int, zvl_long, zvd_double, zvr_ref, zisI_int, zisR_ref, zgI_int, zgR_ref, zkl_int, zkl_ref, zkl_none, zkl_long, zkl_double, zct_nil, zct_int, zct_ref, zct_long, zct_double, zbk_some, zbk_none, zbk_exc, nI_clamp, nI_add, nI_mul, true_and, and_true, Nat.reduceAdd, Nat.reduceMul, Nat.reduceLeDiff, Nat.reducePow, ↓reduceIte, Nat.zero_add, Nat.add_zero, Nat.reduceLT, Nat.reduceEqDiff, Nat.le_refl, zn10, zn01, zfitB0, zfitB1, znarB0, znarB1, Nat.lt_irrefl, ↓zvi_eq, ↓zvr_eq]
    · rw [e152]
      simp (disch := omega) only [p152_0, p152_1, p152_2, p152_5, p152_6, p152_7, p152_8, p152_11, p152_14, p152_15, p152_16, p152_19, p152_20, p152_21, p152_22, p152_23, p152_25, p152_26, p152_27, p152_28, p152_30, p152_33, p152_37, p152_38, p152_41, p152_42, p152_45, p152_46, p152_48, p152_49, p152_51, p152_52, p152_53, p152_55, p152_58, p152_59, p152_60, p152_63, p152_64, p152_65, p152_67, p152_70, p152_73, p152_74, p152_75, p152_77, p152_78, p152_81, p152_82, p152_83, p152_84, p152_86, p152_89, p152_91, p152_94, p152_95, e120, p120_0, p120_1, p120_4, p120_7, p120_8, p120_9, p120_10, p120_13, p120_14, p120_15, p120_16, p120_17, p120_20, p120_23, p120_24, p120_27, p120_28, e119, p119_0, p119_1, p119_2, p119_3, p119_6, e118, p118_0, p118_1, p118_2, p118_5, p118_6, p118_7, p118_10, p118_11, p118_14, p118_15, e116, p116_0, p116_1, p116_2, p116_5, p116_6, mTh_fold, mTh_mTh, mTh_o, mTh_th, nI_ltI, Nat.not_lt_zero, Nat.lt_irrefl, eq_self, h0, l_md_ok, l_md_0, l_md_0p, l_md_1, l_md_1p, l_md_2, l_md_2p, l_md_3, l_md_3p, l_md_4, l_md_4p, l_md_5, l_md_6, l_md_7, l_md_8, l_md_9, l_md_10, l_md_11, l_md_12, l_md_13, l_md_14, l_md_15, l_md_16, l_md_17, l_md_17p, l_md_18, l_md_19, l_md_20, l_md_21, l_md_22, l_md_23, l_md_24, l_md_25, l_md_26, l_md_27, l_md_28, l_md_29, l_md_30, l_md_30p, l_md_31, l_md_32, l_md_33, l_md_34, l_md_34p, l_md_35, l_md_35p, l_md_36, l_md_36p, l_md_37, l_md_37p, l_md_38, l_mfolders_ar, l_mfolders_ln, l_mfolders_ia, l_mfolders_is, l_mfolders_e, l_mfolders_ep, zvi_int, zvl_long, zvd_double, zvr_ref, zisI_int, zisR_ref, zgI_int, zgR_ref, zkl_int, zkl_ref, zkl_none, zkl_long, zkl_double, zct_nil, zct_int, zct_ref, zct_long, zct_double, zbk_some, zbk_none, zbk_exc, nI_clamp, nI_add, nI_mul, true_and, and_true, Nat.reduceAdd, Nat.reduceMul, Nat.reduceLeDiff, Nat.reducePow, ↓reduceIte, Nat.zero_add, Nat.add_zero, Nat.reduceLT, Nat.reduceEqDiff, Nat.le_refl, zn10, zn01, zfitB0, zfitB1, znarB0, znarB1, Nat.lt_irrefl, ↓zvi_eq, ↓zvr_eq]
  · refine zOK_no (c := 1) (r := nI 0) h (by omega) (fun Q => ?_) (fun Q => ?_)
    · rw [e195]
      simp (disch := omega) only [p195_0, p195_1, p195_2, p195_3, p195_4, p195_5, p195_8, p195_9, p195_10, p195_15, p195_16, p195_17, p195_18, x195_12, e54, p54_0, p54_1, p54_2, p54_5, p54_6, p54_7, p54_8, p54_11, p54_12, p54_13, p54_16, p54_17, p54_18, p54_21, p54_24, p54_25, p54_26, p54_27, p54_30, x54, e74, p74_0, p74_1, p74_2, p74_5, p74_8, p74_19, x74, c73, c73_a, c73_b, c32, nI_ltI, Nat.not_lt_zero, Nat.lt_irrefl, zo_ia, zo_ep, eq_self, h0, h4, h3, l_dm_ok, l_dm_0, l_dm_1, l_dm_2, l_dm_2p, l_dm_3, l_dm_4, l_dm_4p, l_dm_5, l_dm_6, l_dm_6p, l_dm_7, l_dm_7p, l_dm_8, l_dm_8p, l_dm_9, l_dm_9p, l_dm_10, l_dm_11, l_dm_12, l_dm_13, l_dm_14, l_bx_ok, l_bx_0, l_bx_1, l_bx_1p, l_bx_2, l_bx_3, l_bx_3p, l_bx_4, l_bx_5, l_bx_5p, l_bxa_ar, l_bxa_ln, l_bxa_ia, l_bxa_e, l_lea_ar, l_lea_ln, l_lea_ia, l_lea_e, l_qua_ar, l_qua_ln, l_qua_ia, l_qua_e, l_bo_ar, l_bo_ln, l_bo_ia, l_bo_is, l_bo_e, l_bo_ep, l_fc_ar, l_fc_ln, l_fc_ia, l_fc_is, l_fc_e, l_fc_ep, l_sha_ar, l_sha_ln, l_sha_ia, l_sha_e, l_rua_ar, l_rua_ln, l_rua_ia, l_rua_e, l_rua_ep, l_rua_e2, l_coa_ar, l_coa_ln, l_coa_ia, l_coa_e, zvi_int, zvl_long, zvd_double, zvr_ref, zisI_int, zisR_ref, zgI_int, zgR_ref, zkl_int, zkl_ref, zkl_none, zkl_long, zkl_double, zct_nil, zct_int, zct_ref, zct_long, zct_double, zbk_some, zbk_none, zbk_exc, nI_clamp, nI_add, nI_mul, true_and, and_true, Nat.reduceAdd, Nat.reduceMul, Nat.reduceLeDiff, Nat.reducePow, ↓reduceIte, Nat.zero_add, Nat.add_zero, Nat.reduceLT, Nat.reduceEqDiff, Nat.le_refl, zn10, zn01, zfitB0, zfitB1, znarB0, znarB1, Nat.lt_irrefl, ↓zvi_eq, ↓zvr_eq]
    · rw [e152]
      simp (disch := omega) only [p152_0, p152_1, p152_2, p152_5, p152_6, p152_7, p152_8, p152_11, p152_14, p152_15, p152_16, p152_19, p152_20, p152_21, p152_22, p152_23, p152_25, p152_26, p152_27, p152_28, p152_30, p152_33, p152_37, p152_38, p152_41, p152_42, p152_45, p152_46, p152_48, p152_49, p152_51, p152_52, p152_53, p152_55, p152_58, p152_59, p152_60, p152_63, p152_64, p152_65, p152_67, p152_70, p152_73, p152_74, p152_75, p152_77, p152_78, p152_81, p152_82, p152_83, p152_84, p152_86, p152_89, p152_91, p152_94, p152_95, e120, p120_0, p120_1, p120_4, p120_7, p120_8, p120_9, p120_10, p120_13, p120_14, p120_15, p120_16, p120_17, p120_20, p120_23, p120_24, p120_27, p120_28, e119, p119_0, p119_1, p119_2, p119_3, p119_6, e118, p118_0, p118_1, p118_2, p118_5, p118_6, p118_7, p118_10, p118_11, p118_14, p118_15, e116, p116_0, p116_1, p116_2, p116_5, p116_6, mTh_fold, mTh_mTh, mTh_o, mTh_th, nI_ltI, Nat.not_lt_zero, Nat.lt_irrefl, eq_self, h0, h4, h3, l_md_ok, l_md_0, l_md_0p, l_md_1, l_md_1p, l_md_2, l_md_2p, l_md_3, l_md_3p, l_md_4, l_md_4p, l_md_5, l_md_6, l_md_7, l_md_8, l_md_9, l_md_10, l_md_11, l_md_12, l_md_13, l_md_14, l_md_15, l_md_16, l_md_17, l_md_17p, l_md_18, l_md_19, l_md_20, l_md_21, l_md_22, l_md_23, l_md_24, l_md_25, l_md_26, l_md_27, l_md_28, l_md_29, l_md_30, l_md_30p, l_md_31, l_md_32, l_md_33, l_md_34, l_md_34p, l_md_35, l_md_35p, l_md_36, l_md_36p, l_md_37, l_md_37p, l_md_38, l_mfolders_ar, l_mfolders_ln, l_mfolders_ia, l_mfolders_is, l_mfolders_e, l_mfolders_ep, zvi_int, zvl_long, zvd_double, zvr_ref, zisI_int, zisR_ref, zgI_int, zgR_ref, zkl_int, zkl_ref, zkl_none, zkl_long, zkl_double, zct_nil, zct_int, zct_ref, zct_long, zct_double, zbk_some, zbk_none, zbk_exc, nI_clamp, nI_add, nI_mul, true_and, and_true, Nat.reduceAdd, Nat.reduceMul, Nat.reduceLeDiff, Nat.reducePow, ↓reduceIte, Nat.zero_add, Nat.add_zero, Nat.reduceLT, Nat.reduceEqDiff, Nat.le_refl, zn10, zn01, zfitB0, zfitB1, znarB0, znarB1, Nat.lt_irrefl, ↓zvi_eq, ↓zvr_eq]
  obtain ⟨n, qn, t, w, l, fc, nr, hSc, hBx, hRu, hLe, hQs, hRl⟩ := id h
  obtain ⟨hn, h60, hq, h20, ht, ht9, hw, hw50, hl, hl100⟩ := id hSc
  have y0 : y 0 = x 0 := iRl_sh hRl iSh_0
  have y1 : y 1 = x 1 := iRl_sh hRl iSh_1
  have y13 : y 13 = x 13 := iRl_sh hRl (iSh_a (by omega) (by omega))
  have y14 : y 14 = x 14 := iRl_sh hRl (iSh_a (by omega) (by omega))
  have y15 : y 15 = x 15 := iRl_sh hRl (iSh_a (by omega) (by omega))
  have y16 : y 16 = x 16 := iRl_sh hRl (iSh_a (by omega) (by omega))
  have y24 : y 24 = x 24 := iRl_sh hRl (iSh_b (by omega) (by omega))
  have y25 : y 25 = x 25 := iRl_sh hRl (iSh_b (by omega) (by omega))
  have y26 : y 26 = x 26 := iRl_sh hRl (iSh_b (by omega) (by omega))
  have y27 : y 27 = x 27 := iRl_sh hRl (iSh_b (by omega) (by omega))
  have y28 : y 28 = x 28 := iRl_sh hRl (iSh_b (by omega) (by omega))
  have y29 : y 29 = x 29 := iRl_sh hRl (iSh_b (by omega) (by omega))
  have y36 : y 36 = x 36 := iRl_sh hRl (iSh_c (by omega) (by omega))
  have y37 : y 37 = x 37 := iRl_sh hRl (iSh_c (by omega) (by omega))
  have y38 : y 38 = x 38 := iRl_sh hRl (iSh_c (by omega) (by omega))
  have hny : y 0 0 2 = nI n := by rw [y0]; exact hn
  have hqy : y 0 0 4 = nI qn := by rw [y0]; exact hq
  have hp3 : ¬ 3 < p := by omega
  obtain ⟨⟨hc1, hc8, hF, hK, hM⟩, hc2, hN, hC⟩ := id (hBx p hp)
  have hcy : y 13 p 1 = nI (fc p) := by rw [y13]; exact hc1
  have hBy : zBx y p n (fc p) := by unfold zBx; rw [y13, y14, y25, y27]; exact (hBx p hp).1
  rcases zrng f (n := fc p) (by omega) with g0 | ⟨g0, g1, g2⟩ | ⟨f, hf, rfl⟩
  · refine zOK_no (c := 1) (r := nI 0) h (by omega) (fun Q => ?_) (fun Q => ?_)
    · rw [e195]
      simp (disch := omega) only [p195_0, p195_1, p195_2, p195_3, p195_4, p195_5, p195_8, p195_9, p195_10, p195_15, p195_16, p195_17, p195_18, x195_12, e54, p54_0, p54_1, p54_2, p54_5, p54_6, p54_7, p54_8, p54_11, p54_12, p54_13, p54_16, p54_17, p54_18, p54_21, p54_24, p54_25, p54_26, p54_27, p54_30, x54, e74, p74_0, p74_1, p74_2, p74_5, p74_8, p74_19, x74, c73, c73_a, c73_b, c32, nI_ltI, Nat.not_lt_zero, Nat.lt_irrefl, zo_ia, zo_ep, eq_self, hp3, hc1, hcy, zprd, g0, l_dm_ok, l_dm_0, l_dm_1, l_dm_2, l_dm_2p, l_dm_3, l_dm_4, l_dm_4p, l_dm_5, l_dm_6, l_dm_6p, l_dm_7, l_dm_7p, l_dm_8, l_dm_8p, l_dm_9, l_dm_9p, l_dm_10, l_dm_11, l_dm_12, l_dm_13, l_dm_14, l_bx_ok, l_bx_0, l_bx_1, l_bx_1p, l_bx_2, l_bx_3, l_bx_3p, l_bx_4, l_bx_5, l_bx_5p, l_bxa_ar, l_bxa_ln, l_bxa_ia, l_bxa_e, l_lea_ar, l_lea_ln, l_lea_ia, l_lea_e, l_qua_ar, l_qua_ln, l_qua_ia, l_qua_e, l_bo_ar, l_bo_ln, l_bo_ia, l_bo_is, l_bo_e, l_bo_ep, l_fc_ar, l_fc_ln, l_fc_ia, l_fc_is, l_fc_e, l_fc_ep, l_sha_ar, l_sha_ln, l_sha_ia, l_sha_e, l_rua_ar, l_rua_ln, l_rua_ia, l_rua_e, l_rua_ep, l_rua_e2, l_coa_ar, l_coa_ln, l_coa_ia, l_coa_e, zvi_int, zvl_long, zvd_double, zvr_ref, zisI_int, zisR_ref, zgI_int, zgR_ref, zkl_int, zkl_ref, zkl_none, zkl_long, zkl_double, zct_nil, zct_int, zct_ref, zct_long, zct_double, zbk_some, zbk_none, zbk_exc, nI_clamp, nI_add, nI_mul, true_and, and_true, Nat.reduceAdd, Nat.reduceMul, Nat.reduceLeDiff, Nat.reducePow, ↓reduceIte, Nat.zero_add, Nat.add_zero, Nat.reduceLT, Nat.reduceEqDiff, Nat.le_refl, zn10, zn01, zfitB0, zfitB1, znarB0, znarB1, Nat.lt_irrefl, ↓zvi_eq, ↓zvr_eq]
    · rw [e152]
      simp (disch := omega) only [p152_0, p152_1, p152_2, p152_5, p152_6, p152_7, p152_8, p152_11, p152_14, p152_15, p152_16, p152_19, p152_20, p152_21, p152_22, p152_23, p152_25, p152_26, p152_27, p152_28, p152_30, p152_33, p152_37, p152_38, p152_41, p152_42, p152_45, p152_46, p152_48, p152_49, p152_51, p152_52, p152_53, p152_55, p152_58, p152_59, p152_60, p152_63, p152_64, p152_65, p152_67, p152_70, p152_73, p152_74, p152_75, p152_77, p152_78, p152_81, p152_82, p152_83, p152_84, p152_86, p152_89, p152_91, p152_94, p152_95, e120, p120_0, p120_1, p120_4, p120_7, p120_8, p120_9, p120_10, p120_13, p120_14, p120_15, p120_16, p120_17, p120_20, p120_23, p120_24, p120_27, p120_28, e119, p119_0, p119_1, p119_2, p119_3, p119_6, e118, p118_0, p118_1, p118_2, p118_5, p118_6, p118_7, p118_10, p118_11, p118_14, p118_15, e116, p116_0, p116_1, p116_2, p116_5, p116_6, mTh_fold, mTh_mTh, mTh_o, mTh_th, nI_ltI, Nat.not_lt_zero, Nat.lt_irrefl, eq_self, hp3, hc1, hcy, zprd, g0, l_md_ok, l_md_0, l_md_0p, l_md_1, l_md_1p, l_md_2, l_md_2p, l_md_3, l_md_3p, l_md_4, l_md_4p, l_md_5, l_md_6, l_md_7, l_md_8, l_md_9, l_md_10, l_md_11, l_md_12, l_md_13, l_md_14, l_md_15, l_md_16, l_md_17, l_md_17p, l_md_18, l_md_19, l_md_20, l_md_21, l_md_22, l_md_23, l_md_24, l_md_25, l_md_26, l_md_27, l_md_28, l_md_29, l_md_30, l_md_30p, l_md_31, l_md_32, l_md_33, l_md_34, l_md_34p, l_md_35, l_md_35p, l_md_36, l_md_36p, l_md_37, l_md_37p, l_md_38, l_mfolders_ar, l_mfolders_ln, l_mfolders_ia, l_mfolders_is, l_mfolders_e, l_mfolders_ep, zvi_int, zvl_long, zvd_double, zvr_ref, zisI_int, zisR_ref, zgI_int, zgR_ref, zkl_int, zkl_ref, zkl_none, zkl_long, zkl_double, zct_nil, zct_int, zct_ref, zct_long, zct_double, zbk_some, zbk_none, zbk_exc, nI_clamp, nI_add, nI_mul, true_and, and_true, Nat.reduceAdd, Nat.reduceMul, Nat.reduceLeDiff, Nat.reducePow, ↓reduceIte, Nat.zero_add, Nat.add_zero, Nat.reduceLT, Nat.reduceEqDiff, Nat.le_refl, zn10, zn01, zfitB0, zfitB1, znarB0, znarB1, Nat.lt_irrefl, ↓zvi_eq, ↓zvr_eq]
  · refine zOK_no (c := 1) (r := nI 0) h (by omega) (fun Q => ?_) (fun Q => ?_)
    · rw [e195]
      simp (disch := omega) only [p195_0, p195_1, p195_2, p195_3, p195_4, p195_5, p195_8, p195_9, p195_10, p195_15, p195_16, p195_17, p195_18, x195_12, e54, p54_0, p54_1, p54_2, p54_5, p54_6, p54_7, p54_8, p54_11, p54_12, p54_13, p54_16, p54_17, p54_18, p54_21, p54_24, p54_25, p54_26, p54_27, p54_30, x54, e74, p74_0, p74_1, p74_2, p74_5, p74_8, p74_19, x74, c73, c73_a, c73_b, c32, nI_ltI, Nat.not_lt_zero, Nat.lt_irrefl, zo_ia, zo_ep, eq_self, hp3, hc1, hcy, zprd, g0, g1, g2, l_dm_ok, l_dm_0, l_dm_1, l_dm_2, l_dm_2p, l_dm_3, l_dm_4, l_dm_4p, l_dm_5, l_dm_6, l_dm_6p, l_dm_7, l_dm_7p, l_dm_8, l_dm_8p, l_dm_9, l_dm_9p, l_dm_10, l_dm_11, l_dm_12, l_dm_13, l_dm_14, l_bx_ok, l_bx_0, l_bx_1, l_bx_1p, l_bx_2, l_bx_3, l_bx_3p, l_bx_4, l_bx_5, l_bx_5p, l_bxa_ar, l_bxa_ln, l_bxa_ia, l_bxa_e, l_lea_ar, l_lea_ln, l_lea_ia, l_lea_e, l_qua_ar, l_qua_ln, l_qua_ia, l_qua_e, l_bo_ar, l_bo_ln, l_bo_ia, l_bo_is, l_bo_e, l_bo_ep, l_fc_ar, l_fc_ln, l_fc_ia, l_fc_is, l_fc_e, l_fc_ep, l_sha_ar, l_sha_ln, l_sha_ia, l_sha_e, l_rua_ar, l_rua_ln, l_rua_ia, l_rua_e, l_rua_ep, l_rua_e2, l_coa_ar, l_coa_ln, l_coa_ia, l_coa_e, zvi_int, zvl_long, zvd_double, zvr_ref, zisI_int, zisR_ref, zgI_int, zgR_ref, zkl_int, zkl_ref, zkl_none, zkl_long, zkl_double, zct_nil, zct_int, zct_ref, zct_long, zct_double, zbk_some, zbk_none, zbk_exc, nI_clamp, nI_add, nI_mul, true_and, and_true, Nat.reduceAdd, Nat.reduceMul, Nat.reduceLeDiff, Nat.reducePow, ↓reduceIte, Nat.zero_add, Nat.add_zero, Nat.reduceLT, Nat.reduceEqDiff, Nat.le_refl, zn10, zn01, zfitB0, zfitB1, znarB0, znarB1, Nat.lt_irrefl, ↓zvi_eq, ↓zvr_eq]
    · rw [e152]
      simp (disch := omega) only [p152_0, p152_1, p152_2, p152_5, p152_6, p152_7, p152_8, p152_11, p152_14, p152_15, p152_16, p152_19, p152_20, p152_21, p152_22, p152_23, p152_25, p152_26, p152_27, p152_28, p152_30, p152_33, p152_37, p152_38, p152_41, p152_42, p152_45, p152_46, p152_48, p152_49, p152_51, p152_52, p152_53, p152_55, p152_58, p152_59, p152_60, p152_63, p152_64, p152_65, p152_67, p152_70, p152_73, p152_74, p152_75, p152_77, p152_78, p152_81, p152_82, p152_83, p152_84, p152_86, p152_89, p152_91, p152_94, p152_95, e120, p120_0, p120_1, p120_4, p120_7, p120_8, p120_9, p120_10, p120_13, p120_14, p120_15, p120_16, p120_17, p120_20, p120_23, p120_24, p120_27, p120_28, e119, p119_0, p119_1, p119_2, p119_3, p119_6, e118, p118_0, p118_1, p118_2, p118_5, p118_6, p118_7, p118_10, p118_11, p118_14, p118_15, e116, p116_0, p116_1, p116_2, p116_5, p116_6, mTh_fold, mTh_mTh, mTh_o, mTh_th, nI_ltI, Nat.not_lt_zero, Nat.lt_irrefl, eq_self, hp3, hc1, hcy, zprd, g0, g1, g2, l_md_ok, l_md_0, l_md_0p, l_md_1, l_md_1p, l_md_2, l_md_2p, l_md_3, l_md_3p, l_md_4, l_md_4p, l_md_5, l_md_6, l_md_7, l_md_8, l_md_9, l_md_10, l_md_11, l_md_12, l_md_13, l_md_14, l_md_15, l_md_16, l_md_17, l_md_17p, l_md_18, l_md_19, l_md_20, l_md_21, l_md_22, l_md_23, l_md_24, l_md_25, l_md_26, l_md_27, l_md_28, l_md_29, l_md_30, l_md_30p, l_md_31, l_md_32, l_md_33, l_md_34, l_md_34p, l_md_35, l_md_35p, l_md_36, l_md_36p, l_md_37, l_md_37p, l_md_38, l_mfolders_ar, l_mfolders_ln, l_mfolders_ia, l_mfolders_is, l_mfolders_e, l_mfolders_ep, zvi_int, zvl_long, zvd_double, zvr_ref, zisI_int, zisR_ref, zgI_int, zgR_ref, zkl_int, zkl_ref, zkl_none, zkl_long, zkl_double, zct_nil, zct_int, zct_ref, zct_long, zct_double, zbk_some, zbk_none, zbk_exc, nI_clamp, nI_add, nI_mul, true_and, and_true, Nat.reduceAdd, Nat.reduceMul, Nat.reduceLeDiff, Nat.reducePow, ↓reduceIte, Nat.zero_add, Nat.add_zero, Nat.reduceLT, Nat.reduceEqDiff, Nat.le_refl, zn10, zn01, zfitB0, zfitB1, znarB0, znarB1, Nat.lt_irrefl, ↓zvi_eq, ↓zvr_eq]
  have hf' : ¬ fc p - 1 < f := by omega
  have hWy : zWn (mTh y 0) p n := by
    refine ⟨hny, fun i h1 h2 => ?_⟩
    rw [mTh_o y 0 (by omega), y25]
    rcases hK i h2 with e | ⟨h, -⟩
    · exact e
    · omega
  have h146 : ∀ (x : zSt) (E : zEx) (Q : zO → zM → Prop), zcl 146 [.ref 409, .int (nI p), .int (nI f), .int (nI 0)] (zmem x (mTh y 0) E) Q ↔ Q (.inl (some (.int (sNm (mTh y 0) p (nI f) (nI 0))))) (zmem x (mTh y 0) E) := fun x E Q => by
    rw [c146 hp hWy.1 h60]
    have := sNx_more (sh := mTh y 0 25 p) (nu := mTh y 0 26 p) (f := nI f) (v := nI 0) (n := n) 60 h60 (fun i h1 h2 => by rw [hWy.2 i h1 h2]; exact fun q => nI_m1 (k := f) (by omega) q.symm)
    rw [← this]
    rfl
  by_cases hf1 : f = 1
  · subst hf1
    have h95 := fun (Q : zO → zM → Prop) => c95 (x := x) (y := y) (E := E) (Q := Q) hp hn h60
    have hS : ∀ S i, S i = false → decide (sVs x p S 25 p i = nI 1) = decide (x 25 p i = nI 1) := fun S i e => by rw [sVs_25, e]; rfl
    have hcl := sClr_sVs (h := fun x i => decide (x 25 p i = nI 1)) (x := x) (p := p) hS n
    have hNy : iNum (mTh y 0) p b := by
      unfold iNum
      rw [mTh_o y 0 (by omega), mTh_o y 0 (by omega), mTh_o y 0 (by omega), y16, y25, y26]; exact hN
    have hwalk := walk_va hNy 60 (nI 0) (by decide) (tcnt_le _ 60)
    rw [zSv_0 (by omega) hNy, sVs_0] at hwalk
    have hse : (fun i => decide (i < n) && decide (x 25 p i = nI 1)) = zSe (mTh y 0) p := funext fun i => by
      unfold zSe
      rw [mTh_o y 0 (by omega), y25]
      by_cases h1 : i < n
      · simp [h1, show i < 60 by omega]
      · by_cases h2 : i < 60
        · rcases hK i h2 with e | ⟨h, -⟩
          · rw [e]; simp [show ¬ (-1 : Int32) = nI 1 from fun q => nI_m1 (k := 1) (by omega) q.symm]
          · omega
        · simp [h1, h2]
    have hcount : zmu (mTh y 0 25 p) (mTh y 0 26 p) (nI 1) (nI 0) = tcnt (fun i => decide (x 25 p i = nI 1)) n := by
      rw [← iNum_cnt (by omega) hNy (f := 1) (by omega), mTh_o y 0 (by omega), y25]
      exact tcnt_more 60 h60 (fun i h1 h2 => by
        rcases hK i h2 with e | ⟨h, -⟩
        · rw [e]; exact decide_eq_false (fun q => nI_m1 (k := 1) (by omega) q.symm)
        · omega)
    rw [hcount] at hwalk
    have hx' := congrArg Prod.fst hcl
    have hcx := congrArg Prod.snd hcl
    dsimp only at hx' hcx
    rw [hcx] at h95
    generalize hxx : (sClr (fun x i => decide (x 25 p i = nI 1)) p n x).1 = x' at hx' h95
    have hlp := fun (x : zSt) (E : zEx) (Q : zO → zM → Prop) => c152_lp (x := x) (E := E) (Q := Q) (p := p) (f := 1) (n := n) (step := fun y i => sVa y p i) hp h60 (by omega) (fun y i hi hW => zW_va hW hi) (fun y i i' _ _ e => sVa_sh (by omega) e) (fun y i s v hi => by
      rw [p152_58]
      simp (disch := omega) only [p152_0, p152_1, p152_2, p152_5, p152_6, p152_7, p152_8, p152_11, p152_14, p152_15, p152_16, p152_19, p152_20, p152_21, p152_22, p152_23, p152_25, p152_26, p152_27, p152_28, p152_30, p152_33, p152_37, p152_38, p152_41, p152_42, p152_45, p152_46, p152_48, p152_49, p152_51, p152_52, p152_53, p152_55, p152_59, p152_60, p152_63, p152_64, p152_65, p152_67, p152_70, p152_73, p152_74, p152_75, p152_77, p152_78, p152_82, p152_83, p152_84, p152_86, p152_89, p152_91, p152_94, p152_95, c140, l_md_ok, l_md_0, l_md_0p, l_md_1, l_md_1p, l_md_2, l_md_2p, l_md_3, l_md_3p, l_md_4, l_md_4p, l_md_5, l_md_6, l_md_7, l_md_8, l_md_9, l_md_10, l_md_11, l_md_12, l_md_13, l_md_14, l_md_15, l_md_16, l_md_17, l_md_17p, l_md_18, l_md_19, l_md_20, l_md_21, l_md_22, l_md_23, l_md_24, l_md_25, l_md_26, l_md_27, l_md_28, l_md_29, l_md_30, l_md_30p, l_md_31, l_md_32, l_md_33, l_md_34, l_md_34p, l_md_35, l_md_35p, l_md_36, l_md_36p, l_md_37, l_md_37p, l_md_38, zvi_int, zvl_long, zvd_double, zvr_ref, zisI_int, zisR_ref, zgI_int, zgR_ref, zkl_int, zkl_ref, zkl_none, zkl_long, zkl_double, zct_nil, zct_int, zct_ref, zct_long, zct_double, zbk_some, zbk_none, zbk_exc, nI_clamp, nI_add, nI_mul, true_and, and_true, Nat.reduceAdd, Nat.reduceMul, Nat.reduceLeDiff, Nat.reducePow, ↓reduceIte, Nat.zero_add, Nat.add_zero, Nat.reduceLT, Nat.reduceEqDiff, Nat.le_refl, zn10, zn01, zfitB0, zfitB1, znarB0, znarB1, Nat.lt_irrefl, ↓zvi_eq, ↓zvr_eq]) 60 0 (mTh y 0) (nI 0) (tcnt_le _ 60) hWy
    rw [hwalk] at hlp
    dsimp only at hlp
    rw [Nat.zero_add] at hlp
    refine ⟨x', sVs (mTh y 0) p (zSe (mTh y 0) p), 0, (nI (tcnt (fun i => decide (x 25 p i = nI 1)) n)).toInt64, nI (tcnt (fun i => decide (x 25 p i = nI 1)) n), zLo E (nI (tcnt (fun i => decide (x 25 p i = nI 1)) n)).toInt64, ?_, ⟨rfl, fun _ => rfl, rfl⟩, fun Q => ?_, fun Q => ?_, by omega, ?_, fun _ => rfl⟩
    · have ho : ∀ c, ¬ (25 ≤ c ∧ c ≤ 28) → x' c = x c := fun c hc => by rw [← hxx]; exact sClr_o hc n
      refine ⟨n, qn, t, w, l, fc, nr, ?_, fun q hq => ?_, fun q hq => ?_, ?_, ?_, ?_⟩
      · unfold iSc; rw [ho 0 (by omega)]; exact hSc
      · rw [← hxx]
        obtain ⟨z1, z2, z3, z4⟩ := iBx_clr (h := fun x i => decide (x 25 p i = nI 1)) (p := p) (hBx q hq) n
        exact ⟨z1, z2, iNum_le z3 (by omega), z4⟩
      · have := hRu q hq
        unfold iRu zRul iRo at this ⊢
        rw [ho 13 (by omega), ho 17 (by omega), ho 20 (by omega), ho 21 (by omega), ho 22 (by omega), ho 23 (by omega)]
        exact this
      · unfold iLe; rw [ho 30 (by omega), ho 33 (by omega), ho 34 (by omega), ho 35 (by omega)]; exact hLe
      · unfold zQs; rw [ho 36 (by omega), ho 37 (by omega)]; exact hQs
      · rw [hx', hse]
        exact iRl_vs _ (iRl_th hRl)
    · rw [e195]
      simp (disch := omega) only [p195_0, p195_1, p195_2, p195_3, p195_4, p195_5, p195_8, p195_9, p195_10, p195_15, p195_16, p195_17, p195_18, x195_12, e54, p54_0, p54_1, p54_2, p54_5, p54_6, p54_7, p54_8, p54_11, p54_12, p54_13, p54_16, p54_17, p54_18, p54_21, p54_24, p54_25, p54_26, p54_27, p54_30, x54, e74, p74_0, p74_1, p74_2, p74_5, p74_8, p74_19, x74, c73, c73_a, c73_b, c32, nI_ltI, Nat.not_lt_zero, Nat.lt_irrefl, zo_ia, zo_ep, eq_self, hp3, hc1, hf, hf', h95, l_dm_ok, l_dm_0, l_dm_1, l_dm_2, l_dm_2p, l_dm_3, l_dm_4, l_dm_4p, l_dm_5, l_dm_6, l_dm_6p, l_dm_7, l_dm_7p, l_dm_8, l_dm_8p, l_dm_9, l_dm_9p, l_dm_10, l_dm_11, l_dm_12, l_dm_13, l_dm_14, l_bx_ok, l_bx_0, l_bx_1, l_bx_1p, l_bx_2, l_bx_3, l_bx_3p, l_bx_4, l_bx_5, l_bx_5p, l_bxa_ar, l_bxa_ln, l_bxa_ia, l_bxa_e, l_lea_ar, l_lea_ln, l_lea_ia, l_lea_e, l_qua_ar, l_qua_ln, l_qua_ia, l_qua_e, l_bo_ar, l_bo_ln, l_bo_ia, l_bo_is, l_bo_e, l_bo_ep, l_fc_ar, l_fc_ln, l_fc_ia, l_fc_is, l_fc_e, l_fc_ep, l_sha_ar, l_sha_ln, l_sha_ia, l_sha_e, l_rua_ar, l_rua_ln, l_rua_ia, l_rua_e, l_rua_ep, l_rua_e2, l_coa_ar, l_coa_ln, l_coa_ia, l_coa_e, zvi_int, zvl_long, zvd_double, zvr_ref, zisI_int, zisR_ref, zgI_int, zgR_ref, zkl_int, zkl_ref, zkl_none, zkl_long, zkl_double, zct_nil, zct_int, zct_ref, zct_long, zct_double, zbk_some, zbk_none, zbk_exc, nI_clamp, nI_add, nI_mul, true_and, and_true, Nat.reduceAdd, Nat.reduceMul, Nat.reduceLeDiff, Nat.reducePow, ↓reduceIte, Nat.zero_add, Nat.add_zero, Nat.reduceLT, Nat.reduceEqDiff, Nat.le_refl, zn10, zn01, zfitB0, zfitB1, znarB0, znarB1, Nat.lt_irrefl, ↓zvi_eq, ↓zvr_eq]
    · rw [← hlp _ _ Q, e152]
      simp (disch := omega) only [p152_0, p152_1, p152_2, p152_5, p152_6, p152_7, p152_8, p152_11, p152_14, p152_15, p152_16, p152_19, p152_20, p152_21, p152_22, p152_23, p152_25, p152_26, p152_27, p152_28, p152_30, p152_33, p152_37, p152_38, p152_41, p152_42, p152_45, p152_46, p152_48, p152_49, p152_51, p152_52, p152_53, p152_55, p152_58, p152_59, p152_60, p152_63, p152_64, p152_65, p152_67, p152_70, p152_73, p152_74, p152_75, p152_77, p152_78, p152_81, p152_82, p152_83, p152_84, p152_86, p152_89, p152_91, p152_94, p152_95, e120, p120_0, p120_1, p120_4, p120_7, p120_8, p120_9, p120_10, p120_13, p120_14, p120_15, p120_16, p120_17, p120_20, p120_23, p120_24, p120_27, p120_28, e119, p119_0, p119_1, p119_2, p119_3, p119_6, e118, p118_0, p118_1, p118_2, p118_5, p118_6, p118_7, p118_10, p118_11, p118_14, p118_15, e116, p116_0, p116_1, p116_2, p116_5, p116_6, mTh_fold, mTh_mTh, mTh_o, nI_ltI, Nat.not_lt_zero, hcy, zprd, hp3, hf', h146, l_md_ok, l_md_0, l_md_0p, l_md_1, l_md_1p, l_md_2, l_md_2p, l_md_3, l_md_3p, l_md_4, l_md_4p, l_md_5, l_md_6, l_md_7, l_md_8, l_md_9, l_md_10, l_md_11, l_md_12, l_md_13, l_md_14, l_md_15, l_md_16, l_md_17, l_md_17p, l_md_18, l_md_19, l_md_20, l_md_21, l_md_22, l_md_23, l_md_24, l_md_25, l_md_26, l_md_27, l_md_28, l_md_29, l_md_30, l_md_30p, l_md_31, l_md_32, l_md_33, l_md_34, l_md_34p, l_md_35, l_md_35p, l_md_36, l_md_36p, l_md_37, l_md_37p, l_md_38, l_mfolders_ar, l_mfolders_ln, l_mfolders_ia, l_mfolders_is, l_mfolders_e, l_mfolders_ep, zvi_int, zvl_long, zvd_double, zvr_ref, zisI_int, zisR_ref, zgI_int, zgR_ref, zkl_int, zkl_ref, zkl_none, zkl_long, zkl_double, zct_nil, zct_int, zct_ref, zct_long, zct_double, zbk_some, zbk_none, zbk_exc, nI_clamp, nI_add, nI_mul, true_and, and_true, Nat.reduceAdd, Nat.reduceMul, Nat.reduceLeDiff, Nat.reducePow, ↓reduceIte, Nat.zero_add, Nat.add_zero, Nat.reduceLT, Nat.reduceEqDiff, Nat.le_refl, zn10, zn01, zfitB0, zfitB1, znarB0, znarB1, Nat.lt_irrefl, ↓zvi_eq, ↓zvr_eq]
    · simp only [sVs, Nat.reduceEqDiff, or_self, reduceIte, ite_self]
      exact mTh_th y 0
  · have h96 := fun (Q : zO → zM → Prop) => c96 (x := x) (y := y) (E := E) (Q := Q) (f := nI f) hp
    have hlp := fun (x : zSt) (E : zEx) (Q : zO → zM → Prop) => c152_lp (x := x) (E := E) (Q := Q) (p := p) (f := f) (n := n) (step := fun y i => sLay y p i 1) hp h60 (by omega) (fun y i hi hW => zW_lay hW hi) (fun y i i' _ _ e => sLay_sh (by omega) hf1 e) (fun y i s v hi => by
      rw [p152_58]
      simp (disch := omega) only [p152_0, p152_1, p152_2, p152_5, p152_6, p152_7, p152_8, p152_11, p152_14, p152_15, p152_16, p152_19, p152_20, p152_21, p152_22, p152_23, p152_25, p152_26, p152_27, p152_28, p152_30, p152_33, p152_37, p152_38, p152_41, p152_42, p152_45, p152_46, p152_48, p152_49, p152_51, p152_52, p152_53, p152_55, p152_59, p152_60, p152_63, p152_64, p152_65, p152_67, p152_70, p152_73, p152_74, p152_75, p152_77, p152_78, p152_82, p152_83, p152_84, p152_86, p152_89, p152_91, p152_94, p152_95, c139, hf1, nI_eq, l_md_ok, l_md_0, l_md_0p, l_md_1, l_md_1p, l_md_2, l_md_2p, l_md_3, l_md_3p, l_md_4, l_md_4p, l_md_5, l_md_6, l_md_7, l_md_8, l_md_9, l_md_10, l_md_11, l_md_12, l_md_13, l_md_14, l_md_15, l_md_16, l_md_17, l_md_17p, l_md_18, l_md_19, l_md_20, l_md_21, l_md_22, l_md_23, l_md_24, l_md_25, l_md_26, l_md_27, l_md_28, l_md_29, l_md_30, l_md_30p, l_md_31, l_md_32, l_md_33, l_md_34, l_md_34p, l_md_35, l_md_35p, l_md_36, l_md_36p, l_md_37, l_md_37p, l_md_38, zvi_int, zvl_long, zvd_double, zvr_ref, zisI_int, zisR_ref, zgI_int, zgR_ref, zkl_int, zkl_ref, zkl_none, zkl_long, zkl_double, zct_nil, zct_int, zct_ref, zct_long, zct_double, zbk_some, zbk_none, zbk_exc, nI_clamp, nI_add, nI_mul, true_and, and_true, Nat.reduceAdd, Nat.reduceMul, Nat.reduceLeDiff, Nat.reducePow, ↓reduceIte, Nat.zero_add, Nat.add_zero, Nat.reduceLT, Nat.reduceEqDiff, Nat.le_refl, zn10, zn01, zfitB0, zfitB1, znarB0, znarB1, Nat.lt_irrefl, ↓zvi_eq, ↓zvr_eq]) 60 0 (mTh y 0) (nI 0) (tcnt_le _ 60) hWy
    obtain ⟨hG, hcnt⟩ := sWk_relK (K := 60) (stepx := fun x i => sLay x p i 1) (stepy := fun y i => sLay y p i 1) (p := p) (f := nI f) (G := fun j x y => iSc x n qn t w l ∧ (∀ q, q < 4 → iBx x q n (fc q) (b + j)) ∧ (∀ q, q < 4 → iRu x q (fc q) (nr q)) ∧ iLe x n t ∧ zQs x qn ∧ iRl x y n nr ∧ y 2 0 0 = nI 0)
      (fun j x y hg => ⟨iRl_sh hg.2.2.2.2.2.1 (iSh_b (by omega) (by omega)), iRl_sh hg.2.2.2.2.2.1 (iSh_b (by omega) (by omega))⟩)
      (fun j x y i hj hi e hg => by
        obtain ⟨a1, a2, a3, a4, a5, a6, a7⟩ := hg
        have hin : i < n := by
          rcases (a2 p hp).1.2.2.2.1 i hi with e' | ⟨h, -⟩
          · rw [e] at e'; exact absurd e' (nI_m1 (by omega))
          · exact h
        refine ⟨iSc_lay a1, fun q hq => ?_, fun q hq => iRu_lay (a3 q hq), iLe_lay a4, a5, iRl_lay a6, a7⟩
        by_cases hqp : q = p
        · subst hqp
          exact iBx_lay (b := b + j) (by omega) hin h60 (by have := (a2 q hq).2.1; omega) a1.2.2.2.2.1 ht9 (a2 q hq)
        · obtain ⟨z1, z2, z3, z4⟩ := iBx_lay_o (i := i) (k := 1) hqp (a2 q hq)
          exact ⟨z1, z2, iNum_le z3 (by omega), z4⟩)
      (fun j x y hj hg => by
        obtain ⟨a1, a2, a3⟩ := hg
        exact ⟨a1, fun q hq => by
          obtain ⟨z1, z2, z3, z4⟩ := a2 q hq
          exact ⟨z1, z2, iNum_le z3 (by omega), z4⟩, a3⟩) 60 0 x (mTh y 0) (sNm x p (nI f) (nI 0)) (Nat.le_refl 60) (sNm_ok x p (nI f) (nI 0)) ⟨hSc, hBx, hRu, hLe, hQs, iRl_th hRl, mTh_th y 0⟩
    have hm0 : sNm (mTh y 0) p (nI f) (nI 0) = sNm x p (nI f) (nI 0) := by
      unfold sNm
      rw [mTh_o y 0 (by omega), mTh_o y 0 (by omega), y25, y26]
    have hm0' := hm0
    rw [hm0] at hlp h146
    rw [hcnt] at hlp
    generalize hxx : sWk (fun x i => sLay x p i 1) p (nI f) 60 x (sNm x p (nI f) (nI 0)) = X at hG hlp h96
    generalize hyy : (sWk (fun y i => sLay y p i 1) p (nI f) 60 (mTh y 0) (sNm x p (nI f) (nI 0))).1 = Y at hG hlp
    obtain ⟨a1, a2, a3, a4, a5, a6, a7⟩ := hG
    rw [Nat.zero_add] at hlp
    refine ⟨X.1, Y, 0, (nI X.2).toInt64, nI X.2, zLo E (nI X.2).toInt64, ?_, ⟨rfl, fun _ => rfl, rfl⟩, fun Q => ?_, fun Q => ?_, by omega, a7, fun _ => rfl⟩
    · exact ⟨n, qn, t, w, l, fc, nr, a1, fun q hq => by
        obtain ⟨z1, z2, z3, z4⟩ := a2 q hq
        exact ⟨z1, z2, iNum_le z3 (by omega), z4⟩, a3, a4, a5, a6⟩
    · rw [e195]
      simp (disch := omega) only [p195_0, p195_1, p195_2, p195_3, p195_4, p195_5, p195_8, p195_9, p195_10, p195_15, p195_16, p195_17, p195_18, x195_12, e54, p54_0, p54_1, p54_2, p54_5, p54_6, p54_7, p54_8, p54_11, p54_12, p54_13, p54_16, p54_17, p54_18, p54_21, p54_24, p54_25, p54_26, p54_27, p54_30, x54, e74, p74_0, p74_1, p74_2, p74_5, p74_8, p74_19, x74, c73, c73_a, c73_b, c32, nI_ltI, Nat.not_lt_zero, Nat.lt_irrefl, zo_ia, zo_ep, eq_self, hp3, hc1, hf, hf', hf1, nI_eq, h96, l_dm_ok, l_dm_0, l_dm_1, l_dm_2, l_dm_2p, l_dm_3, l_dm_4, l_dm_4p, l_dm_5, l_dm_6, l_dm_6p, l_dm_7, l_dm_7p, l_dm_8, l_dm_8p, l_dm_9, l_dm_9p, l_dm_10, l_dm_11, l_dm_12, l_dm_13, l_dm_14, l_bx_ok, l_bx_0, l_bx_1, l_bx_1p, l_bx_2, l_bx_3, l_bx_3p, l_bx_4, l_bx_5, l_bx_5p, l_bxa_ar, l_bxa_ln, l_bxa_ia, l_bxa_e, l_lea_ar, l_lea_ln, l_lea_ia, l_lea_e, l_qua_ar, l_qua_ln, l_qua_ia, l_qua_e, l_bo_ar, l_bo_ln, l_bo_ia, l_bo_is, l_bo_e, l_bo_ep, l_fc_ar, l_fc_ln, l_fc_ia, l_fc_is, l_fc_e, l_fc_ep, l_sha_ar, l_sha_ln, l_sha_ia, l_sha_e, l_rua_ar, l_rua_ln, l_rua_ia, l_rua_e, l_rua_ep, l_rua_e2, l_coa_ar, l_coa_ln, l_coa_ia, l_coa_e, zvi_int, zvl_long, zvd_double, zvr_ref, zisI_int, zisR_ref, zgI_int, zgR_ref, zkl_int, zkl_ref, zkl_none, zkl_long, zkl_double, zct_nil, zct_int, zct_ref, zct_long, zct_double, zbk_some, zbk_none, zbk_exc, nI_clamp, nI_add, nI_mul, true_and, and_true, Nat.reduceAdd, Nat.reduceMul, Nat.reduceLeDiff, Nat.reducePow, ↓reduceIte, Nat.zero_add, Nat.add_zero, Nat.reduceLT, Nat.reduceEqDiff, Nat.le_refl, zn10, zn01, zfitB0, zfitB1, znarB0, znarB1, Nat.lt_irrefl, ↓zvi_eq, ↓zvr_eq]
    · rw [← hlp _ _ Q, e152]
      simp (disch := omega) only [p152_0, p152_1, p152_2, p152_5, p152_6, p152_7, p152_8, p152_11, p152_14, p152_15, p152_16, p152_19, p152_20, p152_21, p152_22, p152_23, p152_25, p152_26, p152_27, p152_28, p152_30, p152_33, p152_37, p152_38, p152_41, p152_42, p152_45, p152_46, p152_48, p152_49, p152_51, p152_52, p152_53, p152_55, p152_58, p152_59, p152_60, p152_63, p152_64, p152_65, p152_67, p152_70, p152_73, p152_74, p152_75, p152_77, p152_78, p152_81, p152_82, p152_83, p152_84, p152_86, p152_89, p152_91, p152_94, p152_95, e120, p120_0, p120_1, p120_4, p120_7, p120_8, p120_9, p120_10, p120_13, p120_14, p120_15, p120_16, p120_17, p120_20, p120_23, p120_24, p120_27, p120_28, e119, p119_0, p119_1, p119_2, p119_3, p119_6, e118, p118_0, p118_1, p118_2, p118_5, p118_6, p118_7, p118_10, p118_11, p118_14, p118_15, e116, p116_0, p116_1, p116_2, p116_5, p116_6, mTh_fold, mTh_mTh, mTh_o, nI_ltI, Nat.not_lt_zero, hcy, zprd, hp3, hf', h146, l_md_ok, l_md_0, l_md_0p, l_md_1, l_md_1p, l_md_2, l_md_2p, l_md_3, l_md_3p, l_md_4, l_md_4p, l_md_5, l_md_6, l_md_7, l_md_8, l_md_9, l_md_10, l_md_11, l_md_12, l_md_13, l_md_14, l_md_15, l_md_16, l_md_17, l_md_17p, l_md_18, l_md_19, l_md_20, l_md_21, l_md_22, l_md_23, l_md_24, l_md_25, l_md_26, l_md_27, l_md_28, l_md_29, l_md_30, l_md_30p, l_md_31, l_md_32, l_md_33, l_md_34, l_md_34p, l_md_35, l_md_35p, l_md_36, l_md_36p, l_md_37, l_md_37p, l_md_38, l_mfolders_ar, l_mfolders_ln, l_mfolders_ia, l_mfolders_is, l_mfolders_e, l_mfolders_ep, zvi_int, zvl_long, zvd_double, zvr_ref, zisI_int, zisR_ref, zgI_int, zgR_ref, zkl_int, zkl_ref, zkl_none, zkl_long, zkl_double, zct_nil, zct_int, zct_ref, zct_long, zct_double, zbk_some, zbk_none, zbk_exc, nI_clamp, nI_add, nI_mul, true_and, and_true, Nat.reduceAdd, Nat.reduceMul, Nat.reduceLeDiff, Nat.reducePow, ↓reduceIte, Nat.zero_add, Nat.add_zero, Nat.reduceLT, Nat.reduceEqDiff, Nat.le_refl, zn10, zn01, zfitB0, zfitB1, znarB0, znarB1, Nat.lt_irrefl, ↓zvi_eq, ↓zvr_eq]
end ZT
