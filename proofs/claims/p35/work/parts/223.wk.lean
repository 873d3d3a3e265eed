/-! walks by number (source: wip/p35/src/223.wk.txt, by expand2.py) -/
theorem sNx_succ (sh nu : Nat → Int32) (f v : Int32) (n : Nat) : sNx sh nu f v (n + 1) = if sh n = f ∧ v < nu n ∧ (sNx sh nu f v n = -1 ∨ nu n < nu (sNx sh nu f v n).toNatClampNeg) then nI n else sNx sh nu f v n := by
  unfold sNx
  rw [List.range'_concat, List.foldl_append]
  simp only [List.foldl_cons, List.foldl_nil, Nat.zero_add, Nat.one_mul]
theorem sNx_spec (sh nu : Nat → Int32) (f v : Int32) : ∀ n, n ≤ 60 → (sNx sh nu f v n = -1 ∧ ∀ i, i < n → sh i = f → ¬ v < nu i) ∨ ∃ j, j < n ∧ sNx sh nu f v n = nI j ∧ sh j = f ∧ v < nu j ∧ ∀ i, i < n → sh i = f → v < nu i → ¬ nu i < nu j
  | 0, _ => Or.inl ⟨rfl, fun i h => absurd h (Nat.not_lt_zero i)⟩
  | n + 1, h60 => by
    rw [sNx_succ]
    rcases sNx_spec sh nu f v n (by omega) with ⟨e, h⟩ | ⟨j, hj, e, h1, h2, h3⟩
    · rw [e]
      by_cases hc : sh n = f ∧ v < nu n
      · rw [if_pos ⟨hc.1, hc.2, Or.inl rfl⟩]
        refine Or.inr ⟨n, by omega, rfl, hc.1, hc.2, fun i hi a1 a2 => ?_⟩
        by_cases en : i = n
        · subst en
          rw [Int32.lt_iff_toInt_lt]; omega
        · exact absurd a2 (h i (by omega) a1)
      · rw [if_neg (fun q => hc ⟨q.1, q.2.1⟩)]
        refine Or.inl ⟨rfl, fun i hi a1 a2 => ?_⟩
        by_cases en : i = n
        · subst en; exact hc ⟨a1, a2⟩
        · exact h i (by omega) a1 a2
    · rw [e, nI_clamp (by omega)]
      by_cases hc : sh n = f ∧ v < nu n ∧ nu n < nu j
      · rw [if_pos ⟨hc.1, hc.2.1, Or.inr hc.2.2⟩]
        refine Or.inr ⟨n, by omega, rfl, hc.1, hc.2.1, fun i hi a1 a2 => ?_⟩
        by_cases en : i = n
        · subst en
          rw [Int32.lt_iff_toInt_lt]; omega
        · have := h3 i (by omega) a1 a2
          have h4 := hc.2.2
          rw [Int32.lt_iff_toInt_lt] at this h4 ⊢
          omega
      · rw [if_neg (fun q => hc ⟨q.1, q.2.1, q.2.2.resolve_left (nI_m1 (by omega))⟩)]
        refine Or.inr ⟨j, by omega, rfl, h1, h2, fun i hi a1 a2 => ?_⟩
        by_cases en : i = n
        · subst en; exact fun q => hc ⟨a1, a2, q⟩
        · exact h3 i (by omega) a1 a2
theorem sNx_more {sh nu : Nat → Int32} {f v : Int32} {n : Nat} : ∀ m, n ≤ m → (∀ i, n ≤ i → i < m → ¬ sh i = f) → sNx sh nu f v m = sNx sh nu f v n
  | 0, h, _ => by
    have : n = 0 := by omega
    subst this; rfl
  | m + 1, h, hs => by
    by_cases e : n = m + 1
    · rw [e]
    · rw [sNx_succ, if_neg (fun q => hs m (by omega) (by omega) q.1), sNx_more m (by omega) (fun i h1 h2 => hs i h1 (by omega))]
/-- how many are still ahead in a walk -/
def zmu (sh nu : Nat → Int32) (f v : Int32) : Nat := tcnt (fun i => decide (sh i = f) && decide (v < nu i)) 60
theorem zmu_0 {sh nu : Nat → Int32} {f v : Int32} (h : ∀ i, i < 60 → sh i = f → ¬ v < nu i) : zmu sh nu f v = 0 := by
  unfold zmu
  rw [tcnt_ext (P' := fun _ => false) 60 (fun i hi => by
    by_cases e : sh i = f
    · rw [decide_eq_false (h i hi e), Bool.and_false]
    · rw [decide_eq_false e, Bool.false_and]), tcnt_0]
/-- a step of a walk: who lies in the folder then lay there before, with the same number -/
theorem zmu_lt {sh nu sh' nu' : Nat → Int32} {f v : Int32} {j : Nat} (hj : j < 60) (h1 : sh j = f) (h2 : v < nu j) (hs : ∀ i, i < 60 → sh' i = f → sh i = f ∧ nu' i = nu i) : zmu sh' nu' f (nu j) < zmu sh nu f v := by
  unfold zmu
  refine tcnt_lt (a := j) 60 hj (fun i hi h => ?_) ?_ ?_
  · simp only [Bool.and_eq_true, decide_eq_true_eq] at h ⊢
    obtain ⟨a1, a2⟩ := hs i hi h.1
    refine ⟨a1, ?_⟩
    have h3 := h.2
    rw [a2] at h3
    rw [Int32.lt_iff_toInt_lt] at h2 h3 ⊢
    omega
  · by_cases e : sh' j = f
    · rw [(hs j hj e).2]
      have : ¬ nu j < nu j := by rw [Int32.lt_iff_toInt_lt]; omega
      rw [decide_eq_false this, Bool.and_false]
    · rw [decide_eq_false e, Bool.false_and]
  · rw [decide_eq_true h1, decide_eq_true h2]; rfl
/-- where numbers differ and nothing moves, a step takes exactly one -/
theorem zmu_one {sh nu : Nat → Int32} {f v : Int32} {j : Nat} (hj : j < 60) (h1 : sh j = f) (h2 : v < nu j) (h3 : ∀ i, i < 60 → sh i = f → v < nu i → ¬ nu i < nu j) (hd : ∀ i, i < 60 → sh i = f → nu i = nu j → i = j) : zmu sh nu f v = zmu sh nu f (nu j) + 1 := by
  unfold zmu
  refine tcnt_one (a := j) 60 hj (fun i hi hij => ?_) ?_ ?_
  · by_cases e : sh i = f
    · rw [decide_eq_true e, Bool.true_and, Bool.true_and]
      apply decide_eq_decide.mpr
      have hd' : ¬ nu i = nu j := fun q => hij (hd i hi e q)
      have h3' := h3 i hi e
      have hd2 : ¬ (nu i).toInt = (nu j).toInt := fun q => hd' (Int32.toInt_inj.mp q)
      rw [Int32.lt_iff_toInt_lt] at h2 h3' ⊢
      rw [Int32.lt_iff_toInt_lt] at h3' ⊢
      constructor
      · intro q; have := h3' q; omega
      · intro q; omega
    · rw [decide_eq_false e, Bool.false_and, Bool.false_and]
  · have : ¬ nu j < nu j := by rw [Int32.lt_iff_toInt_lt]; omega
    rw [decide_eq_false this, Bool.and_false]
  · rw [decide_eq_true h1, decide_eq_true h2]; rfl
/-- the walk's place, from one on -/
def sAt (sh nu : Nat → Int32) (f : Int32) : Nat → Int32 → Int32
  | 0, m => m
  | k + 1, m => if m = -1 then m else sAt sh nu f k (sNx sh nu f (nu m.toNatClampNeg) 60)
theorem sAt_end {sh nu : Nat → Int32} {f : Int32} (hd : ∀ i j, i < 60 → j < 60 → sh i = f → sh j = f → nu i = nu j → i = j) : ∀ (k : Nat) (v : Int32), (sAt sh nu f k (sNx sh nu f v 60) = -1 ↔ zmu sh nu f v ≤ k) ∧ (¬ sAt sh nu f k (sNx sh nu f v 60) = -1 → ∃ j, j < 60 ∧ sAt sh nu f k (sNx sh nu f v 60) = nI j)
  | 0, v => by
    unfold sAt
    rcases sNx_spec sh nu f v 60 (Nat.le_refl 60) with ⟨e, h⟩ | ⟨j, hj, e, h1, h2, h3⟩
    · rw [e, zmu_0 h]
      exact ⟨⟨fun _ => Nat.le_refl 0, fun _ => rfl⟩, fun q => absurd rfl q⟩
    · rw [e, zmu_one hj h1 h2 h3 (fun i hi a1 a2 => hd i j hi hj a1 h1 a2)]
      exact ⟨⟨fun q => absurd q (nI_m1 (by omega)), fun q => by omega⟩, fun _ => ⟨j, hj, rfl⟩⟩
  | k + 1, v => by
    unfold sAt
    rcases sNx_spec sh nu f v 60 (Nat.le_refl 60) with ⟨e, h⟩ | ⟨j, hj, e, h1, h2, h3⟩
    · rw [e, zmu_0 h, if_pos rfl]
      exact ⟨⟨fun _ => by omega, fun _ => rfl⟩, fun q => absurd rfl q⟩
    · rw [e, if_neg (nI_m1 (by omega)), nI_clamp (by omega), zmu_one hj h1 h2 h3 (fun i hi a1 a2 => hd i j hi hj a1 h1 a2)]
      obtain ⟨g1, g2⟩ := sAt_end hd k (nu j)
      exact ⟨by rw [g1]; omega, g2⟩
/-- two walks side by side -/
theorem sWk_rel {stepx stepy : zSt → Nat → zSt} {p : Nat} {f : Int32} {G : Nat → zSt → zSt → Prop} (he : ∀ j x y, G j x y → y 25 = x 25 ∧ y 26 = x 26) (hs : ∀ j x y i, i < 60 → x 25 p i = f → G j x y → G (j + 1) (stepx x i) (stepy y i)) (hm1 : ∀ j x y, G j x y → G (j + 1) x y) : ∀ (k j : Nat) (x y : zSt) (m : Int32), (m = -1 ∨ ∃ i, i < 60 ∧ m = nI i ∧ x 25 p i = f) → G j x y → G (j + k) (sWk stepx p f k x m).1 (sWk stepy p f k y m).1 ∧ (sWk stepy p f k y m).2 = (sWk stepx p f k x m).2 := by
  intro k
  induction k with
  | zero => intro j x y m hm h; exact ⟨h, rfl⟩
  | succ k ih =>
    intro j x y m hm h
    unfold sWk
    by_cases e0 : m = -1
    · rw [if_pos e0, if_pos e0]
      refine ⟨?_, rfl⟩
      have mono : ∀ t j, G j x y → G (j + t) x y := by
        intro t
        induction t with
        | zero => intro j h; exact h
        | succ t iht => intro j h; exact hm1 _ _ _ (iht j h)
      exact mono (k + 1) j h
    · rw [if_neg e0, if_neg e0]
      obtain ⟨i, hi, rfl, hsh⟩ := hm.resolve_left e0
      rw [nI_clamp (by omega)]
      have hg := hs j x y i hi hsh h
      obtain ⟨a1, a2⟩ := he _ _ _ hg
      obtain ⟨b1, b2⟩ := he _ _ _ h
      have hnm : sNm (stepy y i) p f (y 26 p i) = sNm (stepx x i) p f (x 26 p i) := by
        unfold sNm
        rw [a1, a2, b2]
      rw [hnm]
      have hm' : sNm (stepx x i) p f (x 26 p i) = -1 ∨ ∃ i', i' < 60 ∧ sNm (stepx x i) p f (x 26 p i) = nI i' ∧ stepx x i 25 p i' = f := by
        rcases sNx_spec (stepx x i 25 p) (stepx x i 26 p) f (x 26 p i) 60 (Nat.le_refl 60) with ⟨e, -⟩ | ⟨j', hj', e, h1, -, -⟩
        · exact Or.inl e
        · exact Or.inr ⟨j', hj', e, h1⟩
      obtain ⟨c1, c2⟩ := ih (j + 1) _ _ _ hm' hg
      refine ⟨?_, by rw [c2]⟩
      rw [show j + (k + 1) = j + 1 + k by omega]
      exact c1
theorem sNm_ok (x : zSt) (p : Nat) (f v : Int32) : sNm x p f v = -1 ∨ ∃ i, i < 60 ∧ sNm x p f v = nI i ∧ x 25 p i = f := by
  rcases sNx_spec (x 25 p) (x 26 p) f v 60 (Nat.le_refl 60) with ⟨e, -⟩ | ⟨j, hj, e, h1, -, -⟩
  · exact Or.inl e
  · exact Or.inr ⟨j, hj, e, h1⟩
/-- a copy comes to lie: what holds of a box -/
theorem iRl_lay {x y : zSt} {n p i k : Nat} {nr : Nat → Nat} (h : iRl x y n nr) : iRl (sLay x p i k) (sLay y p i k) n nr := by
  have e0 : y 0 = x 0 := iRl_sh h iSh_0
  have e16 : y 16 = x 16 := iRl_sh h (iSh_a (by omega) (by omega))
  have e25 : y 25 = x 25 := iRl_sh h (iSh_b (by omega) (by omega))
  have e26 : y 26 = x 26 := iRl_sh h (iSh_b (by omega) (by omega))
  have e28 : y 28 = x 28 := iRl_sh h (iSh_b (by omega) (by omega))
  have e29 : y 29 = x 29 := iRl_sh h (iSh_b (by omega) (by omega))
  unfold sLay sRe
  refine iRl_su (iRl_su (iRl_su (iRl_su (iRl_su (iRl_su h (iSh_b (by omega) (by omega)) (by rw [e25])) (iSh_b (by omega) (by omega)) (by rw [e26, e16])) (iSh_b (by omega) (by omega)) (by rw [e29, e0])) (iSh_a (by omega) (by omega)) (by rw [e16])) iSh_0 ?_) (iSh_b (by omega) (by omega)) ?_
  · show u2 (y 0) 0 9 (y 0 0 9 + nI 1) = u2 (x 0) 0 9 (x 0 0 9 + nI 1)
    rw [e0]
  · show u2 (y 28) p i (y 0 0 9 + nI 1) = u2 (x 28) p i (x 0 0 9 + nI 1)
    rw [e0, e28]
theorem iRl_va {x y : zSt} {n p i : Nat} {nr : Nat → Nat} (h : iRl x y n nr) : iRl (sVa x p i) (sVa y p i) n nr := by
  have e25 : y 25 = x 25 := iRl_sh h (iSh_b (by omega) (by omega))
  have e26 : y 26 = x 26 := iRl_sh h (iSh_b (by omega) (by omega))
  have e27 : y 27 = x 27 := iRl_sh h (iSh_b (by omega) (by omega))
  have e28 : y 28 = x 28 := iRl_sh h (iSh_b (by omega) (by omega))
  unfold sVa
  exact iRl_su (iRl_su (iRl_su (iRl_su h (iSh_b (by omega) (by omega)) (by rw [e25])) (iSh_b (by omega) (by omega)) (by rw [e26])) (iSh_b (by omega) (by omega)) (by rw [e27])) (iSh_b (by omega) (by omega)) (by rw [e28])
theorem sLay_c (x : zSt) (p i k : Nat) : sLay x p i k 25 = u2 (x 25) p i (nI k) ∧ sLay x p i k 26 = u2 (x 26) p i (x 16 p k) ∧ sLay x p i k 16 = u2 (x 16) p k (x 16 p k + nI 1) ∧ sLay x p i k 29 = u2 (x 29) p i (x 0 0 6) := ⟨rfl, rfl, rfl, rfl⟩
theorem iBx_lay_o {x : zSt} {p q n c b i k : Nat} (hq : ¬ q = p) (h : iBx x q n c b) : iBx (sLay x p i k) q n c b := by
  obtain ⟨⟨b1, b2, b3, b4, b5⟩, b6, ⟨c1, c2, c3⟩, d1, d2, d3⟩ := h
  obtain ⟨e25, e26, e16, e29⟩ := sLay_c x p i k
  refine ⟨⟨b1, b2, b3, ?_, b5⟩, b6, ⟨?_, ?_, ?_⟩, ?_, d2, d3⟩
  · rw [e25, u2_other _ _ _ _ hq]; exact b4
  · rw [e16, u2_other _ _ _ _ hq]; exact c1
  · rw [e25, e16, e26, u2_other _ _ _ _ hq, u2_other _ _ _ _ hq, u2_other _ _ _ _ hq]; exact c2
  · rw [e25, e26, u2_other _ _ _ _ hq, u2_other _ _ _ _ hq]; exact c3
  · rw [e29, u2_other _ _ _ _ hq]; exact d1
theorem iBx_lay {x : zSt} {p n c b i k t : Nat} (hb : b < 1000000000) (hi : i < n) (hi60 : n ≤ 60) (hk : k < c) (ht : x 0 0 6 = nI t) (ht9 : t ≤ 9999) (h : iBx x p n c b) : iBx (sLay x p i k) p n c (b + 1) := by
  obtain ⟨⟨b1, b2, b3, b4, b5⟩, b6, ⟨c1, c2, c3⟩, d1, d2, d3⟩ := h
  obtain ⟨e25, e26, e16, e29⟩ := sLay_c x p i k
  obtain ⟨v, hv1, hv2, hv⟩ := c1 k (by omega)
  have r25 : ∀ j, sLay x p i k 25 p j = if j = i then nI k else x 25 p j := fun j => by rw [e25, u2_row]
  have r26 : ∀ j, sLay x p i k 26 p j = if j = i then nI v else x 26 p j := fun j => by rw [e26, u2_row, hv]
  have r16 : ∀ j, sLay x p i k 16 p j = if j = k then nI (v + 1) else x 16 p j := fun j => by rw [e16, u2_row, hv, nI_add]
  have r29 : ∀ j, sLay x p i k 29 p j = if j = i then nI t else x 29 p j := fun j => by rw [e29, u2_row, ht]
  refine ⟨⟨b1, b2, b3, fun j hj => ?_, b5⟩, b6, ⟨fun f hf => ?_, fun j f hj hf e => ?_, fun j j' hj hj' e1 e2 e3 => ?_⟩, fun j hj => ?_, d2, d3⟩
  · rw [r25]
    split
    · next e => subst e; exact Or.inr ⟨hi, k, hk, rfl⟩
    · exact b4 j hj
  · rw [r16]
    split
    · exact ⟨v + 1, by omega, by omega, rfl⟩
    · obtain ⟨u, h1, h2, h3⟩ := c1 f hf
      exact ⟨u, h1, by omega, h3⟩
  · rw [r25] at e
    rw [r26, r16]
    by_cases ej : j = i
    · rw [if_pos ej] at e
      have : f = k := ((nI_eq (by omega) (by omega)).mp e).symm
      rw [if_pos ej, if_pos this]
      exact ⟨v, v + 1, rfl, rfl, by omega, by omega, by omega⟩
    · rw [if_neg ej] at e
      rw [if_neg ej]
      obtain ⟨u, v', h1, h2, h3, h4, h5⟩ := c2 j f hj hf e
      by_cases ef : f = k
      · subst ef
        rw [if_pos rfl]
        have : v' = v := (nI_eq (by omega) (by omega)).mp (h2.symm.trans hv)
        exact ⟨u, v + 1, h1, rfl, h3, by omega, by omega⟩
      · rw [if_neg ef]
        exact ⟨u, v', h1, h2, h3, h4, by omega⟩
  · rw [r25] at e1 e2
    rw [r25] at e1
    rw [r26, r26] at e3
    by_cases ej : j = i
    · by_cases ej' : j' = i
      · rw [ej, ej']
      · exfalso
        rw [if_pos ej, if_neg ej'] at e1 e3
        obtain ⟨u, v', h1, h2, h3, h4, h5⟩ := c2 j' k hj' (by omega) e1.symm
        have hv' : v' = v := (nI_eq (by omega) (by omega)).mp (h2.symm.trans hv)
        rw [h1] at e3
        have := (nI_eq (by omega) (by omega)).mp e3
        omega
    · by_cases ej' : j' = i
      · exfalso
        rw [if_neg ej, if_pos ej'] at e1 e3
        obtain ⟨u, v', h1, h2, h3, h4, h5⟩ := c2 j k hj (by omega) e1
        have hv' : v' = v := (nI_eq (by omega) (by omega)).mp (h2.symm.trans hv)
        rw [h1] at e3
        have := (nI_eq (by omega) (by omega)).mp e3
        omega
      · rw [if_neg ej, if_neg ej'] at e1 e3
        rw [if_neg ej] at e2
        exact c3 j j' hj hj' e1 e2 e3
  · rw [r29]
    split
    · exact ⟨t, ht9, rfl⟩
    · exact d1 j hj
theorem iRu_lay {x : zSt} {p q c m i k : Nat} (h : iRu x q c m) : iRu (sLay x p i k) q c m := h
theorem iLe_lay {x : zSt} {p n t i k : Nat} (h : iLe x n t) : iLe (sLay x p i k) n t := h
theorem iSc_lay {x : zSt} {n qn t w l p i k : Nat} (h : iSc x n qn t w l) : iSc (sLay x p i k) n qn t w l := h
theorem iBx_va_o {x : zSt} {p q n c b i : Nat} (hq : ¬ q = p) (h : iBx x q n c b) : iBx (sVa x p i) q n c b := by
  obtain ⟨⟨b1, b2, b3, b4, b5⟩, b6, ⟨c1, c2, c3⟩, d1, d2, d3⟩ := h
  have e25 : sVa x p i 25 = u2 (x 25) p i (-1) := rfl
  have e26 : sVa x p i 26 = u2 (x 26) p i (nI 0) := rfl
  have e27 : sVa x p i 27 = u2 (x 27) p i (nI 0) := rfl
  refine ⟨⟨b1, b2, b3, ?_, ?_⟩, b6, ⟨c1, ?_, ?_⟩, d1, d2, d3⟩
  · rw [e25, u2_other _ _ _ _ hq]; exact b4
  · rw [e27, u2_other _ _ _ _ hq]; exact b5
  · rw [e25, e26, u2_other _ _ _ _ hq, u2_other _ _ _ _ hq]; exact c2
  · rw [e25, e26, u2_other _ _ _ _ hq, u2_other _ _ _ _ hq]; exact c3
theorem iBx_va {x : zSt} {p n c b i : Nat} (h : iBx x p n c b) : iBx (sVa x p i) p n c b := by
  obtain ⟨⟨b1, b2, b3, b4, b5⟩, b6, ⟨c1, c2, c3⟩, d1, d2, d3⟩ := h
  have r25 : ∀ j, sVa x p i 25 p j = if j = i then -1 else x 25 p j := fun j => by rw [show sVa x p i 25 = u2 (x 25) p i (-1) from rfl, u2_row]
  have r26 : ∀ j, sVa x p i 26 p j = if j = i then nI 0 else x 26 p j := fun j => by rw [show sVa x p i 26 = u2 (x 26) p i (nI 0) from rfl, u2_row]
  have r27 : ∀ j, sVa x p i 27 p j = if j = i then nI 0 else x 27 p j := fun j => by rw [show sVa x p i 27 = u2 (x 27) p i (nI 0) from rfl, u2_row]
  refine ⟨⟨b1, b2, b3, fun j hj => ?_, fun j hj => ?_⟩, b6, ⟨c1, fun j f hj hf e => ?_, fun j j' hj hj' e1 e2 e3 => ?_⟩, d1, d2, d3⟩
  · rw [r25]
    split
    · exact Or.inl rfl
    · exact b4 j hj
  · rw [r27]
    split
    · exact ⟨0, by omega, rfl⟩
    · exact b5 j hj
  · rw [r25] at e
    split at e
    · exact absurd e.symm (nI_m1 (by omega))
    · next ej =>
      rw [r26, if_neg ej]
      exact c2 j f hj hf e
  · rw [r25] at e1 e2
    rw [r25] at e1
    rw [r26, r26] at e3
    by_cases ej : j = i
    · rw [if_pos ej] at e2; exact absurd rfl e2
    · by_cases ej' : j' = i
      · rw [if_neg ej, if_pos ej'] at e1
        rw [if_neg ej] at e2
        exact absurd e1 e2
      · rw [if_neg ej, if_neg ej'] at e1 e3
        rw [if_neg ej] at e2
        exact c3 j j' hj hj' e1 e2 e3
