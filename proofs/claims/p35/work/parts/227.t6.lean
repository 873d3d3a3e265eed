/-! the calls, one by one: rules (source: wip/p35/src/227.t6.txt, by expand2.py) -/
theorem sCa_in {k a : Int32} (h : sCa k a = true) : ∃ j, j < 5 ∧ k = nI j := by
  unfold sCa at h
  by_cases h0 : k = nI 0
  · exact ⟨0, by omega, h0⟩
  by_cases h1 : k = nI 1
  · exact ⟨1, by omega, h1⟩
  by_cases h2 : k = nI 2
  · exact ⟨2, by omega, h2⟩
  by_cases h3 : k = nI 3
  · exact ⟨3, by omega, h3⟩
  by_cases h4 : k = nI 4
  · exact ⟨4, by omega, h4⟩
  rw [if_neg h0, if_neg h1, if_neg h2, if_neg h3, if_neg h4] at h
  cases h
theorem sCd_in {p c : Nat} {k a : Int32} (h : sCd p c k a = true) : ∃ j, j < 5 ∧ k = nI j := by
  unfold sCd at h
  by_cases h0 : k = nI 0
  · exact ⟨0, by omega, h0⟩
  by_cases h1 : k = nI 1
  · exact ⟨1, by omega, h1⟩
  by_cases h2 : k = nI 2
  · exact ⟨2, by omega, h2⟩
  by_cases h3 : k = nI 3
  · exact ⟨3, by omega, h3⟩
  by_cases h4 : k = nI 4
  · exact ⟨4, by omega, h4⟩
  rw [if_neg h0, if_neg h1, if_neg h2, if_neg h3, if_neg h4] at h
  cases h
theorem dI_bl (v : Bool) : zbl (dI v) := by cases v <;> first | exact zbl_0 | exact zbl_1
theorem dI_fit (v : Bool) : (zfit .boolean (.int (dI v)) = true) = True := by cases v <;> first | exact zfitB0 | exact zfitB1
section ZC
variable {x y : zSt} {E : zEx} {Q : zO → zM → Prop}
/-- the reference's two tests of a rule -/
def mRu (p c : Nat) (asks a does b : Int32) : Bool := sCa asks a && sCd p c does b
theorem c10 {p j : Nat} {a k : Int32} {no : Bool} (hp : p < 4) (hj : j < 6) : zcl 10 [.ref (aRu p j), .int k, .int a, .int (dI no)] (zmem x y E) Q ↔ Q (.inl none) (zmem (su (su (su x 18 (u2 (x 18) p j k)) 19 (u2 (x 19) p j a)) 20 (u2 (x 20) p j (dI no))) y E) := by
  rw [e10]
  have hf := dI_fit no
  simp (disch := omega) only [p10_0, p10_1, p10_2, p10_5, p10_6, p10_7, p10_10, p10_11, p10_12, p10_15, su_eq, hf, l_ru_ok, l_ru_0, l_ru_0p, l_ru_1, l_ru_1p, l_ru_2, l_ru_2p, l_ru_3, l_ru_3p, l_ru_4, l_ru_4p, l_ru_5, l_ru_5p, zvi_int, zvl_long, zvd_double, zvr_ref, zisI_int, zisR_ref, zgI_int, zgR_ref, zkl_int, zkl_ref, zkl_none, zkl_long, zkl_double, zct_nil, zct_int, zct_ref, zct_long, zct_double, zbk_some, zbk_none, zbk_exc, nI_clamp, nI_add, nI_mul, true_and, and_true, Nat.reduceAdd, Nat.reduceMul, Nat.reduceLeDiff, Nat.reducePow, ↓reduceIte, Nat.zero_add, Nat.add_zero, Nat.reduceLT, Nat.reduceEqDiff, Nat.le_refl, zn10, zn01, zfitB0, zfitB1, znarB0, znarB1, Nat.lt_irrefl, ↓zvi_eq, ↓zvr_eq]
theorem c11 {p j : Nat} {a k : Int32} {no : Bool} (hp : p < 4) (hj : j < 6) : zcl 11 [.ref (aRu p j), .int k, .int a, .int (dI no)] (zmem x y E) Q ↔ Q (.inl none) (zmem (su (su (su x 21 (u2 (x 21) p j k)) 22 (u2 (x 22) p j a)) 23 (u2 (x 23) p j (dI no))) y E) := by
  rw [e11]
  have hf := dI_fit no
  simp (disch := omega) only [p11_0, p11_1, p11_2, p11_5, p11_6, p11_7, p11_10, p11_11, p11_12, p11_15, su_eq, hf, l_ru_ok, l_ru_0, l_ru_0p, l_ru_1, l_ru_1p, l_ru_2, l_ru_2p, l_ru_3, l_ru_3p, l_ru_4, l_ru_4p, l_ru_5, l_ru_5p, zvi_int, zvl_long, zvd_double, zvr_ref, zisI_int, zisR_ref, zgI_int, zgR_ref, zkl_int, zkl_ref, zkl_none, zkl_long, zkl_double, zct_nil, zct_int, zct_ref, zct_long, zct_double, zbk_some, zbk_none, zbk_exc, nI_clamp, nI_add, nI_mul, true_and, and_true, Nat.reduceAdd, Nat.reduceMul, Nat.reduceLeDiff, Nat.reducePow, ↓reduceIte, Nat.zero_add, Nat.add_zero, Nat.reduceLT, Nat.reduceEqDiff, Nat.le_refl, zn10, zn01, zfitB0, zfitB1, znarB0, znarB1, Nat.lt_irrefl, ↓zvi_eq, ↓zvr_eq]
end ZC
/-- a rule more -/
def sAr (x : zSt) (p j nr : Nat) (k a no d bb la : Int32) : zSt := su (su (su (su (su (su (su x 18 (u2 (x 18) p j k)) 19 (u2 (x 19) p j a)) 20 (u2 (x 20) p j no)) 21 (u2 (x 21) p j d)) 22 (u2 (x 22) p j bb)) 23 (u2 (x 23) p j la)) 13 (u2 (x 13) p 3 (nI (nr + 1)))
def mAr (y : zSt) (p nr : Nat) (k a fl d bb : Int32) : zSt := su (su (su (su (su (su y 18 (u2 (y 18) p nr k)) 19 (u2 (y 19) p nr a)) 21 (u2 (y 21) p nr d)) 22 (u2 (y 22) p nr bb)) 20 (u2 (y 20) p nr fl)) 13 (u2 (y 13) p 3 (nI (nr + 1)))
def fI (no la : Bool) : Int32 := (if no = true then nI 1 else nI 0) + (if la = true then nI 2 else nI 0)
theorem zInv_ar {x y : zSt} {b p n qn t w l : Nat} {fc nr : Nat → Nat} {k a d bb : Int32} {no la : Bool} (hp : p < 4) (hSc : iSc x n qn t w l) (hBx : ∀ p, p < 4 → iBx x p n (fc p) b) (hRu : ∀ p, p < 4 → iRu x p (fc p) (nr p)) (hLe : iLe x n t) (hQs : zQs x qn) (hRl : iRl x y n nr) (hr6 : nr p < 6) {j : Nat} (hj : j < 6) (ej : x 17 p (nr p) = nI j) (hv : sCd p (fc p) d bb = true) : zInv (sAr x p j (nr p) k a (dI no) d bb (dI la)) (mAr (mTh y 0) p (nr p) k a (fI no la) d bb) (b + 2000) := by
  have y13 : y 13 = x 13 := iRl_sh hRl (iSh_a (by omega) (by omega))
  have r18 : ∀ q i, sAr x p j (nr p) k a (dI no) d bb (dI la) 18 q i = if q = p ∧ i = j then k else x 18 q i := fun q i => rfl
  have r19 : ∀ q i, sAr x p j (nr p) k a (dI no) d bb (dI la) 19 q i = if q = p ∧ i = j then a else x 19 q i := fun q i => rfl
  have r20 : ∀ q i, sAr x p j (nr p) k a (dI no) d bb (dI la) 20 q i = if q = p ∧ i = j then dI no else x 20 q i := fun q i => rfl
  have r21 : ∀ q i, sAr x p j (nr p) k a (dI no) d bb (dI la) 21 q i = if q = p ∧ i = j then d else x 21 q i := fun q i => rfl
  have r22 : ∀ q i, sAr x p j (nr p) k a (dI no) d bb (dI la) 22 q i = if q = p ∧ i = j then bb else x 22 q i := fun q i => rfl
  have r23 : ∀ q i, sAr x p j (nr p) k a (dI no) d bb (dI la) 23 q i = if q = p ∧ i = j then dI la else x 23 q i := fun q i => rfl
  have r17 : sAr x p j (nr p) k a (dI no) d bb (dI la) 17 = x 17 := rfl
  have r13 : ∀ q i, sAr x p j (nr p) k a (dI no) d bb (dI la) 13 q i = if q = p ∧ i = 3 then nI (nr p + 1) else x 13 q i := fun q i => rfl
  have m18 : ∀ q i, mAr (mTh y 0) p (nr p) k a (fI no la) d bb 18 q i = if q = p ∧ i = nr p then k else y 18 q i := fun q i => rfl
  have m19 : ∀ q i, mAr (mTh y 0) p (nr p) k a (fI no la) d bb 19 q i = if q = p ∧ i = nr p then a else y 19 q i := fun q i => rfl
  have m20 : ∀ q i, mAr (mTh y 0) p (nr p) k a (fI no la) d bb 20 q i = if q = p ∧ i = nr p then fI no la else y 20 q i := fun q i => rfl
  have m21 : ∀ q i, mAr (mTh y 0) p (nr p) k a (fI no la) d bb 21 q i = if q = p ∧ i = nr p then d else y 21 q i := fun q i => rfl
  have m22 : ∀ q i, mAr (mTh y 0) p (nr p) k a (fI no la) d bb 22 q i = if q = p ∧ i = nr p then bb else y 22 q i := fun q i => rfl
  refine ⟨n, qn, t, w, l, fc, fun q => if q = p then nr p + 1 else nr q, hSc, fun q hq => ?_, fun q hq => ?_, hLe, hQs, ?_⟩
  · obtain ⟨⟨b1, b2, b3, b4, b5⟩, b6, b7, b8⟩ := hBx q hq
    refine ⟨⟨?_, b2, b3, b4, b5⟩, b6, iNum_le b7 (by omega), b8⟩
    rw [r13, if_neg (by omega)]; exact b1
  · obtain ⟨⟨h1, h2, h3, h4⟩, h5, h6⟩ := hRu q hq
    refine ⟨⟨?_, ?_, h3, fun i hi => ?_⟩, h5, fun r hr => ?_⟩
    · rw [r13]
      by_cases e : q = p
      · subst e; rw [if_pos ⟨rfl, rfl⟩]; dsimp only; rw [if_pos rfl]
      · rw [if_neg (fun z => e z.1)]; dsimp only; rw [if_neg e]; exact h1
    · dsimp only
      split
      · omega
      · exact h2
    · rw [r20, r23]
      refine ⟨?_, ?_⟩
      · split
        · exact dI_bl no
        · exact (h4 i hi).1
      · split
        · exact dI_bl la
        · exact (h4 i hi).2
    · unfold iRo
      rw [r17, r21, r22]
      dsimp only at hr
      by_cases e : q = p
      · subst e
        rw [if_pos rfl] at hr
        by_cases er : r = nr q
        · subst er
          rw [ej, nI_clamp (by omega), if_pos ⟨rfl, rfl⟩, if_pos ⟨rfl, rfl⟩]
          refine ⟨?_, fun e0 => ?_, fun e3 => ?_⟩
          · obtain ⟨z, hz, e⟩ := sCd_in hv
            exact ⟨z, hz, e⟩
          · rw [e0] at hv
            have hv' : isQ (nI (fc q)) bb = true := hv
            unfold isQ at hv'
            rw [Bool.and_eq_true, Bool.not_eq_true', decide_eq_false_iff_not, decide_eq_true_eq] at hv'
            have h8 := (hBx q hq).1.2.1
            rcases zrng bb (n := fc q) (by have := (hBx q hq).2.1; omega) with g0 | ⟨g0, g1, -⟩ | ⟨z, hz, e⟩
            · exact absurd g0 hv'.1
            · exact absurd hv'.2 g1
            · exact ⟨z, hz, e⟩
          · rw [e3] at hv
            have hv' : (rg bb (nI 0) (nI 3) && !decide (bb = nI q)) = true := hv
            unfold rg at hv'
            simp only [Bool.and_eq_true, Bool.not_eq_true', decide_eq_false_iff_not] at hv'
            obtain ⟨z, -, hz, e⟩ := zrg (by omega) hv'.1.1 hv'.1.2 (by omega)
            exact ⟨z, by omega, e⟩
        · obtain ⟨z, hz, ez⟩ := h3 r (by omega)
          have hzj : ¬ z = j := fun q' => by
            subst q'
            exact er (h5 r (nr q) (by omega) (by omega) (ez.trans ej.symm))
          have := h6 r (by omega)
          unfold iRo at this
          rw [ez, nI_clamp (by omega)] at this ⊢
          rw [if_neg (fun w => hzj w.2), if_neg (fun w => hzj w.2)]
          exact this
      · rw [if_neg e] at hr
        rw [if_neg (fun w => e w.1), if_neg (fun w => e w.1)]
        exact h6 r hr
  · obtain ⟨h6, h7, h8⟩ := hRl
    refine ⟨fun c hc => ?_, fun c i a1 a2 hi => ?_, fun q r hq hr => ?_⟩
    · by_cases e13 : c = 13
      · subst e13
        show u2 (y 13) p 3 (nI (nr p + 1)) = u2 (x 13) p 3 (nI (nr p + 1))
        rw [y13]
      · unfold iSh at hc
        unfold sAr mAr
        simp only [su_eq]
        rw [if_neg e13, if_neg e13, if_neg (by omega), if_neg (by omega), if_neg (by omega), if_neg (by omega), if_neg (by omega), if_neg (by omega), if_neg (by omega), if_neg (by omega), if_neg (by omega), if_neg (by omega), if_neg (by omega), mTh_o y 0 (by omega)]
        exact h6 c (by unfold iSh; omega)
    · unfold sAr mAr
      simp only [su_eq]
      rw [if_neg (by omega), if_neg (by omega), if_neg (by omega), if_neg (by omega), if_neg (by omega), if_neg (by omega), if_neg (by omega), if_neg (by omega), if_neg (by omega), if_neg (by omega), if_neg (by omega), if_neg (by omega), if_neg (by omega), mTh_o y 0 (by omega)]
      exact h7 c i a1 a2 hi
    · unfold iRr iFl
      rw [r17, m18, m19, m20, m21, m22, r18, r19, r20, r21, r22, r23]
      dsimp only at hr
      obtain ⟨⟨k1, k2, k3, k4⟩, k5, k6⟩ := hRu q hq
      by_cases e : q = p
      · subst e
        rw [if_pos rfl] at hr
        by_cases er : r = nr q
        · subst er
          rw [ej, nI_clamp (by omega)]
          simp only [and_self, true_and, and_true, reduceIte]
          cases no <;> cases la <;> decide
        · obtain ⟨z, hz, ez⟩ := k3 r (by omega)
          have hzj : ¬ z = j := fun q' => by
            subst q'
            exact er (k5 r (nr q) (by omega) (by omega) (ez.trans ej.symm))
          have := h8 q r hq (by omega)
          unfold iRr iFl at this
          rw [ez, nI_clamp (by omega)] at this ⊢
          simp only [hzj, er, and_false, reduceIte]
          exact this
      · rw [if_neg e] at hr
        have := h8 q r hq hr
        unfold iRr iFl at this
        simp only [e, false_and, reduceIte]
        exact this
theorem fI_ff : fI false false = nI 0 := by decide
theorem fI_ft : fI false true = nI 2 := by decide
theorem fI_tf : fI true false = nI 1 := by decide
theorem fI_tt : fI true true = nI 3 := by decide
section ZT
variable {x y : zSt} {E : zEx} {b : Nat}
end ZT
