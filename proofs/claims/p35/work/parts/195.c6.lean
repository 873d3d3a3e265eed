/-! contracts of the class's methods: rules obeyed (source: wip/p35/src/195.c6.txt, by expand.py) -/
section ZC
variable {x y : zSt} {E : zEx} {Q : zO → zM → Prop}
theorem pJ_put {x x' : zSt} {J : zJ} {j : Nat} {v : Int32} {J' : zJ} (hx : x' = su (pJ x J) 3 (u2 (pJ x J 3) 0 j v)) (hg : J'.2.2.2 = J.2.2.2) (h : ∀ i, (if i = j then v else if i = 0 then J.1 else if i = 1 then J.2.1 else if i = 2 then J.2.2.1 else if i = 4 then nI J.2.2.2.length else x 3 0 i) = (if i = 0 then J'.1 else if i = 1 then J'.2.1 else if i = 2 then J'.2.2.1 else if i = 4 then nI J'.2.2.2.length else x 3 0 i)) : x' = pJ x J' := by
  subst hx
  refine pJ_ext (fun c h3 h4 => ?_) (fun p i => ?_) (fun p i => ?_)
  · simp only [su_eq, h3, reduceIte, pJ_o x J h3 h4]
  · have := h i
    simp only [su_eq, u2_eq, pJ_3, reduceIte]
    by_cases hp : p = 0
    · subst hp
      simpa only [true_and] using this
    · simp only [hp, false_and, reduceIte]
  · simp only [su_eq, pJ_4, Nat.reduceEqDiff, reduceIte, hg]
theorem c16 {p k : Nat} {J : zJ} (hp : p < 4) (hk : k < 6) (hJ : J.2.2.2.length < 6) : zcl 16 [.ref 8, .ref (aRu p k)] (zmem (pJ x J) y E) Q ↔ Q (.inl none) (zmem (pJ x (sOb J (x 21 p k) (x 22 p k))) y E) := by
  rw [e16]
  have h21 : pJ x J 21 p k = x 21 p k := rfl
  have h22 : pJ x J 22 p k = x 22 p k := rfl
  have h31 : pJ x J 3 0 2 = J.2.2.1 := rfl
  have h17 := fun (b : Int32) (Q : zO → zM → Prop) => c17 (x := x) (y := y) (E := E) (Q := Q) (J := J) (b := b) hJ
  simp (disch := omega) only [p16_0, p16_1, p16_4, p16_36, p16_37, p16_38, p16_41, p16_44, p16_47, p16_48, p16_48i, p16_49, p16_52, p16_53, p16_54, p16_57, p16_60, p16_61, p16_61i, p16_62, p16_65, p16_66, p16_67, p16_70, p16_73, p16_74, p16_75, p16_78, p16_81, p16_84, p16_85, p16_86, p16_89, h17, h21, h22, h31, l_ou_ok, l_ou_0, l_ou_0p, l_ou_1, l_ou_1p, l_ou_2, l_ou_2p, l_ou_3, l_ou_4, l_ou_4p, l_ru_ok, l_ru_0, l_ru_0p, l_ru_1, l_ru_1p, l_ru_2, l_ru_2p, l_ru_3, l_ru_3p, l_ru_4, l_ru_4p, l_ru_5, l_ru_5p, l_go_ar, l_go_ln, l_go_ia, l_go_is, l_go_e, l_go_ep, zvi_int, zvl_long, zvd_double, zvr_ref, zisI_int, zisR_ref, zgI_int, zgR_ref, zkl_int, zkl_ref, zkl_none, zkl_long, zkl_double, zct_nil, zct_int, zct_ref, zct_long, zct_double, zbk_some, zbk_none, zbk_exc, nI_clamp, nI_add, nI_mul, true_and, and_true, Nat.reduceAdd, Nat.reduceMul, Nat.reduceLeDiff, Nat.reducePow, ↓reduceIte, Nat.zero_add, Nat.add_zero, Nat.reduceLT, Nat.reduceEqDiff, Nat.le_refl, zn10, zn01, zfitB0, zfitB1, znarB0, znarB1, Nat.lt_irrefl, ↓zvi_eq, ↓zvr_eq, sOb]
  by_cases h0 : x 21 p k = nI 0
  · simp only [h0, reduceIte]
    refine Iff.of_eq (congrArg (fun z => Q (.inl none) (zmem z y E)) (pJ_put rfl rfl (fun i => ?_)))
    (repeat' split) <;> first | rfl | omega
  by_cases h1 : x 21 p k = nI 1
  · simp only [h0, h1, zn10, reduceIte]
    refine Iff.of_eq (congrArg (fun z => Q (.inl none) (zmem z y E)) (pJ_put rfl rfl (fun i => ?_)))
    (repeat' split) <;> first | rfl | omega
  by_cases h2 : x 21 p k = nI 2
  · simp only [h0, h1, h2, reduceIte]
    simp (disch := omega) only [nI_eq, Nat.reduceEqDiff, reduceIte]
    refine Iff.of_eq (congrArg (fun z => Q (.inl none) (zmem z y E)) (pJ_put rfl rfl (fun i => ?_)))
    (repeat' split) <;> first | rfl | omega
  by_cases h3 : x 21 p k = nI 3
  · simp only [h0, h1, h2, h3, reduceIte]
    simp (disch := omega) only [nI_eq, Nat.reduceEqDiff, reduceIte]
  simp only [h0, h1, h2, h3, reduceIte]
  refine Iff.of_eq (congrArg (fun z => Q (.inl none) (zmem z y E)) (pJ_put rfl rfl (fun i => ?_)))
  (repeat' split) <;> first | rfl | omega
end ZC
section ZC
variable {x y : zSt} {E : zEx} {Q : zO → zM → Prop}
/-- whether a rule holds for a letter -/
def sHo (asks a no : Int32) (lf : Nat → Int32) : Bool := if sAsk asks a lf = true then decide (no = nI 0) else !decide (no = nI 0)
theorem c12 {p k i : Nat} (hp : p < 4) (hk : k < 6) (hi : i < 61) (hb : zbl (x 20 p k)) : zcl 12 [.ref (aRu p k), .ref (aLe i)] (zmem x y E) Q ↔ if sHo (x 18 p k) (x 19 p k) (x 20 p k) (sLf x i) = true then Q (.inl (some (.int (nI 1)))) (zmem x y E) else Q (.inl (some (.int (nI 0)))) (zmem x y E) := by
  rw [e12]
  simp (disch := omega) only [p12_0, p12_1, p12_2, p12_5, p12_6, p12_9, p12_12, p12_13, p12_16, p12_17, c13, l_ru_ok, l_ru_0, l_ru_0p, l_ru_1, l_ru_1p, l_ru_2, l_ru_2p, l_ru_3, l_ru_3p, l_ru_4, l_ru_4p, l_ru_5, l_ru_5p, zvi_int, zvl_long, zvd_double, zvr_ref, zisI_int, zisR_ref, zgI_int, zgR_ref, zkl_int, zkl_ref, zkl_none, zkl_long, zkl_double, zct_nil, zct_int, zct_ref, zct_long, zct_double, zbk_some, zbk_none, zbk_exc, nI_clamp, nI_add, nI_mul, true_and, and_true, Nat.reduceAdd, Nat.reduceMul, Nat.reduceLeDiff, Nat.reducePow, ↓reduceIte, Nat.zero_add, Nat.add_zero, Nat.reduceLT, Nat.reduceEqDiff, Nat.le_refl, zn10, zn01, zfitB0, zfitB1, znarB0, znarB1, Nat.lt_irrefl, ↓zvi_eq, ↓zvr_eq, sHo]
  by_cases h1 : sAsk (x 18 p k) (x 19 p k) (sLf x i) = true
  · rcases hb with h | h <;> simp only [h1, h, zn10, reduceIte, decide_true, decide_false, Bool.false_eq_true]
  · rcases hb with h | h <;> simp only [h1, h, zn10, zn01, reduceIte, decide_true, decide_false, Bool.false_eq_true, Bool.not_true, Bool.not_false]
end ZC
