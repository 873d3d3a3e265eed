/-! contracts of the class's methods: a box's aged copies; rules (source: wip/p35/src/193.c4.txt, by expand.py) -/
theorem sWk_inv {step : zSt → Nat → zSt} {p : Nat} {f : Int32} {I : zSt → Prop} (hs : ∀ x i, i < 60 → I x → I (step x i)) : ∀ (k : Nat) (x : zSt) (m : Int32), (m = -1 ∨ ∃ j, j < 60 ∧ m = nI j) → I x → I (sWk step p f k x m).1
  | 0, _, _, _, h => h
  | k + 1, x, m, hm, h => by
    unfold sWk
    by_cases h0 : m = -1
    · rw [if_pos h0]; exact h
    · rw [if_neg h0]
      obtain ⟨j, hj, rfl⟩ := hm.resolve_left h0
      rw [nI_clamp (by omega)]
      exact sWk_inv hs k _ _ (sNx_in _ _ _ _ _) (hs x j hj h)
/-- the aged copies of a box go to the bin -/
def sAb (p n : Nat) (x : zSt) : zSt := zfo (fun i (x : zSt) => (sWk (sAgS p (x 0 0 6)) p (nI i) 60 x (sNm x p (nI i) (nI 0))).1) n x
def sAsk (asks a : Int32) (lf : Nat → Int32) : Bool := if asks = nI 0 then decide (lf 0 = a) else if asks = nI 1 then decide (lf 1 = a) else if asks = nI 2 then zbit (lf 2) a else if asks = nI 3 then !decide (lf 3 < a) else !decide (lf 4 = -1)
/-- a letter's words, by the field -/
def sLf (x : zSt) (i : Nat) : Nat → Int32 := fun j => x (30 + j) 0 i
section ZC
variable {x y : zSt} {E : zEx} {Q : zO → zM → Prop}
theorem c98 {p n : Nat} (hp : p < 4) (hS : zShs x p) (hn : x 13 p 1 = nI n) (h8 : n ≤ 8) : zcl 98 [.ref 2, .ref (aBx p)] (zmem x y E) Q ↔ Q (.inl none) (zmem (sAb p n x) y E) := by
  rw [e98]
  simp (disch := omega) only [p98_0, p98_1, p98_3, p98_4, p98_7, p98_10, p98_11, p98_12, p98_13, p98_16, p98_19, p98_22, l_dm_ok, l_dm_0, l_dm_1, l_dm_2, l_dm_2p, l_dm_3, l_dm_4, l_dm_4p, l_dm_5, l_dm_6, l_dm_6p, l_dm_7, l_dm_7p, l_dm_8, l_dm_8p, l_dm_9, l_dm_9p, l_dm_10, l_dm_11, l_dm_12, l_dm_13, l_dm_14, l_bx_ok, l_bx_0, l_bx_1, l_bx_1p, l_bx_2, l_bx_3, l_bx_3p, l_bx_4, l_bx_5, l_bx_5p, l_bxa_ar, l_bxa_ln, l_bxa_ia, l_bxa_e, l_lea_ar, l_lea_ln, l_lea_ia, l_lea_e, l_qua_ar, l_qua_ln, l_qua_ia, l_qua_e, l_bo_ar, l_bo_ln, l_bo_ia, l_bo_is, l_bo_e, l_bo_ep, l_fc_ar, l_fc_ln, l_fc_ia, l_fc_is, l_fc_e, l_fc_ep, l_sha_ar, l_sha_ln, l_sha_ia, l_sha_e, l_rua_ar, l_rua_ln, l_rua_ia, l_rua_e, l_rua_ep, l_rua_e2, l_coa_ar, l_coa_ln, l_coa_ia, l_coa_e, zvi_int, zvl_long, zvd_double, zvr_ref, zisI_int, zisR_ref, zgI_int, zgR_ref, zkl_int, zkl_ref, zkl_none, zkl_long, zkl_double, zct_nil, zct_int, zct_ref, zct_long, zct_double, zbk_some, zbk_none, zbk_exc, nI_clamp, nI_add, nI_mul, true_and, and_true, Nat.reduceAdd, Nat.reduceMul, Nat.reduceLeDiff, Nat.reducePow, ↓reduceIte, Nat.zero_add, Nat.add_zero, Nat.reduceLT, Nat.reduceEqDiff, Nat.le_refl, zn10, zn01, zfitB0, zfitB1, znarB0, znarB1, Nat.lt_irrefl, ↓zvi_eq, ↓zvr_eq]
  obtain ⟨hv, hl⟩ := zforI (n := n) (f := fun i (x : zSt) => (sWk (sAgS p (x 0 0 6)) p (nI i) 60 x (sNm x p (nI i) (nI 0))).1) (P := fun i x => zwp zm_98 (2, [some (.ref 2), some (.ref (aBx p)), some (.int (nI i))], [], zmem x y E, 0, 0) Q) (V := fun i x => zShs x p ∧ x 13 p 1 = nI n) (fun i s hi hv => by
    refine ⟨?_, ?_⟩
    · refine sWk_inv (I := fun x => zShs x p ∧ x 13 p 1 = nI n) (fun x j hj h => ?_) 60 s _ (sNx_in _ _ _ _ _) hv
      unfold sAgS
      split
      · exact ⟨zShs_lay h.1 (by omega), h.2⟩
      · exact h
    · rw [p98_2]
      have h99 := fun (Q : zO → zM → Prop) => c99 (x := s) (y := y) (E := E) (Q := Q) (p := p) (f := nI i) hp hv.1
      have hv2 := hv.2
      simp (disch := omega) only [p98_0, p98_1, p98_3, p98_4, p98_7, p98_10, p98_11, p98_12, p98_13, p98_16, p98_19, p98_22, h99, hv2, nI_ltI, hi, l_dm_ok, l_dm_0, l_dm_1, l_dm_2, l_dm_2p, l_dm_3, l_dm_4, l_dm_4p, l_dm_5, l_dm_6, l_dm_6p, l_dm_7, l_dm_7p, l_dm_8, l_dm_8p, l_dm_9, l_dm_9p, l_dm_10, l_dm_11, l_dm_12, l_dm_13, l_dm_14, l_bx_ok, l_bx_0, l_bx_1, l_bx_1p, l_bx_2, l_bx_3, l_bx_3p, l_bx_4, l_bx_5, l_bx_5p, l_bxa_ar, l_bxa_ln, l_bxa_ia, l_bxa_e, l_lea_ar, l_lea_ln, l_lea_ia, l_lea_e, l_qua_ar, l_qua_ln, l_qua_ia, l_qua_e, l_bo_ar, l_bo_ln, l_bo_ia, l_bo_is, l_bo_e, l_bo_ep, l_fc_ar, l_fc_ln, l_fc_ia, l_fc_is, l_fc_e, l_fc_ep, l_sha_ar, l_sha_ln, l_sha_ia, l_sha_e, l_rua_ar, l_rua_ln, l_rua_ia, l_rua_e, l_rua_ep, l_rua_e2, l_coa_ar, l_coa_ln, l_coa_ia, l_coa_e, zvi_int, zvl_long, zvd_double, zvr_ref, zisI_int, zisR_ref, zgI_int, zgR_ref, zkl_int, zkl_ref, zkl_none, zkl_long, zkl_double, zct_nil, zct_int, zct_ref, zct_long, zct_double, zbk_some, zbk_none, zbk_exc, nI_clamp, nI_add, nI_mul, true_and, and_true, Nat.reduceAdd, Nat.reduceMul, Nat.reduceLeDiff, Nat.reducePow, ↓reduceIte, Nat.zero_add, Nat.add_zero, Nat.reduceLT, Nat.reduceEqDiff, Nat.le_refl, zn10, zn01, zfitB0, zfitB1, znarB0, znarB1, Nat.lt_irrefl, ↓zvi_eq, ↓zvr_eq]) x ⟨hS, hn⟩ n (Nat.le_refl n)
  refine hl.trans ?_
  rw [p98_2]
  have hv2 := hv.2
  simp (disch := omega) only [p98_0, p98_1, p98_3, p98_4, p98_7, p98_10, p98_11, p98_12, p98_13, p98_16, p98_19, p98_22, hv2, nI_ltI, l_dm_ok, l_dm_0, l_dm_1, l_dm_2, l_dm_2p, l_dm_3, l_dm_4, l_dm_4p, l_dm_5, l_dm_6, l_dm_6p, l_dm_7, l_dm_7p, l_dm_8, l_dm_8p, l_dm_9, l_dm_9p, l_dm_10, l_dm_11, l_dm_12, l_dm_13, l_dm_14, l_bx_ok, l_bx_0, l_bx_1, l_bx_1p, l_bx_2, l_bx_3, l_bx_3p, l_bx_4, l_bx_5, l_bx_5p, l_bxa_ar, l_bxa_ln, l_bxa_ia, l_bxa_e, l_lea_ar, l_lea_ln, l_lea_ia, l_lea_e, l_qua_ar, l_qua_ln, l_qua_ia, l_qua_e, l_bo_ar, l_bo_ln, l_bo_ia, l_bo_is, l_bo_e, l_bo_ep, l_fc_ar, l_fc_ln, l_fc_ia, l_fc_is, l_fc_e, l_fc_ep, l_sha_ar, l_sha_ln, l_sha_ia, l_sha_e, l_rua_ar, l_rua_ln, l_rua_ia, l_rua_e, l_rua_ep, l_rua_e2, l_coa_ar, l_coa_ln, l_coa_ia, l_coa_e, zvi_int, zvl_long, zvd_double, zvr_ref, zisI_int, zisR_ref, zgI_int, zgR_ref, zkl_int, zkl_ref, zkl_none, zkl_long, zkl_double, zct_nil, zct_int, zct_ref, zct_long, zct_double, zbk_some, zbk_none, zbk_exc, nI_clamp, nI_add, nI_mul, true_and, and_true, Nat.reduceAdd, Nat.reduceMul, Nat.reduceLeDiff, Nat.reducePow, ↓reduceIte, Nat.zero_add, Nat.add_zero, Nat.reduceLT, Nat.reduceEqDiff, Nat.le_refl, zn10, zn01, zfitB0, zfitB1, znarB0, znarB1, Nat.lt_irrefl, ↓zvi_eq, ↓zvr_eq]
  rfl
theorem c3 {i : Nat} {k : Int32} (hi : i < 61) : zcl 3 [.ref (aLe i), .int k] (zmem x y E) Q ↔ if zbit (x 32 0 i) k = true then Q (.inl (some (.int (nI 1)))) (zmem x y E) else Q (.inl (some (.int (nI 0)))) (zmem x y E) := by
  rw [e3]
  simp (disch := omega) only [p3_0, p3_1, p3_4, p3_5, p3_8, c83, l_le_ok, l_le_0, l_le_0p, l_le_1, l_le_1p, l_le_2, l_le_2p, l_le_3, l_le_3p, l_le_4, l_le_4p, l_le_5, l_le_5p, zvi_int, zvl_long, zvd_double, zvr_ref, zisI_int, zisR_ref, zgI_int, zgR_ref, zkl_int, zkl_ref, zkl_none, zkl_long, zkl_double, zct_nil, zct_int, zct_ref, zct_long, zct_double, zbk_some, zbk_none, zbk_exc, nI_clamp, nI_add, nI_mul, true_and, and_true, Nat.reduceAdd, Nat.reduceMul, Nat.reduceLeDiff, Nat.reducePow, ↓reduceIte, Nat.zero_add, Nat.add_zero, Nat.reduceLT, Nat.reduceEqDiff, Nat.le_refl, zn10, zn01, zfitB0, zfitB1, znarB0, znarB1, Nat.lt_irrefl, ↓zvi_eq, ↓zvr_eq]
theorem c13 {p k i : Nat} (hp : p < 4) (hk : k < 6) (hi : i < 61) : zcl 13 [.ref (aRu p k), .ref (aLe i)] (zmem x y E) Q ↔ if sAsk (x 18 p k) (x 19 p k) (sLf x i) = true then Q (.inl (some (.int (nI 1)))) (zmem x y E) else Q (.inl (some (.int (nI 0)))) (zmem x y E) := by
  rw [e13]
  simp (disch := omega) only [p13_0, p13_1, p13_4, p13_36, p13_37, p13_40, p13_41, p13_44, p13_47, p13_48, p13_51, p13_52, p13_53, p13_54, p13_57, p13_58, p13_61, p13_64, p13_65, p13_68, p13_69, p13_70, p13_71, p13_72, p13_75, p13_78, p13_79, p13_80, p13_83, p13_84, p13_87, p13_90, p13_91, p13_94, p13_95, p13_96, p13_97, p13_100, p13_101, p13_104, p13_105, p13_108, p13_109, c3, l_ru_ok, l_ru_0, l_ru_0p, l_ru_1, l_ru_1p, l_ru_2, l_ru_2p, l_ru_3, l_ru_3p, l_ru_4, l_ru_4p, l_ru_5, l_ru_5p, l_le_ok, l_le_0, l_le_0p, l_le_1, l_le_1p, l_le_2, l_le_2p, l_le_3, l_le_3p, l_le_4, l_le_4p, l_le_5, l_le_5p, zvi_int, zvl_long, zvd_double, zvr_ref, zisI_int, zisR_ref, zgI_int, zgR_ref, zkl_int, zkl_ref, zkl_none, zkl_long, zkl_double, zct_nil, zct_int, zct_ref, zct_long, zct_double, zbk_some, zbk_none, zbk_exc, nI_clamp, nI_add, nI_mul, true_and, and_true, Nat.reduceAdd, Nat.reduceMul, Nat.reduceLeDiff, Nat.reducePow, ↓reduceIte, Nat.zero_add, Nat.add_zero, Nat.reduceLT, Nat.reduceEqDiff, Nat.le_refl, zn10, zn01, zfitB0, zfitB1, znarB0, znarB1, Nat.lt_irrefl, ↓zvi_eq, ↓zvr_eq, sAsk, sLf]
  by_cases h0 : x 18 p k = nI 0
  · simp only [h0, reduceIte]
    by_cases h4 : x 30 0 i = x 19 p k <;> simp only [h4, reduceIte, decide_true, decide_false, Bool.false_eq_true]
  by_cases h1 : x 18 p k = nI 1
  · simp only [h0, h1, zn10, reduceIte]
    by_cases h4 : x 31 0 i = x 19 p k <;> simp only [h4, reduceIte, decide_true, decide_false, Bool.false_eq_true]
  by_cases h2 : x 18 p k = nI 2
  · simp only [h0, h1, h2, reduceIte, decide_eq_true_eq]
    simp (disch := omega) only [nI_eq, Nat.reduceEqDiff, reduceIte]
  by_cases h3 : x 18 p k = nI 3
  · simp only [h0, h1, h2, h3, reduceIte, decide_eq_true_eq]
    simp (disch := omega) only [nI_eq, Nat.reduceEqDiff, reduceIte]
    by_cases h4 : x 33 0 i < x 19 p k <;> simp only [h4, reduceIte, decide_true, decide_false, Bool.not_true, Bool.not_false, Bool.false_eq_true]
  simp only [h0, h1, h2, h3, reduceIte]
  by_cases h4 : x 34 0 i = -1 <;> simp only [h4, reduceIte, decide_true, decide_false, Bool.not_true, Bool.not_false, Bool.false_eq_true]
end ZC
