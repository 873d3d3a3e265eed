/-! constructors: the small ones, on any memory (source: wip/p35/src/310.ct.txt) -/
section ZK
variable {M : zM} {Q : zO → zM → Prop}
theorem k_put1 {a j : Nat} {v : Value} : (zput M a j v).1 = M.1 := rfl
theorem k_new1 {q : Nat × Nat} {f : Nat → Value} : (znew M q f).1 = M.1 + 1 := rfl
theorem k_okp {a j b c n : Nat} {v : Value} : zok (zput M a j v) b c n = zok M b c n := rfl
theorem k_okn {b c n : Nat} {q : Nat × Nat} {f : Nat → Value} (h : zok M b c n) : zok (znew M q f) b c n = True := by
  obtain ⟨h1, h2⟩ := h
  unfold zal at h1
  simp only [Bool.and_eq_true, decide_eq_true_eq] at h1
  refine eq_true ⟨?_, ?_⟩
  · unfold zal
    simp only [Bool.and_eq_true, decide_eq_true_eq]
    exact ⟨h1.1, by show b ≤ M.1 + 1; omega⟩
  · show (if b = M.1 + 1 then q else M.2.1 b) = (c, n)
    rw [if_neg (by omega)]
    exact h2
theorem k0 {a : Nat} (h : zok M a 7 3) : zcl 0 [.ref a] M Q ↔ Q (.inl none) (zput (zput M a 0 (.int (-1))) a 2 (.int (nI 1))) := by
  rw [e0]
  simp only [p0_0, p0_1, p0_4, p0_5, p0_6, p0_9, p0_10, p0_11, p0_14, h, k_okp, zvi_int, zvl_long, zvd_double, zvr_ref, zisI_int, zisR_ref, zgI_int, zgR_ref, zkl_int, zkl_ref, zkl_none, zkl_long, zkl_double, zct_nil, zct_int, zct_ref, zct_long, zct_double, zbk_some, zbk_none, zbk_exc, nI_clamp, nI_add, nI_mul, true_and, and_true, Nat.reduceAdd, Nat.reduceMul, Nat.reduceLeDiff, Nat.reducePow, ↓reduceIte, Nat.zero_add, Nat.add_zero, Nat.reduceLT, Nat.reduceEqDiff, Nat.le_refl, zn10, zn01, zfitB0, zfitB1, znarB0, znarB1, Nat.lt_irrefl, ↓zvi_eq, ↓zvr_eq]
theorem k1 {a : Nat} (h : zok M a 2 6) : zcl 1 [.ref a] M Q ↔ Q (.inl none) (zput M a 4 (.int (-1))) := by
  rw [e1]
  simp only [p1_0, p1_1, p1_4, p1_5, p1_6, p1_9, h, k_okp, zvi_int, zvl_long, zvd_double, zvr_ref, zisI_int, zisR_ref, zgI_int, zgR_ref, zkl_int, zkl_ref, zkl_none, zkl_long, zkl_double, zct_nil, zct_int, zct_ref, zct_long, zct_double, zbk_some, zbk_none, zbk_exc, nI_clamp, nI_add, nI_mul, true_and, and_true, Nat.reduceAdd, Nat.reduceMul, Nat.reduceLeDiff, Nat.reducePow, ↓reduceIte, Nat.zero_add, Nat.add_zero, Nat.reduceLT, Nat.reduceEqDiff, Nat.le_refl, zn10, zn01, zfitB0, zfitB1, znarB0, znarB1, Nat.lt_irrefl, ↓zvi_eq, ↓zvr_eq]
theorem k4 {a : Nat} (h : zok M a 1 6) : zcl 4 [.ref a] M Q ↔ Q (.inl none) (zput M a 1 (.int (-1))) := by
  rw [e4]
  simp only [p4_0, p4_1, p4_4, p4_5, p4_6, p4_9, h, k_okp, zvi_int, zvl_long, zvd_double, zvr_ref, zisI_int, zisR_ref, zgI_int, zgR_ref, zkl_int, zkl_ref, zkl_none, zkl_long, zkl_double, zct_nil, zct_int, zct_ref, zct_long, zct_double, zbk_some, zbk_none, zbk_exc, nI_clamp, nI_add, nI_mul, true_and, and_true, Nat.reduceAdd, Nat.reduceMul, Nat.reduceLeDiff, Nat.reducePow, ↓reduceIte, Nat.zero_add, Nat.add_zero, Nat.reduceLT, Nat.reduceEqDiff, Nat.le_refl, zn10, zn01, zfitB0, zfitB1, znarB0, znarB1, Nat.lt_irrefl, ↓zvi_eq, ↓zvr_eq]
theorem k9 {a : Nat} : zcl 9 [.ref a] M Q ↔ Q (.inl none) M := by
  rw [e9]
  simp only [p9_0, p9_1, p9_4, zvi_int, zvl_long, zvd_double, zvr_ref, zisI_int, zisR_ref, zgI_int, zgR_ref, zkl_int, zkl_ref, zkl_none, zkl_long, zkl_double, zct_nil, zct_int, zct_ref, zct_long, zct_double, zbk_some, zbk_none, zbk_exc, nI_clamp, nI_add, nI_mul, true_and, and_true, Nat.reduceAdd, Nat.reduceMul, Nat.reduceLeDiff, Nat.reducePow, ↓reduceIte, Nat.zero_add, Nat.add_zero, Nat.reduceLT, Nat.reduceEqDiff, Nat.le_refl, zn10, zn01, zfitB0, zfitB1, znarB0, znarB1, Nat.lt_irrefl, ↓zvi_eq, ↓zvr_eq]
theorem k21 {a : Nat} : zcl 21 [.ref a] M Q ↔ Q (.inl none) M := by
  rw [e21]
  simp only [p21_0, p21_1, p21_4, zvi_int, zvl_long, zvd_double, zvr_ref, zisI_int, zisR_ref, zgI_int, zgR_ref, zkl_int, zkl_ref, zkl_none, zkl_long, zkl_double, zct_nil, zct_int, zct_ref, zct_long, zct_double, zbk_some, zbk_none, zbk_exc, nI_clamp, nI_add, nI_mul, true_and, and_true, Nat.reduceAdd, Nat.reduceMul, Nat.reduceLeDiff, Nat.reducePow, ↓reduceIte, Nat.zero_add, Nat.add_zero, Nat.reduceLT, Nat.reduceEqDiff, Nat.le_refl, zn10, zn01, zfitB0, zfitB1, znarB0, znarB1, Nat.lt_irrefl, ↓zvi_eq, ↓zvr_eq]
theorem k_pos {n : Nat} (h : n < 2 ^ 31) : ((0 : Int32) ≤ nI n) = True := eq_true (nI_pos' h)
theorem k14 {a : Nat} (h : zok M a 3 5) : zcl 14 [.ref a] M Q ↔ Q (.inl none) (zput (znew M (20, 6) (fun _ => zdef 20)) a 3 (.ref (M.1 + 1))) := by
  rw [e14]
  simp (disch := omega) only [p14_0, p14_1, p14_4, p14_5, p14_7, p14_9, p14_12, k_okn, h, k_pos, zvi_int, zvl_long, zvd_double, zvr_ref, zisI_int, zisR_ref, zgI_int, zgR_ref, zkl_int, zkl_ref, zkl_none, zkl_long, zkl_double, zct_nil, zct_int, zct_ref, zct_long, zct_double, zbk_some, zbk_none, zbk_exc, nI_clamp, nI_add, nI_mul, true_and, and_true, Nat.reduceAdd, Nat.reduceMul, Nat.reduceLeDiff, Nat.reducePow, ↓reduceIte, Nat.zero_add, Nat.add_zero, Nat.reduceLT, Nat.reduceEqDiff, Nat.le_refl, zn10, zn01, zfitB0, zfitB1, znarB0, znarB1, Nat.lt_irrefl, ↓zvi_eq, ↓zvr_eq]
theorem k18 {a : Nat} (h : zok M a 5 3) : zcl 18 [.ref a] M Q ↔ Q (.inl none) (zput (znew M (20, 4) (fun _ => zdef 20)) a 0 (.ref (M.1 + 1))) := by
  rw [e18]
  simp (disch := omega) only [p18_0, p18_1, p18_4, p18_5, p18_6, p18_8, p18_11, k_okn, h, k_pos, zvi_int, zvl_long, zvd_double, zvr_ref, zisI_int, zisR_ref, zgI_int, zgR_ref, zkl_int, zkl_ref, zkl_none, zkl_long, zkl_double, zct_nil, zct_int, zct_ref, zct_long, zct_double, zbk_some, zbk_none, zbk_exc, nI_clamp, nI_add, nI_mul, true_and, and_true, Nat.reduceAdd, Nat.reduceMul, Nat.reduceLeDiff, Nat.reducePow, ↓reduceIte, Nat.zero_add, Nat.add_zero, Nat.reduceLT, Nat.reduceEqDiff, Nat.le_refl, zn10, zn01, zfitB0, zfitB1, znarB0, znarB1, Nat.lt_irrefl, ↓zvi_eq, ↓zvr_eq]
theorem k24 {a : Nat} (h : zok M a 8 6) : zcl 24 [.ref a] M Q ↔ Q (.inl none) (zput (znew (zput (znew (zput (znew (zput (znew M (20, 60) (fun _ => zdef 20)) a 0 (.ref (M.1 + 1))) (20, 60) (fun _ => zdef 20)) a 1 (.ref (M.1 + 2))) (20, 60) (fun _ => zdef 20)) a 2 (.ref (M.1 + 3))) (20, 60) (fun _ => zdef 20)) a 3 (.ref (M.1 + 4))) := by
  have hN : ∀ (M : zM) (j : Nat) (v : Value), zok M a 8 6 → zok (zput (znew M (20, 60) (fun _ => zdef 20)) a j v) a 8 6 := fun M j v h => of_eq_true (k_okn (M := M) (q := (20, 60)) (f := fun _ => zdef 20) h)
  have h1 := of_eq_true (k_okn (q := (20, 60)) (f := fun _ => zdef 20) h)
  have g1 := hN M 0 (.ref (M.1 + 1)) h
  have h2 := of_eq_true (k_okn (q := (20, 60)) (f := fun _ => zdef 20) g1)
  have g2 := hN _ 1 (.ref (M.1 + 2)) g1
  have h3 := of_eq_true (k_okn (q := (20, 60)) (f := fun _ => zdef 20) g2)
  have g3 := hN _ 2 (.ref (M.1 + 3)) g2
  have h4 := of_eq_true (k_okn (q := (20, 60)) (f := fun _ => zdef 20) g3)
  rw [e24]
  simp (disch := omega) only [p24_0, p24_1, p24_4, p24_5, p24_7, p24_9, p24_12, p24_13, p24_15, p24_17, p24_20, p24_21, p24_23, p24_25, p24_28, p24_29, p24_31, p24_33, p24_36, k_okp, h1, h2, h3, h4, k_pos, k_put1, k_new1, Nat.add_assoc, zvi_int, zvl_long, zvd_double, zvr_ref, zisI_int, zisR_ref, zgI_int, zgR_ref, zkl_int, zkl_ref, zkl_none, zkl_long, zkl_double, zct_nil, zct_int, zct_ref, zct_long, zct_double, zbk_some, zbk_none, zbk_exc, nI_clamp, nI_add, nI_mul, true_and, and_true, Nat.reduceAdd, Nat.reduceMul, Nat.reduceLeDiff, Nat.reducePow, ↓reduceIte, Nat.zero_add, Nat.add_zero, Nat.reduceLT, Nat.reduceEqDiff, Nat.le_refl, zn10, zn01, zfitB0, zfitB1, znarB0, znarB1, Nat.lt_irrefl, ↓zvi_eq, ↓zvr_eq]
end ZK
