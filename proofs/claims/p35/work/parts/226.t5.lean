/-! the calls, one by one: queries, rules (source: wip/p35/src/226.t5.txt, by expand2.py) -/
def rg (v l h : Int32) : Bool := !decide (v < l) && !decide (h < v)
def isQ (qn v : Int32) : Bool := !decide (v < nI 0) && decide (v < qn)
def sCq (qn k a b : Int32) : Bool := if k = nI 0 then rg a (nI 0) (nI 9) else if k = nI 1 then rg a (nI 0) (nI 99) else if k = nI 2 then rg a (nI 0) (nI 7) else if k = nI 3 then rg a (nI 1) (nI 50) else if k = nI 4 then rg a (nI 0) (nI 1)
  else if k = nI 5 then rg a (nI 0) (nI 7) else if k = nI 6 then !decide (a < nI 0) else if k = nI 7 then isQ qn a else if k = nI 8 then isQ qn a && isQ qn b else if k = nI 9 then isQ qn a && isQ qn b else false
theorem rg01 (v : Int32) : rg v (nI 0) (nI 1) = (decide (v = nI 0) || decide (v = nI 1)) := by
  unfold rg
  by_cases h0 : v < nI 0
  · have e0 : ¬ v = nI 0 := fun e => by rw [e] at h0; exact absurd h0 (by decide)
    have e1 : ¬ v = nI 1 := fun e => by rw [e] at h0; exact absurd h0 (by decide)
    simp [h0, e0, e1]
  · by_cases h1 : nI 1 < v
    · have e0 : ¬ v = nI 0 := fun e => by rw [e] at h1; exact absurd h1 (by decide)
      have e1 : ¬ v = nI 1 := fun e => by rw [e] at h1; exact absurd h1 (by decide)
      simp [h0, h1, e0, e1]
    · obtain ⟨k, -, hk, rfl⟩ := zrg (by omega) h0 h1 (by omega)
      have : k = 0 ∨ k = 1 := by omega
      rcases this with e | e <;> subst e <;> decide
theorem isQ_rg {qn : Nat} (h : qn < 2 ^ 31) (v : Int32) : isQ (nI qn) v = rg v (nI 0) (nI qn - nI 1) := by
  unfold isQ rg
  rcases zrn v h with h0 | ⟨h0, h1, h2⟩ | ⟨p, hp, rfl, h2⟩
  · simp [h0]
  · simp [h0, h1, h2]
  · rw [decide_eq_true ((nI_ltI (by omega) h).mpr hp), decide_eq_false h2]
    rfl
section ZC
variable {x y : zSt} {E : zEx} {Q : zO → zM → Prop}
theorem c88 {k a b qn : Int32} (hq : x 0 0 4 = qn) : zcl 88 [.ref 2, .int k, .int a, .int b] (zmem x y E) Q ↔ if sCq qn k a b = true then Q (.inl (some (.int (nI 1)))) (zmem x y E) else Q (.inl (some (.int (nI 0)))) (zmem x y E) := by
  rw [e88]
  unfold sCq
  by_cases h0 : k = nI 0
  · rw [if_pos h0]
    unfold rg
    by_cases a1 : a < nI 0 <;> by_cases a2 : nI 9 < a <;> simp (disch := omega) only [p88_0, p88_1, p88_56, p88_57, p88_58, p88_60, p88_63, p88_64, p88_65, p88_66, p88_68, p88_71, p88_72, p88_73, p88_74, p88_76, p88_79, p88_80, p88_81, p88_82, p88_84, p88_87, p88_88, p88_89, p88_92, p88_93, p88_94, p88_97, p88_98, p88_101, p88_102, p88_103, p88_104, p88_105, p88_107, p88_110, p88_111, p88_112, p88_115, p88_116, p88_119, p88_120, p88_121, p88_122, p88_123, p88_126, p88_127, p88_128, p88_129, p88_132, p88_135, p88_136, p88_137, p88_140, p88_143, p88_144, p88_147, p88_148, p88_149, p88_150, e82, p82_0, p82_1, p82_2, p82_5, p82_6, p82_7, p82_10, p82_11, p82_14, p82_15, h0, nI_eq, a1, a2, zvi_int, zvl_long, zvd_double, zvr_ref, zisI_int, zisR_ref, zgI_int, zgR_ref, zkl_int, zkl_ref, zkl_none, zkl_long, zkl_double, zct_nil, zct_int, zct_ref, zct_long, zct_double, zbk_some, zbk_none, zbk_exc, nI_clamp, nI_add, nI_mul, true_and, and_true, Nat.reduceAdd, Nat.reduceMul, Nat.reduceLeDiff, Nat.reducePow, ↓reduceIte, Nat.zero_add, Nat.add_zero, Nat.reduceLT, Nat.reduceEqDiff, Nat.le_refl, zn10, zn01, zfitB0, zfitB1, znarB0, znarB1, Nat.lt_irrefl, ↓zvi_eq, ↓zvr_eq, decide_true, decide_false, Bool.not_true, Bool.not_false, Bool.and_true, Bool.and_false, Bool.false_eq_true]
  by_cases h1 : k = nI 1
  · rw [if_neg h0, if_pos h1]
    unfold rg
    by_cases a1 : a < nI 0 <;> by_cases a2 : nI 99 < a <;> simp (disch := omega) only [p88_0, p88_1, p88_56, p88_57, p88_58, p88_60, p88_63, p88_64, p88_65, p88_66, p88_68, p88_71, p88_72, p88_73, p88_74, p88_76, p88_79, p88_80, p88_81, p88_82, p88_84, p88_87, p88_88, p88_89, p88_92, p88_93, p88_94, p88_97, p88_98, p88_101, p88_102, p88_103, p88_104, p88_105, p88_107, p88_110, p88_111, p88_112, p88_115, p88_116, p88_119, p88_120, p88_121, p88_122, p88_123, p88_126, p88_127, p88_128, p88_129, p88_132, p88_135, p88_136, p88_137, p88_140, p88_143, p88_144, p88_147, p88_148, p88_149, p88_150, e82, p82_0, p82_1, p82_2, p82_5, p82_6, p82_7, p82_10, p82_11, p82_14, p82_15, h1, nI_eq, a1, a2, zvi_int, zvl_long, zvd_double, zvr_ref, zisI_int, zisR_ref, zgI_int, zgR_ref, zkl_int, zkl_ref, zkl_none, zkl_long, zkl_double, zct_nil, zct_int, zct_ref, zct_long, zct_double, zbk_some, zbk_none, zbk_exc, nI_clamp, nI_add, nI_mul, true_and, and_true, Nat.reduceAdd, Nat.reduceMul, Nat.reduceLeDiff, Nat.reducePow, ↓reduceIte, Nat.zero_add, Nat.add_zero, Nat.reduceLT, Nat.reduceEqDiff, Nat.le_refl, zn10, zn01, zfitB0, zfitB1, znarB0, znarB1, Nat.lt_irrefl, ↓zvi_eq, ↓zvr_eq, decide_true, decide_false, Bool.not_true, Bool.not_false, Bool.and_true, Bool.and_false, Bool.false_eq_true]
  by_cases h2 : k = nI 2
  · rw [if_neg h0, if_neg h1, if_pos h2]
    unfold rg
    by_cases a1 : a < nI 0 <;> by_cases a2 : nI 7 < a <;> simp (disch := omega) only [p88_0, p88_1, p88_56, p88_57, p88_58, p88_60, p88_63, p88_64, p88_65, p88_66, p88_68, p88_71, p88_72, p88_73, p88_74, p88_76, p88_79, p88_80, p88_81, p88_82, p88_84, p88_87, p88_88, p88_89, p88_92, p88_93, p88_94, p88_97, p88_98, p88_101, p88_102, p88_103, p88_104, p88_105, p88_107, p88_110, p88_111, p88_112, p88_115, p88_116, p88_119, p88_120, p88_121, p88_122, p88_123, p88_126, p88_127, p88_128, p88_129, p88_132, p88_135, p88_136, p88_137, p88_140, p88_143, p88_144, p88_147, p88_148, p88_149, p88_150, e82, p82_0, p82_1, p82_2, p82_5, p82_6, p82_7, p82_10, p82_11, p82_14, p82_15, h2, nI_eq, a1, a2, zvi_int, zvl_long, zvd_double, zvr_ref, zisI_int, zisR_ref, zgI_int, zgR_ref, zkl_int, zkl_ref, zkl_none, zkl_long, zkl_double, zct_nil, zct_int, zct_ref, zct_long, zct_double, zbk_some, zbk_none, zbk_exc, nI_clamp, nI_add, nI_mul, true_and, and_true, Nat.reduceAdd, Nat.reduceMul, Nat.reduceLeDiff, Nat.reducePow, ↓reduceIte, Nat.zero_add, Nat.add_zero, Nat.reduceLT, Nat.reduceEqDiff, Nat.le_refl, zn10, zn01, zfitB0, zfitB1, znarB0, znarB1, Nat.lt_irrefl, ↓zvi_eq, ↓zvr_eq, decide_true, decide_false, Bool.not_true, Bool.not_false, Bool.and_true, Bool.and_false, Bool.false_eq_true]
  by_cases h3 : k = nI 3
  · rw [if_neg h0, if_neg h1, if_neg h2, if_pos h3]
    unfold rg
    by_cases a1 : a < nI 1 <;> by_cases a2 : nI 50 < a <;> simp (disch := omega) only [p88_0, p88_1, p88_56, p88_57, p88_58, p88_60, p88_63, p88_64, p88_65, p88_66, p88_68, p88_71, p88_72, p88_73, p88_74, p88_76, p88_79, p88_80, p88_81, p88_82, p88_84, p88_87, p88_88, p88_89, p88_92, p88_93, p88_94, p88_97, p88_98, p88_101, p88_102, p88_103, p88_104, p88_105, p88_107, p88_110, p88_111, p88_112, p88_115, p88_116, p88_119, p88_120, p88_121, p88_122, p88_123, p88_126, p88_127, p88_128, p88_129, p88_132, p88_135, p88_136, p88_137, p88_140, p88_143, p88_144, p88_147, p88_148, p88_149, p88_150, e82, p82_0, p82_1, p82_2, p82_5, p82_6, p82_7, p82_10, p82_11, p82_14, p82_15, h3, nI_eq, a1, a2, zvi_int, zvl_long, zvd_double, zvr_ref, zisI_int, zisR_ref, zgI_int, zgR_ref, zkl_int, zkl_ref, zkl_none, zkl_long, zkl_double, zct_nil, zct_int, zct_ref, zct_long, zct_double, zbk_some, zbk_none, zbk_exc, nI_clamp, nI_add, nI_mul, true_and, and_true, Nat.reduceAdd, Nat.reduceMul, Nat.reduceLeDiff, Nat.reducePow, ↓reduceIte, Nat.zero_add, Nat.add_zero, Nat.reduceLT, Nat.reduceEqDiff, Nat.le_refl, zn10, zn01, zfitB0, zfitB1, znarB0, znarB1, Nat.lt_irrefl, ↓zvi_eq, ↓zvr_eq, decide_true, decide_false, Bool.not_true, Bool.not_false, Bool.and_true, Bool.and_false, Bool.false_eq_true]
  by_cases h4 : k = nI 4
  · rw [if_neg h0, if_neg h1, if_neg h2, if_neg h3, if_pos h4]
    rw [rg01]
    by_cases a1 : a = nI 0 <;> by_cases a2 : a = nI 1 <;> simp (disch := omega) only [p88_0, p88_1, p88_56, p88_57, p88_58, p88_60, p88_63, p88_64, p88_65, p88_66, p88_68, p88_71, p88_72, p88_73, p88_74, p88_76, p88_79, p88_80, p88_81, p88_82, p88_84, p88_87, p88_88, p88_89, p88_92, p88_93, p88_94, p88_97, p88_98, p88_101, p88_102, p88_103, p88_104, p88_105, p88_107, p88_110, p88_111, p88_112, p88_115, p88_116, p88_119, p88_120, p88_121, p88_122, p88_123, p88_126, p88_127, p88_128, p88_129, p88_132, p88_135, p88_136, p88_137, p88_140, p88_143, p88_144, p88_147, p88_148, p88_149, p88_150, h4, nI_eq, a1, a2, zvi_int, zvl_long, zvd_double, zvr_ref, zisI_int, zisR_ref, zgI_int, zgR_ref, zkl_int, zkl_ref, zkl_none, zkl_long, zkl_double, zct_nil, zct_int, zct_ref, zct_long, zct_double, zbk_some, zbk_none, zbk_exc, nI_clamp, nI_add, nI_mul, true_and, and_true, Nat.reduceAdd, Nat.reduceMul, Nat.reduceLeDiff, Nat.reducePow, ↓reduceIte, Nat.zero_add, Nat.add_zero, Nat.reduceLT, Nat.reduceEqDiff, Nat.le_refl, zn10, zn01, zfitB0, zfitB1, znarB0, znarB1, Nat.lt_irrefl, ↓zvi_eq, ↓zvr_eq, decide_true, decide_false, Bool.true_or, Bool.or_true, Bool.false_or, Bool.or_false, Bool.false_eq_true]
  by_cases h5 : k = nI 5
  · rw [if_neg h0, if_neg h1, if_neg h2, if_neg h3, if_neg h4, if_pos h5]
    unfold rg
    by_cases a1 : a < nI 0 <;> by_cases a2 : nI 7 < a <;> simp (disch := omega) only [p88_0, p88_1, p88_56, p88_57, p88_58, p88_60, p88_63, p88_64, p88_65, p88_66, p88_68, p88_71, p88_72, p88_73, p88_74, p88_76, p88_79, p88_80, p88_81, p88_82, p88_84, p88_87, p88_88, p88_89, p88_92, p88_93, p88_94, p88_97, p88_98, p88_101, p88_102, p88_103, p88_104, p88_105, p88_107, p88_110, p88_111, p88_112, p88_115, p88_116, p88_119, p88_120, p88_121, p88_122, p88_123, p88_126, p88_127, p88_128, p88_129, p88_132, p88_135, p88_136, p88_137, p88_140, p88_143, p88_144, p88_147, p88_148, p88_149, p88_150, e82, p82_0, p82_1, p82_2, p82_5, p82_6, p82_7, p82_10, p82_11, p82_14, p82_15, h5, nI_eq, a1, a2, zvi_int, zvl_long, zvd_double, zvr_ref, zisI_int, zisR_ref, zgI_int, zgR_ref, zkl_int, zkl_ref, zkl_none, zkl_long, zkl_double, zct_nil, zct_int, zct_ref, zct_long, zct_double, zbk_some, zbk_none, zbk_exc, nI_clamp, nI_add, nI_mul, true_and, and_true, Nat.reduceAdd, Nat.reduceMul, Nat.reduceLeDiff, Nat.reducePow, ↓reduceIte, Nat.zero_add, Nat.add_zero, Nat.reduceLT, Nat.reduceEqDiff, Nat.le_refl, zn10, zn01, zfitB0, zfitB1, znarB0, znarB1, Nat.lt_irrefl, ↓zvi_eq, ↓zvr_eq, decide_true, decide_false, Bool.not_true, Bool.not_false, Bool.and_true, Bool.and_false, Bool.false_eq_true]
  by_cases h6 : k = nI 6
  · rw [if_neg h0, if_neg h1, if_neg h2, if_neg h3, if_neg h4, if_neg h5, if_pos h6]
    by_cases a1 : a < nI 0 <;> simp (disch := omega) only [p88_0, p88_1, p88_56, p88_57, p88_58, p88_60, p88_63, p88_64, p88_65, p88_66, p88_68, p88_71, p88_72, p88_73, p88_74, p88_76, p88_79, p88_80, p88_81, p88_82, p88_84, p88_87, p88_88, p88_89, p88_92, p88_93, p88_94, p88_97, p88_98, p88_101, p88_102, p88_103, p88_104, p88_105, p88_107, p88_110, p88_111, p88_112, p88_115, p88_116, p88_119, p88_120, p88_121, p88_122, p88_123, p88_126, p88_127, p88_128, p88_129, p88_132, p88_135, p88_136, p88_137, p88_140, p88_143, p88_144, p88_147, p88_148, p88_149, p88_150, h6, nI_eq, a1, zvi_int, zvl_long, zvd_double, zvr_ref, zisI_int, zisR_ref, zgI_int, zgR_ref, zkl_int, zkl_ref, zkl_none, zkl_long, zkl_double, zct_nil, zct_int, zct_ref, zct_long, zct_double, zbk_some, zbk_none, zbk_exc, nI_clamp, nI_add, nI_mul, true_and, and_true, Nat.reduceAdd, Nat.reduceMul, Nat.reduceLeDiff, Nat.reducePow, ↓reduceIte, Nat.zero_add, Nat.add_zero, Nat.reduceLT, Nat.reduceEqDiff, Nat.le_refl, zn10, zn01, zfitB0, zfitB1, znarB0, znarB1, Nat.lt_irrefl, ↓zvi_eq, ↓zvr_eq, decide_true, decide_false, Bool.not_true, Bool.not_false, Bool.false_eq_true]
  by_cases h7 : k = nI 7
  · rw [if_neg h0, if_neg h1, if_neg h2, if_neg h3, if_neg h4, if_neg h5, if_neg h6, if_pos h7]
    unfold isQ
    by_cases a1 : a < nI 0 <;> by_cases a2 : a < qn <;> simp (disch := omega) only [p88_0, p88_1, p88_56, p88_57, p88_58, p88_60, p88_63, p88_64, p88_65, p88_66, p88_68, p88_71, p88_72, p88_73, p88_74, p88_76, p88_79, p88_80, p88_81, p88_82, p88_84, p88_87, p88_88, p88_89, p88_92, p88_93, p88_94, p88_97, p88_98, p88_101, p88_102, p88_103, p88_104, p88_105, p88_107, p88_110, p88_111, p88_112, p88_115, p88_116, p88_119, p88_120, p88_121, p88_122, p88_123, p88_126, p88_127, p88_128, p88_129, p88_132, p88_135, p88_136, p88_137, p88_140, p88_143, p88_144, p88_147, p88_148, p88_149, p88_150, e85, p85_0, p85_1, p85_4, p85_5, p85_6, p85_9, p85_12, p85_13, p85_16, p85_17, h7, nI_eq, hq, a1, a2, l_dm_ok, l_dm_0, l_dm_1, l_dm_2, l_dm_2p, l_dm_3, l_dm_4, l_dm_4p, l_dm_5, l_dm_6, l_dm_6p, l_dm_7, l_dm_7p, l_dm_8, l_dm_8p, l_dm_9, l_dm_9p, l_dm_10, l_dm_11, l_dm_12, l_dm_13, l_dm_14, zvi_int, zvl_long, zvd_double, zvr_ref, zisI_int, zisR_ref, zgI_int, zgR_ref, zkl_int, zkl_ref, zkl_none, zkl_long, zkl_double, zct_nil, zct_int, zct_ref, zct_long, zct_double, zbk_some, zbk_none, zbk_exc, nI_clamp, nI_add, nI_mul, true_and, and_true, Nat.reduceAdd, Nat.reduceMul, Nat.reduceLeDiff, Nat.reducePow, ↓reduceIte, Nat.zero_add, Nat.add_zero, Nat.reduceLT, Nat.reduceEqDiff, Nat.le_refl, zn10, zn01, zfitB0, zfitB1, znarB0, znarB1, Nat.lt_irrefl, ↓zvi_eq, ↓zvr_eq, decide_true, decide_false, Bool.not_true, Bool.not_false, Bool.and_true, Bool.and_false, Bool.false_eq_true]
  by_cases h8 : k = nI 8
  · rw [if_neg h0, if_neg h1, if_neg h2, if_neg h3, if_neg h4, if_neg h5, if_neg h6, if_neg h7, if_pos h8]
    unfold isQ
    by_cases a1 : a < nI 0 <;> by_cases a2 : a < qn <;> by_cases b1 : b < nI 0 <;> by_cases b2 : b < qn <;> simp (disch := omega) only [p88_0, p88_1, p88_56, p88_57, p88_58, p88_60, p88_63, p88_64, p88_65, p88_66, p88_68, p88_71, p88_72, p88_73, p88_74, p88_76, p88_79, p88_80, p88_81, p88_82, p88_84, p88_87, p88_88, p88_89, p88_92, p88_93, p88_94, p88_97, p88_98, p88_101, p88_102, p88_103, p88_104, p88_105, p88_107, p88_110, p88_111, p88_112, p88_115, p88_116, p88_119, p88_120, p88_121, p88_122, p88_123, p88_126, p88_127, p88_128, p88_129, p88_132, p88_135, p88_136, p88_137, p88_140, p88_143, p88_144, p88_147, p88_148, p88_149, p88_150, e85, p85_0, p85_1, p85_4, p85_5, p85_6, p85_9, p85_12, p85_13, p85_16, p85_17, h8, nI_eq, hq, a1, a2, b1, b2, l_dm_ok, l_dm_0, l_dm_1, l_dm_2, l_dm_2p, l_dm_3, l_dm_4, l_dm_4p, l_dm_5, l_dm_6, l_dm_6p, l_dm_7, l_dm_7p, l_dm_8, l_dm_8p, l_dm_9, l_dm_9p, l_dm_10, l_dm_11, l_dm_12, l_dm_13, l_dm_14, zvi_int, zvl_long, zvd_double, zvr_ref, zisI_int, zisR_ref, zgI_int, zgR_ref, zkl_int, zkl_ref, zkl_none, zkl_long, zkl_double, zct_nil, zct_int, zct_ref, zct_long, zct_double, zbk_some, zbk_none, zbk_exc, nI_clamp, nI_add, nI_mul, true_and, and_true, Nat.reduceAdd, Nat.reduceMul, Nat.reduceLeDiff, Nat.reducePow, ↓reduceIte, Nat.zero_add, Nat.add_zero, Nat.reduceLT, Nat.reduceEqDiff, Nat.le_refl, zn10, zn01, zfitB0, zfitB1, znarB0, znarB1, Nat.lt_irrefl, ↓zvi_eq, ↓zvr_eq, decide_true, decide_false, Bool.not_true, Bool.not_false, Bool.and_true, Bool.and_false, Bool.false_and, Bool.true_and, Bool.false_eq_true]
  by_cases h9 : k = nI 9
  · rw [if_neg h0, if_neg h1, if_neg h2, if_neg h3, if_neg h4, if_neg h5, if_neg h6, if_neg h7, if_neg h8, if_pos h9]
    unfold isQ
    by_cases a1 : a < nI 0 <;> by_cases a2 : a < qn <;> by_cases b1 : b < nI 0 <;> by_cases b2 : b < qn <;> simp (disch := omega) only [p88_0, p88_1, p88_56, p88_57, p88_58, p88_60, p88_63, p88_64, p88_65, p88_66, p88_68, p88_71, p88_72, p88_73, p88_74, p88_76, p88_79, p88_80, p88_81, p88_82, p88_84, p88_87, p88_88, p88_89, p88_92, p88_93, p88_94, p88_97, p88_98, p88_101, p88_102, p88_103, p88_104, p88_105, p88_107, p88_110, p88_111, p88_112, p88_115, p88_116, p88_119, p88_120, p88_121, p88_122, p88_123, p88_126, p88_127, p88_128, p88_129, p88_132, p88_135, p88_136, p88_137, p88_140, p88_143, p88_144, p88_147, p88_148, p88_149, p88_150, e85, p85_0, p85_1, p85_4, p85_5, p85_6, p85_9, p85_12, p85_13, p85_16, p85_17, h9, nI_eq, hq, a1, a2, b1, b2, l_dm_ok, l_dm_0, l_dm_1, l_dm_2, l_dm_2p, l_dm_3, l_dm_4, l_dm_4p, l_dm_5, l_dm_6, l_dm_6p, l_dm_7, l_dm_7p, l_dm_8, l_dm_8p, l_dm_9, l_dm_9p, l_dm_10, l_dm_11, l_dm_12, l_dm_13, l_dm_14, zvi_int, zvl_long, zvd_double, zvr_ref, zisI_int, zisR_ref, zgI_int, zgR_ref, zkl_int, zkl_ref, zkl_none, zkl_long, zkl_double, zct_nil, zct_int, zct_ref, zct_long, zct_double, zbk_some, zbk_none, zbk_exc, nI_clamp, nI_add, nI_mul, true_and, and_true, Nat.reduceAdd, Nat.reduceMul, Nat.reduceLeDiff, Nat.reducePow, ↓reduceIte, Nat.zero_add, Nat.add_zero, Nat.reduceLT, Nat.reduceEqDiff, Nat.le_refl, zn10, zn01, zfitB0, zfitB1, znarB0, znarB1, Nat.lt_irrefl, ↓zvi_eq, ↓zvr_eq, decide_true, decide_false, Bool.not_true, Bool.not_false, Bool.and_true, Bool.and_false, Bool.false_and, Bool.true_and, Bool.false_eq_true]
  rw [if_neg h0, if_neg h1, if_neg h2, if_neg h3, if_neg h4, if_neg h5, if_neg h6, if_neg h7, if_neg h8, if_neg h9]
  simp (disch := omega) only [p88_0, p88_1, p88_56, p88_57, p88_58, p88_60, p88_63, p88_64, p88_65, p88_66, p88_68, p88_71, p88_72, p88_73, p88_74, p88_76, p88_79, p88_80, p88_81, p88_82, p88_84, p88_87, p88_88, p88_89, p88_92, p88_93, p88_94, p88_97, p88_98, p88_101, p88_102, p88_103, p88_104, p88_105, p88_107, p88_110, p88_111, p88_112, p88_115, p88_116, p88_119, p88_120, p88_121, p88_122, p88_123, p88_126, p88_127, p88_128, p88_129, p88_132, p88_135, p88_136, p88_137, p88_140, p88_143, p88_144, p88_147, p88_148, p88_149, p88_150, h0, h1, h2, h3, h4, h5, h6, h7, h8, h9, zvi_int, zvl_long, zvd_double, zvr_ref, zisI_int, zisR_ref, zgI_int, zgR_ref, zkl_int, zkl_ref, zkl_none, zkl_long, zkl_double, zct_nil, zct_int, zct_ref, zct_long, zct_double, zbk_some, zbk_none, zbk_exc, nI_clamp, nI_add, nI_mul, true_and, and_true, Nat.reduceAdd, Nat.reduceMul, Nat.reduceLeDiff, Nat.reducePow, ↓reduceIte, Nat.zero_add, Nat.add_zero, Nat.reduceLT, Nat.reduceEqDiff, Nat.le_refl, zn10, zn01, zfitB0, zfitB1, znarB0, znarB1, Nat.lt_irrefl, ↓zvi_eq, ↓zvr_eq, Bool.false_eq_true]
def sCa (k a : Int32) : Bool := if k = nI 0 then rg a (nI 0) (nI 9) else if k = nI 1 then rg a (nI 0) (nI 99) else if k = nI 2 then rg a (nI 0) (nI 7) else if k = nI 3 then rg a (nI 1) (nI 50) else if k = nI 4 then true else false
theorem c86 {k a : Int32} : zcl 86 [.int k, .int a] (zmem x y E) Q ↔ if sCa k a = true then Q (.inl (some (.int (nI 1)))) (zmem x y E) else Q (.inl (some (.int (nI 0)))) (zmem x y E) := by
  rw [e86]
  unfold sCa
  by_cases h0 : k = nI 0
  · rw [if_pos h0]
    unfold rg
    by_cases a1 : a < nI 0 <;> by_cases a2 : nI 9 < a <;> simp (disch := omega) only [p86_0, p86_1, p86_36, p86_37, p86_38, p86_40, p86_43, p86_44, p86_45, p86_46, p86_48, p86_51, p86_52, p86_53, p86_54, p86_56, p86_59, p86_60, p86_61, p86_62, p86_64, p86_67, p86_68, p86_69, p86_70, p86_71, e82, p82_0, p82_1, p82_2, p82_5, p82_6, p82_7, p82_10, p82_11, p82_14, p82_15, h0, nI_eq, a1, a2, zvi_int, zvl_long, zvd_double, zvr_ref, zisI_int, zisR_ref, zgI_int, zgR_ref, zkl_int, zkl_ref, zkl_none, zkl_long, zkl_double, zct_nil, zct_int, zct_ref, zct_long, zct_double, zbk_some, zbk_none, zbk_exc, nI_clamp, nI_add, nI_mul, true_and, and_true, Nat.reduceAdd, Nat.reduceMul, Nat.reduceLeDiff, Nat.reducePow, ↓reduceIte, Nat.zero_add, Nat.add_zero, Nat.reduceLT, Nat.reduceEqDiff, Nat.le_refl, zn10, zn01, zfitB0, zfitB1, znarB0, znarB1, Nat.lt_irrefl, ↓zvi_eq, ↓zvr_eq, decide_true, decide_false, Bool.not_true, Bool.not_false, Bool.and_true, Bool.and_false, Bool.false_eq_true]
  by_cases h1 : k = nI 1
  · rw [if_neg h0, if_pos h1]
    unfold rg
    by_cases a1 : a < nI 0 <;> by_cases a2 : nI 99 < a <;> simp (disch := omega) only [p86_0, p86_1, p86_36, p86_37, p86_38, p86_40, p86_43, p86_44, p86_45, p86_46, p86_48, p86_51, p86_52, p86_53, p86_54, p86_56, p86_59, p86_60, p86_61, p86_62, p86_64, p86_67, p86_68, p86_69, p86_70, p86_71, e82, p82_0, p82_1, p82_2, p82_5, p82_6, p82_7, p82_10, p82_11, p82_14, p82_15, h1, nI_eq, a1, a2, zvi_int, zvl_long, zvd_double, zvr_ref, zisI_int, zisR_ref, zgI_int, zgR_ref, zkl_int, zkl_ref, zkl_none, zkl_long, zkl_double, zct_nil, zct_int, zct_ref, zct_long, zct_double, zbk_some, zbk_none, zbk_exc, nI_clamp, nI_add, nI_mul, true_and, and_true, Nat.reduceAdd, Nat.reduceMul, Nat.reduceLeDiff, Nat.reducePow, ↓reduceIte, Nat.zero_add, Nat.add_zero, Nat.reduceLT, Nat.reduceEqDiff, Nat.le_refl, zn10, zn01, zfitB0, zfitB1, znarB0, znarB1, Nat.lt_irrefl, ↓zvi_eq, ↓zvr_eq, decide_true, decide_false, Bool.not_true, Bool.not_false, Bool.and_true, Bool.and_false, Bool.false_eq_true]
  by_cases h2 : k = nI 2
  · rw [if_neg h0, if_neg h1, if_pos h2]
    unfold rg
    by_cases a1 : a < nI 0 <;> by_cases a2 : nI 7 < a <;> simp (disch := omega) only [p86_0, p86_1, p86_36, p86_37, p86_38, p86_40, p86_43, p86_44, p86_45, p86_46, p86_48, p86_51, p86_52, p86_53, p86_54, p86_56, p86_59, p86_60, p86_61, p86_62, p86_64, p86_67, p86_68, p86_69, p86_70, p86_71, e82, p82_0, p82_1, p82_2, p82_5, p82_6, p82_7, p82_10, p82_11, p82_14, p82_15, h2, nI_eq, a1, a2, zvi_int, zvl_long, zvd_double, zvr_ref, zisI_int, zisR_ref, zgI_int, zgR_ref, zkl_int, zkl_ref, zkl_none, zkl_long, zkl_double, zct_nil, zct_int, zct_ref, zct_long, zct_double, zbk_some, zbk_none, zbk_exc, nI_clamp, nI_add, nI_mul, true_and, and_true, Nat.reduceAdd, Nat.reduceMul, Nat.reduceLeDiff, Nat.reducePow, ↓reduceIte, Nat.zero_add, Nat.add_zero, Nat.reduceLT, Nat.reduceEqDiff, Nat.le_refl, zn10, zn01, zfitB0, zfitB1, znarB0, znarB1, Nat.lt_irrefl, ↓zvi_eq, ↓zvr_eq, decide_true, decide_false, Bool.not_true, Bool.not_false, Bool.and_true, Bool.and_false, Bool.false_eq_true]
  by_cases h3 : k = nI 3
  · rw [if_neg h0, if_neg h1, if_neg h2, if_pos h3]
    unfold rg
    by_cases a1 : a < nI 1 <;> by_cases a2 : nI 50 < a <;> simp (disch := omega) only [p86_0, p86_1, p86_36, p86_37, p86_38, p86_40, p86_43, p86_44, p86_45, p86_46, p86_48, p86_51, p86_52, p86_53, p86_54, p86_56, p86_59, p86_60, p86_61, p86_62, p86_64, p86_67, p86_68, p86_69, p86_70, p86_71, e82, p82_0, p82_1, p82_2, p82_5, p82_6, p82_7, p82_10, p82_11, p82_14, p82_15, h3, nI_eq, a1, a2, zvi_int, zvl_long, zvd_double, zvr_ref, zisI_int, zisR_ref, zgI_int, zgR_ref, zkl_int, zkl_ref, zkl_none, zkl_long, zkl_double, zct_nil, zct_int, zct_ref, zct_long, zct_double, zbk_some, zbk_none, zbk_exc, nI_clamp, nI_add, nI_mul, true_and, and_true, Nat.reduceAdd, Nat.reduceMul, Nat.reduceLeDiff, Nat.reducePow, ↓reduceIte, Nat.zero_add, Nat.add_zero, Nat.reduceLT, Nat.reduceEqDiff, Nat.le_refl, zn10, zn01, zfitB0, zfitB1, znarB0, znarB1, Nat.lt_irrefl, ↓zvi_eq, ↓zvr_eq, decide_true, decide_false, Bool.not_true, Bool.not_false, Bool.and_true, Bool.and_false, Bool.false_eq_true]
  by_cases h4 : k = nI 4
  · rw [if_neg h0, if_neg h1, if_neg h2, if_neg h3, if_pos h4]
    simp (disch := omega) only [p86_0, p86_1, p86_36, p86_37, p86_38, p86_40, p86_43, p86_44, p86_45, p86_46, p86_48, p86_51, p86_52, p86_53, p86_54, p86_56, p86_59, p86_60, p86_61, p86_62, p86_64, p86_67, p86_68, p86_69, p86_70, p86_71, h4, nI_eq, zvi_int, zvl_long, zvd_double, zvr_ref, zisI_int, zisR_ref, zgI_int, zgR_ref, zkl_int, zkl_ref, zkl_none, zkl_long, zkl_double, zct_nil, zct_int, zct_ref, zct_long, zct_double, zbk_some, zbk_none, zbk_exc, nI_clamp, nI_add, nI_mul, true_and, and_true, Nat.reduceAdd, Nat.reduceMul, Nat.reduceLeDiff, Nat.reducePow, ↓reduceIte, Nat.zero_add, Nat.add_zero, Nat.reduceLT, Nat.reduceEqDiff, Nat.le_refl, zn10, zn01, zfitB0, zfitB1, znarB0, znarB1, Nat.lt_irrefl, ↓zvi_eq, ↓zvr_eq]
  rw [if_neg h0, if_neg h1, if_neg h2, if_neg h3, if_neg h4]
  simp (disch := omega) only [p86_0, p86_1, p86_36, p86_37, p86_38, p86_40, p86_43, p86_44, p86_45, p86_46, p86_48, p86_51, p86_52, p86_53, p86_54, p86_56, p86_59, p86_60, p86_61, p86_62, p86_64, p86_67, p86_68, p86_69, p86_70, p86_71, h0, h1, h2, h3, h4, zvi_int, zvl_long, zvd_double, zvr_ref, zisI_int, zisR_ref, zgI_int, zgR_ref, zkl_int, zkl_ref, zkl_none, zkl_long, zkl_double, zct_nil, zct_int, zct_ref, zct_long, zct_double, zbk_some, zbk_none, zbk_exc, nI_clamp, nI_add, nI_mul, true_and, and_true, Nat.reduceAdd, Nat.reduceMul, Nat.reduceLeDiff, Nat.reducePow, ↓reduceIte, Nat.zero_add, Nat.add_zero, Nat.reduceLT, Nat.reduceEqDiff, Nat.le_refl, zn10, zn01, zfitB0, zfitB1, znarB0, znarB1, Nat.lt_irrefl, ↓zvi_eq, ↓zvr_eq, Bool.false_eq_true]
def sCd (p c : Nat) (k b : Int32) : Bool := if k = nI 0 then isQ (nI c) b else if k = nI 1 then true else if k = nI 2 then true else if k = nI 3 then rg b (nI 0) (nI 3) && !decide (b = nI p) else if k = nI 4 then true else false
theorem c87 {p c : Nat} {k b : Int32} (hp : p < 4) (hc : x 13 p 1 = nI c) : zcl 87 [.ref 2, .int (nI p), .int k, .int b] (zmem x y E) Q ↔ if sCd p c k b = true then Q (.inl (some (.int (nI 1)))) (zmem x y E) else Q (.inl (some (.int (nI 0)))) (zmem x y E) := by
  rw [e87]
  unfold sCd
  by_cases h0 : k = nI 0
  · rw [if_pos h0]
    unfold isQ
    by_cases a1 : b < nI 0 <;> by_cases a2 : b < nI c <;> simp (disch := omega) only [p87_0, p87_1, p87_36, p87_37, p87_38, p87_41, p87_42, p87_45, p87_46, p87_47, p87_48, p87_49, p87_52, p87_55, p87_56, p87_57, p87_60, p87_61, p87_64, p87_65, p87_66, p87_67, p87_68, p87_69, c73, c32, h0, nI_eq, hc, a1, a2, l_dm_ok, l_dm_0, l_dm_1, l_dm_2, l_dm_2p, l_dm_3, l_dm_4, l_dm_4p, l_dm_5, l_dm_6, l_dm_6p, l_dm_7, l_dm_7p, l_dm_8, l_dm_8p, l_dm_9, l_dm_9p, l_dm_10, l_dm_11, l_dm_12, l_dm_13, l_dm_14, l_bx_ok, l_bx_0, l_bx_1, l_bx_1p, l_bx_2, l_bx_3, l_bx_3p, l_bx_4, l_bx_5, l_bx_5p, zvi_int, zvl_long, zvd_double, zvr_ref, zisI_int, zisR_ref, zgI_int, zgR_ref, zkl_int, zkl_ref, zkl_none, zkl_long, zkl_double, zct_nil, zct_int, zct_ref, zct_long, zct_double, zbk_some, zbk_none, zbk_exc, nI_clamp, nI_add, nI_mul, true_and, and_true, Nat.reduceAdd, Nat.reduceMul, Nat.reduceLeDiff, Nat.reducePow, ↓reduceIte, Nat.zero_add, Nat.add_zero, Nat.reduceLT, Nat.reduceEqDiff, Nat.le_refl, zn10, zn01, zfitB0, zfitB1, znarB0, znarB1, Nat.lt_irrefl, ↓zvi_eq, ↓zvr_eq, decide_true, decide_false, Bool.not_true, Bool.not_false, Bool.and_true, Bool.and_false, Bool.false_eq_true]
  by_cases h1 : k = nI 1
  · rw [if_neg h0, if_pos h1]
    simp (disch := omega) only [p87_0, p87_1, p87_36, p87_37, p87_38, p87_41, p87_42, p87_45, p87_46, p87_47, p87_48, p87_49, p87_52, p87_55, p87_56, p87_57, p87_60, p87_61, p87_64, p87_65, p87_66, p87_67, p87_68, p87_69, h1, nI_eq, zvi_int, zvl_long, zvd_double, zvr_ref, zisI_int, zisR_ref, zgI_int, zgR_ref, zkl_int, zkl_ref, zkl_none, zkl_long, zkl_double, zct_nil, zct_int, zct_ref, zct_long, zct_double, zbk_some, zbk_none, zbk_exc, nI_clamp, nI_add, nI_mul, true_and, and_true, Nat.reduceAdd, Nat.reduceMul, Nat.reduceLeDiff, Nat.reducePow, ↓reduceIte, Nat.zero_add, Nat.add_zero, Nat.reduceLT, Nat.reduceEqDiff, Nat.le_refl, zn10, zn01, zfitB0, zfitB1, znarB0, znarB1, Nat.lt_irrefl, ↓zvi_eq, ↓zvr_eq]
  by_cases h2 : k = nI 2
  · rw [if_neg h0, if_neg h1, if_pos h2]
    simp (disch := omega) only [p87_0, p87_1, p87_36, p87_37, p87_38, p87_41, p87_42, p87_45, p87_46, p87_47, p87_48, p87_49, p87_52, p87_55, p87_56, p87_57, p87_60, p87_61, p87_64, p87_65, p87_66, p87_67, p87_68, p87_69, h2, nI_eq, zvi_int, zvl_long, zvd_double, zvr_ref, zisI_int, zisR_ref, zgI_int, zgR_ref, zkl_int, zkl_ref, zkl_none, zkl_long, zkl_double, zct_nil, zct_int, zct_ref, zct_long, zct_double, zbk_some, zbk_none, zbk_exc, nI_clamp, nI_add, nI_mul, true_and, and_true, Nat.reduceAdd, Nat.reduceMul, Nat.reduceLeDiff, Nat.reducePow, ↓reduceIte, Nat.zero_add, Nat.add_zero, Nat.reduceLT, Nat.reduceEqDiff, Nat.le_refl, zn10, zn01, zfitB0, zfitB1, znarB0, znarB1, Nat.lt_irrefl, ↓zvi_eq, ↓zvr_eq]
  by_cases h3 : k = nI 3
  · rw [if_neg h0, if_neg h1, if_neg h2, if_pos h3]
    unfold rg
    have hp3 : ¬ 3 < p := by omega
    by_cases a1 : b < nI 0 <;> by_cases a2 : nI 3 < b <;> by_cases a3 : b = nI p <;> simp (disch := omega) only [p87_0, p87_1, p87_36, p87_37, p87_38, p87_41, p87_42, p87_45, p87_46, p87_47, p87_48, p87_49, p87_52, p87_55, p87_56, p87_57, p87_60, p87_61, p87_64, p87_65, p87_66, p87_67, p87_68, p87_69, e82, p82_0, p82_1, p82_2, p82_5, p82_6, p82_7, p82_10, p82_11, p82_14, p82_15, h3, nI_eq, a1, a2, a3, nI_ltI, Nat.not_lt_zero, hp3, eq_self, zvi_int, zvl_long, zvd_double, zvr_ref, zisI_int, zisR_ref, zgI_int, zgR_ref, zkl_int, zkl_ref, zkl_none, zkl_long, zkl_double, zct_nil, zct_int, zct_ref, zct_long, zct_double, zbk_some, zbk_none, zbk_exc, nI_clamp, nI_add, nI_mul, true_and, and_true, Nat.reduceAdd, Nat.reduceMul, Nat.reduceLeDiff, Nat.reducePow, ↓reduceIte, Nat.zero_add, Nat.add_zero, Nat.reduceLT, Nat.reduceEqDiff, Nat.le_refl, zn10, zn01, zfitB0, zfitB1, znarB0, znarB1, Nat.lt_irrefl, ↓zvi_eq, ↓zvr_eq, decide_true, decide_false, Bool.not_true, Bool.not_false, Bool.and_true, Bool.and_false, Bool.false_and, Bool.true_and, Bool.false_eq_true]
  by_cases h4 : k = nI 4
  · rw [if_neg h0, if_neg h1, if_neg h2, if_neg h3, if_pos h4]
    simp (disch := omega) only [p87_0, p87_1, p87_36, p87_37, p87_38, p87_41, p87_42, p87_45, p87_46, p87_47, p87_48, p87_49, p87_52, p87_55, p87_56, p87_57, p87_60, p87_61, p87_64, p87_65, p87_66, p87_67, p87_68, p87_69, h4, nI_eq, zvi_int, zvl_long, zvd_double, zvr_ref, zisI_int, zisR_ref, zgI_int, zgR_ref, zkl_int, zkl_ref, zkl_none, zkl_long, zkl_double, zct_nil, zct_int, zct_ref, zct_long, zct_double, zbk_some, zbk_none, zbk_exc, nI_clamp, nI_add, nI_mul, true_and, and_true, Nat.reduceAdd, Nat.reduceMul, Nat.reduceLeDiff, Nat.reducePow, ↓reduceIte, Nat.zero_add, Nat.add_zero, Nat.reduceLT, Nat.reduceEqDiff, Nat.le_refl, zn10, zn01, zfitB0, zfitB1, znarB0, znarB1, Nat.lt_irrefl, ↓zvi_eq, ↓zvr_eq]
  · rw [if_neg h0, if_neg h1, if_neg h2, if_neg h3, if_neg h4]
    simp (disch := omega) only [p87_0, p87_1, p87_36, p87_37, p87_38, p87_41, p87_42, p87_45, p87_46, p87_47, p87_48, p87_49, p87_52, p87_55, p87_56, p87_57, p87_60, p87_61, p87_64, p87_65, p87_66, p87_67, p87_68, p87_69, h0, h1, h2, h3, h4, zvi_int, zvl_long, zvd_double, zvr_ref, zisI_int, zisR_ref, zgI_int, zgR_ref, zkl_int, zkl_ref, zkl_none, zkl_long, zkl_double, zct_nil, zct_int, zct_ref, zct_long, zct_double, zbk_some, zbk_none, zbk_exc, nI_clamp, nI_add, nI_mul, true_and, and_true, Nat.reduceAdd, Nat.reduceMul, Nat.reduceLeDiff, Nat.reducePow, ↓reduceIte, Nat.zero_add, Nat.add_zero, Nat.reduceLT, Nat.reduceEqDiff, Nat.le_refl, zn10, zn01, zfitB0, zfitB1, znarB0, znarB1, Nat.lt_irrefl, ↓zvi_eq, ↓zvr_eq, Bool.false_eq_true]
end ZC
section ZT
variable {x y : zSt} {E : zEx} {b : Nat}
theorem sCq_in {qn k a c : Int32} (h : sCq qn k a c = true) : ∃ j, j < 10 ∧ k = nI j := by
  unfold sCq at h
  by_cases h0 : k = nI 0
  · exact ⟨0, by omega, h0⟩
  rw [if_neg h0] at h
  by_cases h1 : k = nI 1
  · exact ⟨1, by omega, h1⟩
  rw [if_neg h1] at h
  by_cases h2 : k = nI 2
  · exact ⟨2, by omega, h2⟩
  rw [if_neg h2] at h
  by_cases h3 : k = nI 3
  · exact ⟨3, by omega, h3⟩
  rw [if_neg h3] at h
  by_cases h4 : k = nI 4
  · exact ⟨4, by omega, h4⟩
  rw [if_neg h4] at h
  by_cases h5 : k = nI 5
  · exact ⟨5, by omega, h5⟩
  rw [if_neg h5] at h
  by_cases h6 : k = nI 6
  · exact ⟨6, by omega, h6⟩
  rw [if_neg h6] at h
  by_cases h7 : k = nI 7
  · exact ⟨7, by omega, h7⟩
  rw [if_neg h7] at h
  by_cases h8 : k = nI 8
  · exact ⟨8, by omega, h8⟩
  rw [if_neg h8] at h
  by_cases h9 : k = nI 9
  · exact ⟨9, by omega, h9⟩
  rw [if_neg h9] at h
  cases h
end ZT
