/-! what is old goes to the bin (source: wip/p35/src/282.ag.txt, by expand3.py) -/
section ZB
variable {x : zSt} {fc nr : Nat → Nat} {n L p : Nat} {xs : Nat → Int32}
theorem zb1 {mk : Nat} (h : mk < 4) : (zbit (nI mk) (nI 1) = true) = (nI 1 < nI mk) := by
  have : mk = 0 ∨ mk = 1 ∨ mk = 2 ∨ mk = 3 := by omega
  rcases this with e | e | e | e <;> subst e <;> decide
theorem ag_lp {qn v w l b B f ag d : Nat} {many : Int32} {Q : zO → zM → Prop} (hp : p < 4) (hf : f < fc p) (hf8 : fc p ≤ 8) (hf1 : ¬ f = 1) (hn : n < 26) (hag0 : 0 < ag) (hag : ag ≤ 200) (hb : b < 1000000) (hB : B < 100000) : ∀ (rest pre : List Nat) (y : zSt) (bl : Nat → Nat → List Nat) (E : zEx) (G : pG) (X : zSt) (cc uc us : Nat) (v5 : Option Value), zkl v5 = v5 → bl p f = pre ++ rest → cc + rest.length ≤ 100000 → uc + 3 * rest.length ≤ 2501 → us + 56 * rest.length ≤ 47306 → PS E y G bl fc nr n L xs → BL bl n y → cG n qn v w l fc nr (b + cc) X y → pX y n nr → iXb X B → y 15 p f = nI ag → (∀ (y' : zSt) (bl' : Nat → Nat → List Nat) (E' : zEx) (G' : pG) (cc' uc' us' : Nat) (w4 : Int32) (w5 : Option Value), zkl w5 = w5 → cc' ≤ cc + rest.length → uc' ≤ uc + 3 * rest.length → us' ≤ us + 56 * rest.length → PS E' y' G' bl' fc nr n L xs → BL bl' n y' → cG n qn v w l fc nr (b + cc') (rest.foldl (sAgS p (nI v)) X) y' → pX y' n nr → iXb (rest.foldl (sAgS p (nI v)) X) B → zwp zm_135 (221, [some (.ref 1), some (.int many), some (.int (nI p)), some (.int (nI f)), some (.int w4), w5], [], zmem x (yD y' d) E', uc', us') Q) → zwp zm_135 (122, [some (.ref 1), some (.int many), some (.int (nI p)), some (.int (nI f)), some (.int (nI pre.length)), v5], [], zmem x (yD y d) E, uc, us) Q := by
  intro rest
  induction rest with
  | nil =>
    intro pre y bl E G X cc uc us v5 h5 hl hcc hu1 hu2 hP hB' hG hpx hX h15 hQ
    rw [List.append_nil] at hl
    have hrow := hP.row hp (show f < 8 by omega)
    rw [hl] at hrow
    have har := fun x y => hrow.ar (x := x) (y := y) (Or.inl rfl)
    have hln := fun x y => hrow.ln (x := x) (y := y)
    have hlen := hB'.len hp (show f < 8 by omega)
    rw [hl] at hlen
    rw [p135_122]
    simp (disch := omega) only [p135_0, p135_1, p135_1i, p135_2, p135_5, p135_6, p135_7, p135_8, p135_9, p135_12, p135_15, p135_17, p135_20, p135_22, p135_25, p135_26, p135_27, p135_30, p135_31, p135_32, p135_33, p135_35, p135_36, p135_39, p135_40, p135_43, p135_44, p135_45, p135_46, p135_47, p135_48, p135_49, p135_50, p135_51, p135_52, p135_55, p135_56, p135_59, p135_60, p135_63, p135_64, p135_65, p135_66, p135_67, p135_68, p135_69, p135_70, p135_71, p135_72, p135_73, p135_76, p135_79, p135_82, p135_83, p135_86, p135_87, p135_88, p135_89, p135_90, p135_93, p135_94, p135_95, p135_96, p135_97, p135_98, p135_101, p135_102, p135_105, p135_108, p135_111, p135_112, p135_113, p135_114, p135_116, p135_119, p135_120, p135_124, p135_125, p135_128, p135_129, p135_130, p135_131, p135_132, p135_133, p135_136, p135_137, p135_138, p135_141, p135_142, p135_145, p135_146, p135_147, p135_148, p135_149, p135_152, p135_153, p135_156, p135_157, p135_158, p135_159, p135_160, p135_162, p135_163, p135_165, p135_167, p135_168, p135_169, p135_170, p135_173, p135_174, p135_177, p135_178, p135_181, p135_183, p135_184, p135_185, p135_186, p135_187, p135_188, p135_189, p135_190, p135_193, p135_194, p135_195, p135_196, p135_197, p135_200, p135_203, p135_204, p135_205, p135_206, p135_208, p135_209, p135_212, p135_215, p135_218, p135_224, p135_227, p135_230, p135_233, p135_234, p135_237, p135_238, p135_241, p135_244, p135_245, p135_248, p135_249, p135_252, p135_253, har, hln, nI_ltI, Nat.lt_irrefl, h5, l_dm_ok, l_dm_0, l_dm_1, l_dm_2, l_dm_2p, l_dm_3, l_dm_4, l_dm_4p, l_dm_5, l_dm_6, l_dm_6p, l_dm_7, l_dm_7p, l_dm_8, l_dm_8p, l_dm_9, l_dm_9p, l_dm_10, l_dm_11, l_dm_12, l_dm_13, l_dm_14, l_po_ok, l_po_0, l_po_1, l_po_2, l_po_2p, l_po_3, l_po_3p, l_po_4, l_po_4p, l_po_5, l_po_5p, l_po_6, l_po_6p, l_po_7, l_po_8, l_po_9, l_po_10, l_po_11, l_po_12, l_po_13, l_po_13p, l_po_14, l_po_15, l_po_16, l_po_17, l_po_17p, l_bxa_ar, l_bxa_ln, l_bxa_ia, l_bxa_e, l_lea_ar, l_lea_ln, l_lea_ia, l_lea_e, l_qua_ar, l_qua_ln, l_qua_ia, l_qua_e, l_bo_ar, l_bo_ln, l_bo_ia, l_bo_is, l_bo_e, l_bo_ep, l_fc_ar, l_fc_ln, l_fc_ia, l_fc_is, l_fc_e, l_fc_ep, l_pa_ar, l_pa_ln, l_pa_ia, l_pa_e, l_pa_ep, l_pa_e3, l_aga_ar, l_aga_ln, l_aga_ia, l_aga_e, l_ag_ar, l_ag_ln, l_ag_ia, l_ag_is, l_ag_e, l_ag_ep, l_nxa_ar, l_nxa_ln, l_nxa_ia, l_nxa_e, l_nx_ar, l_nx_ln, l_nx_ia, l_nx_is, l_nx_e, l_nx_ep, l_qt_ar, l_qt_ln, l_qt_ia, l_qt_is, l_qt_e, l_qt_ep, l_bn_ar, l_bn_ln, l_bn_ia, l_bn_is, l_bn_e, l_bn_ep, l_rl_ar, l_rl_ln, l_rl_ia, l_rl_e, l_rl_ep, l_rl_e3, l_bxo_ar, l_bxo_ln, l_bxo_ia, l_bxo_e, l_bxi_ar, l_bxi_ln, l_bxi_ia, l_bxi_e, l_bxi_ep, l_bxi_e3, l_gta_ar, l_gta_ln, l_gta_ia, l_gta_e, l_gt_ar, l_gt_ln, l_gt_ia, l_gt_e, l_gt_ep, zvi_int, zvl_long, zvd_double, zvr_ref, zisI_int, zisR_ref, zgI_int, zgR_ref, zkl_int, zkl_ref, zkl_none, zkl_long, zkl_double, zct_nil, zct_int, zct_ref, zct_long, zct_double, zbk_some, zbk_none, zbk_exc, nI_clamp, nI_add, nI_mul, true_and, and_true, Nat.reduceAdd, Nat.reduceMul, Nat.reduceLeDiff, Nat.reducePow, ↓reduceIte, Nat.zero_add, Nat.add_zero, Nat.reduceLT, Nat.reduceEqDiff, Nat.le_refl, zn10, zn01, zfitB0, zfitB1, znarB0, znarB1, Nat.lt_irrefl, ↓zvi_eq, ↓zvr_eq]
    exact hQ y bl E G cc uc us _ v5 h5 (by omega) (by omega) (by omega) hP hB' hG hpx hX
  | cons a rest ih =>
    intro pre y bl E G X cc uc us v5 h5 hl hcc hu1 hu2 hP hB' hG hpx hX h15 hQ
    have hlc : (a :: rest).length = rest.length + 1 := rfl
    have hrow := hP.row hp (show f < 8 by omega)
    have har := fun x y => hrow.ar (x := x) (y := y) (Or.inl rfl)
    have hln := fun x y => hrow.ln (x := x) (y := y)
    have hlen := hB'.len hp (show f < 8 by omega)
    have hll : (bl p f).length = pre.length + (rest.length + 1) := by rw [hl, List.length_append]; rfl
    have hk : pre.length < (bl p f).length := by omega
    have ega : (bl p f).getD pre.length 0 = a := by
      rw [hl, getD_app, if_neg (by omega), Nat.sub_self]; rfl
    have ham : a ∈ bl p f := by rw [hl]; exact List.mem_append.mpr (Or.inr (List.mem_cons.mpr (Or.inl rfl)))
    have hmf := ((hB' p f hp (by omega)).1 a).mp ham
    obtain ⟨g25, g26, g16, g0, g27, g24, g28⟩ := cG_25 hG
    obtain ⟨ha26, hra⟩ := hP.cop hp (show f < 8 by omega) ham
    have i1 := fun x y => hrow.ia (x := x) (y := y) (j := pre.length) (by omega)
    have r1 : ∀ X Y, zrd (zmem X Y E) (E.2.2.2 3 p f) pre.length = .ref (G.2.1 p a) := fun X Y => (hrow.rd (x := X) (y := Y) (j := pre.length) (by omega)).trans (congrArg (fun z => Value.ref (G.2.1 p z)) ega)
    have i2 := fun x y => hra.is (x := x) (y := y) (j := 2) (by omega)
    have i0 := fun x y => hra.is (x := x) (y := y) (j := 0) (by omega)
    obtain ⟨mk, hmk, emk⟩ := (hG.2.1 p hp).1.2.2.2.2 a (by omega)
    have r2 : ∀ X Y, zrd (zmem X Y E) (G.2.1 p a) 2 = .int (nI mk) := fun X Y => (hra.rd (x := X) (y := Y) (j := 2) (by omega)).trans (congrArg Value.int (show y 27 p a = nI mk by rw [g27]; exact emk))
    have r0 : ∀ X Y, zrd (zmem X Y E) (G.2.1 p a) 0 = .int (nI a) := fun X Y => hra.rd (x := X) (y := Y) (j := 0) (by omega)
    obtain ⟨hs4, hs4t, hs4n, hs4r⟩ := hP.2.2.2.1
    have sia := fun x y => hs4.ia (x := x) (y := y) (j := a) (by omega)
    have srd := fun x y => hs4.rd (x := x) (y := y) (j := a) (show a < n by omega)
    have s5 := fun x y => (hs4r a hmf.1).1.is (x := x) (y := y) (j := 5) (by omega)
    have e35 : y 35 0 a = X 35 0 a := hG.2.2.2.2.2.2.1 35 a (by omega) (by omega) hmf.1
    have t5 : ∀ X' Y, zrd (zmem X' Y E) (G.2.2.1 a) 5 = .int (X 35 0 a) := fun X' Y => ((hs4r a hmf.1).1.rd (x := X') (y := Y) (j := 5) (by omega)).trans (congrArg Value.int e35)
    have e6 : y 0 0 6 = nI v := by rw [g0]; exact hG.1.2.2.2.2.1
    have e15 : X 15 p f = nI ag := by rw [← h15]; exact (congrFun (congrFun (iRl_sh hG.2.2.2.2.2 (iSh_a (by omega) (by omega))) p) f).symm
    have hx25 : X 25 p a = nI f := by rw [← g25]; exact hmf.2
    have hf1n := nI_ne hf1 (by omega) (by omega)
    have hag' : (nI 0 < nI ag) = True := eq_true (nI_lt hag0 (by omega))
    have eAg : sAg X p a (nI v) = if nI 1 < nI mk then false else !decide (nI v - X 35 0 a < nI ag) := by
      unfold sAg
      rw [hx25, if_neg (nI_m1 (by omega)), if_neg (by rw [hf1n]; exact id), emk, nI_clamp (by omega), e15]
      by_cases c : nI 1 < nI mk
      · rw [if_pos (by rw [zb1 hmk]; exact c), if_pos c]
      · rw [if_neg (by rw [zb1 hmk]; exact c), if_neg c, decide_eq_true (nI_lt hag0 (by omega)), Bool.true_and]
    have fold1 : (a :: rest).foldl (sAgS p (nI v)) X = rest.foldl (sAgS p (nI v)) (sAgS p (nI v) X a) := rfl
    rw [fold1] at hQ
    have hskip : sAg X p a (nI v) = false → zwp zm_135 (122, [some (.ref 1), some (.int many), some (.int (nI p)), some (.int (nI f)), some (.int (nI (pre.length + 1))), some (.ref (G.2.1 p a))], [], zmem x (yD y d) E, uc, us) Q := fun hc => by
      have es : sAgS p (nI v) X a = X := by unfold sAgS; rw [hc]; rfl
      rw [es] at hQ
      have nx := ih (pre ++ [a]) y bl E G X cc uc us (some (.ref (G.2.1 p a))) rfl (by rw [hl, List.append_assoc]; rfl) (by omega) (by omega) (by omega) hP hB' hG hpx hX h15 (fun y' bl' E' G' cc' uc' us' w4 w5 q1 q2 q3 q4 => hQ y' bl' E' G' cc' uc' us' w4 w5 q1 (by omega) (by omega) (by omega))
      rw [List.length_append] at nx
      exact nx
    by_cases c1 : nI 1 < nI mk
    · rw [if_pos c1] at eAg
      have nx := hskip eAg
      rw [p135_122]
      simp (disch := omega) only [p135_0, p135_1, p135_1i, p135_2, p135_5, p135_6, p135_7, p135_8, p135_9, p135_12, p135_15, p135_17, p135_20, p135_22, p135_25, p135_26, p135_27, p135_30, p135_31, p135_32, p135_33, p135_35, p135_36, p135_39, p135_40, p135_43, p135_44, p135_45, p135_46, p135_47, p135_48, p135_49, p135_50, p135_51, p135_52, p135_55, p135_56, p135_59, p135_60, p135_63, p135_64, p135_65, p135_66, p135_67, p135_68, p135_69, p135_70, p135_71, p135_72, p135_73, p135_76, p135_79, p135_82, p135_83, p135_86, p135_87, p135_88, p135_89, p135_90, p135_93, p135_94, p135_95, p135_96, p135_97, p135_98, p135_101, p135_102, p135_105, p135_108, p135_111, p135_112, p135_113, p135_114, p135_116, p135_119, p135_120, p135_124, p135_125, p135_128, p135_129, p135_130, p135_131, p135_132, p135_133, p135_136, p135_137, p135_138, p135_141, p135_142, p135_145, p135_146, p135_147, p135_148, p135_149, p135_152, p135_153, p135_156, p135_157, p135_158, p135_159, p135_160, p135_162, p135_163, p135_165, p135_167, p135_168, p135_169, p135_170, p135_173, p135_174, p135_177, p135_178, p135_181, p135_183, p135_184, p135_185, p135_186, p135_187, p135_188, p135_189, p135_190, p135_193, p135_194, p135_195, p135_196, p135_197, p135_200, p135_203, p135_204, p135_205, p135_206, p135_208, p135_209, p135_212, p135_215, p135_218, p135_224, p135_227, p135_230, p135_233, p135_234, p135_237, p135_238, p135_241, p135_244, p135_245, p135_248, p135_249, p135_252, p135_253, har, hln, nI_ltI, hk, hf1n, h15, hag', i1, r1, i2, r2, c1, h5, yD_rd, l_dm_ok, l_dm_0, l_dm_1, l_dm_2, l_dm_2p, l_dm_3, l_dm_4, l_dm_4p, l_dm_5, l_dm_6, l_dm_6p, l_dm_7, l_dm_7p, l_dm_8, l_dm_8p, l_dm_9, l_dm_9p, l_dm_10, l_dm_11, l_dm_12, l_dm_13, l_dm_14, l_po_ok, l_po_0, l_po_1, l_po_2, l_po_2p, l_po_3, l_po_3p, l_po_4, l_po_4p, l_po_5, l_po_5p, l_po_6, l_po_6p, l_po_7, l_po_8, l_po_9, l_po_10, l_po_11, l_po_12, l_po_13, l_po_13p, l_po_14, l_po_15, l_po_16, l_po_17, l_po_17p, l_bxa_ar, l_bxa_ln, l_bxa_ia, l_bxa_e, l_lea_ar, l_lea_ln, l_lea_ia, l_lea_e, l_qua_ar, l_qua_ln, l_qua_ia, l_qua_e, l_bo_ar, l_bo_ln, l_bo_ia, l_bo_is, l_bo_e, l_bo_ep, l_fc_ar, l_fc_ln, l_fc_ia, l_fc_is, l_fc_e, l_fc_ep, l_pa_ar, l_pa_ln, l_pa_ia, l_pa_e, l_pa_ep, l_pa_e3, l_aga_ar, l_aga_ln, l_aga_ia, l_aga_e, l_ag_ar, l_ag_ln, l_ag_ia, l_ag_is, l_ag_e, l_ag_ep, l_nxa_ar, l_nxa_ln, l_nxa_ia, l_nxa_e, l_nx_ar, l_nx_ln, l_nx_ia, l_nx_is, l_nx_e, l_nx_ep, l_qt_ar, l_qt_ln, l_qt_ia, l_qt_is, l_qt_e, l_qt_ep, l_bn_ar, l_bn_ln, l_bn_ia, l_bn_is, l_bn_e, l_bn_ep, l_rl_ar, l_rl_ln, l_rl_ia, l_rl_e, l_rl_ep, l_rl_e3, l_bxo_ar, l_bxo_ln, l_bxo_ia, l_bxo_e, l_bxi_ar, l_bxi_ln, l_bxi_ia, l_bxi_e, l_bxi_ep, l_bxi_e3, l_gta_ar, l_gta_ln, l_gta_ia, l_gta_e, l_gt_ar, l_gt_ln, l_gt_ia, l_gt_e, l_gt_ep, zvi_int, zvl_long, zvd_double, zvr_ref, zisI_int, zisR_ref, zgI_int, zgR_ref, zkl_int, zkl_ref, zkl_none, zkl_long, zkl_double, zct_nil, zct_int, zct_ref, zct_long, zct_double, zbk_some, zbk_none, zbk_exc, nI_clamp, nI_add, nI_mul, true_and, and_true, Nat.reduceAdd, Nat.reduceMul, Nat.reduceLeDiff, Nat.reducePow, ↓reduceIte, Nat.zero_add, Nat.add_zero, Nat.reduceLT, Nat.reduceEqDiff, Nat.le_refl, zn10, zn01, zfitB0, zfitB1, znarB0, znarB1, Nat.lt_irrefl, ↓zvi_eq, ↓zvr_eq]
      exact nx
    · rw [if_neg c1] at eAg
      by_cases c2 : nI v - X 35 0 a < nI ag
      · rw [decide_eq_true c2] at eAg
        have nx := hskip eAg
        rw [p135_122]
        simp (disch := omega) only [p135_0, p135_1, p135_1i, p135_2, p135_5, p135_6, p135_7, p135_8, p135_9, p135_12, p135_15, p135_17, p135_20, p135_22, p135_25, p135_26, p135_27, p135_30, p135_31, p135_32, p135_33, p135_35, p135_36, p135_39, p135_40, p135_43, p135_44, p135_45, p135_46, p135_47, p135_48, p135_49, p135_50, p135_51, p135_52, p135_55, p135_56, p135_59, p135_60, p135_63, p135_64, p135_65, p135_66, p135_67, p135_68, p135_69, p135_70, p135_71, p135_72, p135_73, p135_76, p135_79, p135_82, p135_83, p135_86, p135_87, p135_88, p135_89, p135_90, p135_93, p135_94, p135_95, p135_96, p135_97, p135_98, p135_101, p135_102, p135_105, p135_108, p135_111, p135_112, p135_113, p135_114, p135_116, p135_119, p135_120, p135_124, p135_125, p135_128, p135_129, p135_130, p135_131, p135_132, p135_133, p135_136, p135_137, p135_138, p135_141, p135_142, p135_145, p135_146, p135_147, p135_148, p135_149, p135_152, p135_153, p135_156, p135_157, p135_158, p135_159, p135_160, p135_162, p135_163, p135_165, p135_167, p135_168, p135_169, p135_170, p135_173, p135_174, p135_177, p135_178, p135_181, p135_183, p135_184, p135_185, p135_186, p135_187, p135_188, p135_189, p135_190, p135_193, p135_194, p135_195, p135_196, p135_197, p135_200, p135_203, p135_204, p135_205, p135_206, p135_208, p135_209, p135_212, p135_215, p135_218, p135_224, p135_227, p135_230, p135_233, p135_234, p135_237, p135_238, p135_241, p135_244, p135_245, p135_248, p135_249, p135_252, p135_253, har, hln, nI_ltI, hk, hf1n, h15, hag', i1, r1, i2, r2, c1, h5, yD_rd, e6, i0, r0, sia, srd, s5, t5, c2, l_dm_ok, l_dm_0, l_dm_1, l_dm_2, l_dm_2p, l_dm_3, l_dm_4, l_dm_4p, l_dm_5, l_dm_6, l_dm_6p, l_dm_7, l_dm_7p, l_dm_8, l_dm_8p, l_dm_9, l_dm_9p, l_dm_10, l_dm_11, l_dm_12, l_dm_13, l_dm_14, l_po_ok, l_po_0, l_po_1, l_po_2, l_po_2p, l_po_3, l_po_3p, l_po_4, l_po_4p, l_po_5, l_po_5p, l_po_6, l_po_6p, l_po_7, l_po_8, l_po_9, l_po_10, l_po_11, l_po_12, l_po_13, l_po_13p, l_po_14, l_po_15, l_po_16, l_po_17, l_po_17p, l_bxa_ar, l_bxa_ln, l_bxa_ia, l_bxa_e, l_lea_ar, l_lea_ln, l_lea_ia, l_lea_e, l_qua_ar, l_qua_ln, l_qua_ia, l_qua_e, l_bo_ar, l_bo_ln, l_bo_ia, l_bo_is, l_bo_e, l_bo_ep, l_fc_ar, l_fc_ln, l_fc_ia, l_fc_is, l_fc_e, l_fc_ep, l_pa_ar, l_pa_ln, l_pa_ia, l_pa_e, l_pa_ep, l_pa_e3, l_aga_ar, l_aga_ln, l_aga_ia, l_aga_e, l_ag_ar, l_ag_ln, l_ag_ia, l_ag_is, l_ag_e, l_ag_ep, l_nxa_ar, l_nxa_ln, l_nxa_ia, l_nxa_e, l_nx_ar, l_nx_ln, l_nx_ia, l_nx_is, l_nx_e, l_nx_ep, l_qt_ar, l_qt_ln, l_qt_ia, l_qt_is, l_qt_e, l_qt_ep, l_bn_ar, l_bn_ln, l_bn_ia, l_bn_is, l_bn_e, l_bn_ep, l_rl_ar, l_rl_ln, l_rl_ia, l_rl_e, l_rl_ep, l_rl_e3, l_bxo_ar, l_bxo_ln, l_bxo_ia, l_bxo_e, l_bxi_ar, l_bxi_ln, l_bxi_ia, l_bxi_e, l_bxi_ep, l_bxi_e3, l_gta_ar, l_gta_ln, l_gta_ia, l_gta_e, l_gt_ar, l_gt_ln, l_gt_ia, l_gt_e, l_gt_ep, zvi_int, zvl_long, zvd_double, zvr_ref, zisI_int, zisR_ref, zgI_int, zgR_ref, zkl_int, zkl_ref, zkl_none, zkl_long, zkl_double, zct_nil, zct_int, zct_ref, zct_long, zct_double, zbk_some, zbk_none, zbk_exc, nI_clamp, nI_add, nI_mul, true_and, and_true, Nat.reduceAdd, Nat.reduceMul, Nat.reduceLeDiff, Nat.reducePow, ↓reduceIte, Nat.zero_add, Nat.add_zero, Nat.reduceLT, Nat.reduceEqDiff, Nat.le_refl, zn10, zn01, zfitB0, zfitB1, znarB0, znarB1, Nat.lt_irrefl, ↓zvi_eq, ↓zvr_eq]
        exact nx
      · rw [decide_eq_false c2] at eAg
        have es : sAgS p (nI v) X a = sLay X p a 1 := by unfold sAgS; rw [eAg]; rfl
        rw [es] at hQ
        have hnum := cG_num hG hB' (by omega) hp (show 1 < 8 by omega)
        have hB'' := hB'.mv hp (show f < 8 by omega) (show 1 < 8 by omega) hf1 ham hnum
        have hl' := hB''.len hp (show 1 < 8 by omega)
        rw [bM_to, List.length_append] at hl'
        have hl2 : (bl p 1).length < 25 := by
          have : ([a] : List Nat).length = 1 := rfl
          omega
        obtain ⟨E2, G2, hP2, w5⟩ := c132 hP hB' hp (show f < 8 by omega) (show 1 < 8 by omega) hf1 hk hl2 (by omega)
        rw [ega] at hP2 w5
        have hg := cG_lay (by omega) hp hmf.1 (show 1 < fc p by have := (hG.2.1 p hp).2.1; omega) hG
        have hkm : ¬ X 25 p a = -1 := by rw [hx25]; exact nI_m1 (by omega)
        have hkb : ¬ X 25 p a = nI 1 := by rw [hx25]; exact fun z => hf1 ((nI_eq (by omega) (by omega)).mp z)
        have h24 : X 24 p a = nI 1 := by
          obtain ⟨S, st, a1, b1, c1⟩ := hX
          rcases c1 p a hp (by omega) with z | z
          · exact absurd z.1 hkm
          · exact z.2.1
        have hX2 := (iXb_lay hX hp (show a < 60 by omega) (show 1 < 8 by omega) (by omega) h24).2 rfl hkm hkb
        have hnd := hB'.nodup hp (show f < 8 by omega)
        rw [hl, List.nodup_append] at hnd
        have hl1 : bM bl p f a 1 p f = pre ++ rest := by
          rw [bM_f hf1, hl]
          have e1 : lw (pre ++ a :: rest) a = lw pre a ++ lw (a :: rest) a := by unfold lw; rw [List.filter_append]
          have e2 : lw (a :: rest) a = lw rest a := by
            unfold lw
            rw [List.filter_cons_of_neg]
            simp
          rw [e1, e2, lw_no (fun z => hnd.2.2 a z a (List.mem_cons.mpr (Or.inl rfl)) rfl), lw_no (List.nodup_cons.mp hnd.2.1).1]
        have nx := ih pre _ _ E2 G2 _ (cc + 1) (uc + 3) (us + 56) (some (.ref (G.2.1 p a))) rfl hl1 (by omega) (by omega) (by omega) hP2 hB'' hg hpx hX2 h15 (fun y' bl' E' G' cc' uc' us' w4 w5 q1 q2 q3 q4 => hQ y' bl' E' G' cc' uc' us' w4 w5 q1 (by omega) (by omega) (by omega))
        rw [p135_122]
        simp (disch := omega) only [p135_0, p135_1, p135_1i, p135_2, p135_5, p135_6, p135_7, p135_8, p135_9, p135_12, p135_15, p135_17, p135_20, p135_22, p135_25, p135_26, p135_27, p135_30, p135_31, p135_32, p135_33, p135_35, p135_36, p135_39, p135_40, p135_43, p135_44, p135_45, p135_46, p135_47, p135_48, p135_49, p135_50, p135_51, p135_52, p135_55, p135_56, p135_59, p135_60, p135_63, p135_64, p135_65, p135_66, p135_67, p135_68, p135_69, p135_70, p135_71, p135_72, p135_73, p135_76, p135_79, p135_82, p135_83, p135_86, p135_87, p135_88, p135_89, p135_90, p135_93, p135_94, p135_95, p135_96, p135_97, p135_98, p135_101, p135_102, p135_105, p135_108, p135_111, p135_112, p135_113, p135_114, p135_116, p135_119, p135_120, p135_124, p135_125, p135_128, p135_129, p135_130, p135_131, p135_132, p135_133, p135_136, p135_137, p135_138, p135_141, p135_142, p135_145, p135_146, p135_147, p135_148, p135_149, p135_152, p135_153, p135_156, p135_157, p135_158, p135_159, p135_160, p135_162, p135_163, p135_165, p135_167, p135_168, p135_169, p135_170, p135_173, p135_174, p135_177, p135_178, p135_181, p135_183, p135_184, p135_185, p135_186, p135_187, p135_188, p135_189, p135_190, p135_193, p135_194, p135_195, p135_196, p135_197, p135_200, p135_203, p135_204, p135_205, p135_206, p135_208, p135_209, p135_212, p135_215, p135_218, p135_224, p135_227, p135_230, p135_233, p135_234, p135_237, p135_238, p135_241, p135_244, p135_245, p135_248, p135_249, p135_252, p135_253, har, hln, nI_ltI, hk, hf1n, h15, hag', i1, r1, i2, r2, c1, h5, yD_rd, e6, i0, r0, sia, srd, s5, t5, c2, w5, nI_ud, l_dm_ok, l_dm_0, l_dm_1, l_dm_2, l_dm_2p, l_dm_3, l_dm_4, l_dm_4p, l_dm_5, l_dm_6, l_dm_6p, l_dm_7, l_dm_7p, l_dm_8, l_dm_8p, l_dm_9, l_dm_9p, l_dm_10, l_dm_11, l_dm_12, l_dm_13, l_dm_14, l_po_ok, l_po_0, l_po_1, l_po_2, l_po_2p, l_po_3, l_po_3p, l_po_4, l_po_4p, l_po_5, l_po_5p, l_po_6, l_po_6p, l_po_7, l_po_8, l_po_9, l_po_10, l_po_11, l_po_12, l_po_13, l_po_13p, l_po_14, l_po_15, l_po_16, l_po_17, l_po_17p, l_bxa_ar, l_bxa_ln, l_bxa_ia, l_bxa_e, l_lea_ar, l_lea_ln, l_lea_ia, l_lea_e, l_qua_ar, l_qua_ln, l_qua_ia, l_qua_e, l_bo_ar, l_bo_ln, l_bo_ia, l_bo_is, l_bo_e, l_bo_ep, l_fc_ar, l_fc_ln, l_fc_ia, l_fc_is, l_fc_e, l_fc_ep, l_pa_ar, l_pa_ln, l_pa_ia, l_pa_e, l_pa_ep, l_pa_e3, l_aga_ar, l_aga_ln, l_aga_ia, l_aga_e, l_ag_ar, l_ag_ln, l_ag_ia, l_ag_is, l_ag_e, l_ag_ep, l_nxa_ar, l_nxa_ln, l_nxa_ia, l_nxa_e, l_nx_ar, l_nx_ln, l_nx_ia, l_nx_is, l_nx_e, l_nx_ep, l_qt_ar, l_qt_ln, l_qt_ia, l_qt_is, l_qt_e, l_qt_ep, l_bn_ar, l_bn_ln, l_bn_ia, l_bn_is, l_bn_e, l_bn_ep, l_rl_ar, l_rl_ln, l_rl_ia, l_rl_e, l_rl_ep, l_rl_e3, l_bxo_ar, l_bxo_ln, l_bxo_ia, l_bxo_e, l_bxi_ar, l_bxi_ln, l_bxi_ia, l_bxi_e, l_bxi_ep, l_bxi_e3, l_gta_ar, l_gta_ln, l_gta_ia, l_gta_e, l_gt_ar, l_gt_ln, l_gt_ia, l_gt_e, l_gt_ep, zvi_int, zvl_long, zvd_double, zvr_ref, zisI_int, zisR_ref, zgI_int, zgR_ref, zkl_int, zkl_ref, zkl_none, zkl_long, zkl_double, zct_nil, zct_int, zct_ref, zct_long, zct_double, zbk_some, zbk_none, zbk_exc, nI_clamp, nI_add, nI_mul, true_and, and_true, Nat.reduceAdd, Nat.reduceMul, Nat.reduceLeDiff, Nat.reducePow, ↓reduceIte, Nat.zero_add, Nat.add_zero, Nat.reduceLT, Nat.reduceEqDiff, Nat.le_refl, zn10, zn01, zfitB0, zfitB1, znarB0, znarB1, Nat.lt_irrefl, ↓zvi_eq, ↓zvr_eq]
        exact ⟨by omega, nx⟩
end ZB
