/-! a message comes to a person (source: wip/p35/src/274.cm.txt, by expand3.py) -/
section ZB
variable {E : zEx} {x y : zSt} {G : pG} {bl : Nat → Nat → List Nat} {fc nr : Nat → Nat} {n L p : Nat} {xs : Nat → Int32}
theorem c127 {m : Nat} (hP : PS E y G bl fc nr n L xs) (hpx : (∀ p r, p < 4 → r < nr p → (∃ k, k < 5 ∧ y 18 p r = nI k) ∧ (y 18 p r = nI 2 → ∃ a, a < 8 ∧ y 19 p r = nI a)) ∧ (∀ i, i < n → ∃ w, w < 256 ∧ y 32 0 i = nI w)) (hp : p < 4) (h21 : ∀ r, r < nr p → ∃ k, k < 5 ∧ y 21 p r = nI k) (hm : m < n) (h34 : y 34 0 m = -1 ∨ ∃ k, k < 100 ∧ y 34 0 m = nI k) : ∃ E'' a'', eL E E'' ∧ vI E'' a'' ((yJ y m nr p).2.2.2.length + 2) (tlR (yJ y m nr p)) ∧ ∀ (x Y : zSt) (Q : zO → zM → Prop), zcl 127 [.ref 1, .int (nI p), .ref (G.2.2.1 m), .int (-1)] (zmem x Y E) Q ↔ Q (.inl (some (.ref a''))) (zmem x Y E'') := by
  obtain ⟨r1, r2, r3, r4, r5, r6⟩ := id hP
  obtain ⟨hv, hvt, hN, hrow⟩ := r3 p hp
  obtain ⟨hs, hst, hn25, hsr⟩ := r4
  obtain ⟨w, hw, ew⟩ := hpx.2 m hm
  obtain ⟨E1, k1, n1, v1, w1⟩ := nwI E 0
  have hru : ∀ r, r < nr p → (∃ k, k < 5 ∧ yRu y p 0 r = nI k) ∧ (yRu y p 0 r = nI 2 → ∃ z, z < 8 ∧ yRu y p 1 r = nI z) ∧ (yRu y p 2 r = nI 0 ∨ yRu y p 2 r = nI 1) ∧ (∃ k, k < 5 ∧ yRu y p 3 r = nI k) ∧ (yRu y p 5 r = nI 0 ∨ yRu y p 5 r = nI 1) := by
    intro r hr
    refine ⟨(hpx.1 p r hp hr).1, (hpx.1 p r hp hr).2, zand1b _, h21 r hr, ?_⟩
    show (if nI 1 < y 20 p r then nI 1 else nI 0) = nI 0 ∨ (if nI 1 < y 20 p r then nI 1 else nI 0) = nI 1
    split
    · exact Or.inr rfl
    · exact Or.inl rfl
  obtain ⟨E2, a2, k2, v2, w2⟩ := tl_lp (c := G.2.2.1 m) (w := w) (ru := yRu y p) (W := rw7 y m) (lf := sLf y m) hp (by rw [k1.rf]; exact k1.R hv) hN (fun r hr => k1.I (hrow r hr).1) hru (k1.I (hsr m hm).1) hw ew h34 rfl rfl rfl rfl rfl (nr p) 0 (by omega) zJ0 E1 (476 + E.1 + 1) (eL_refl _) (v1.cg (fun j hj => absurd hj (Nat.not_lt_zero _))) ⟨Or.inl rfl, ⟨0, by omega, rfl⟩, Nat.le_refl _⟩
  refine ⟨E2, a2, k1.trans k2, v2, fun x Y Q => ?_⟩
  have p0 : (0 : Int32) ≤ nI 0 := by decide
  rw [e127, ← w2 x Y Q none none rfl rfl]
  simp (disch := omega) only [p127_0, p127_1, p127_3, p127_4, p127_6, p127_7, p127_9, p127_10, p127_12, p127_14, p127_15, p127_19, p127_20, p127_23, p127_24, p127_25, p127_26, p127_29, p127_30, p127_33, p127_34, p127_35, p127_37, p127_38, p127_40, p127_42, p127_43, p127_46, p127_48, p127_49, p127_52, p127_55, p127_58, p127_60, p127_61, p127_62, p127_65, p127_67, p127_68, p127_69, p127_71, p127_73, p127_74, p127_75, p127_76, p127_79, p127_81, p127_82, p127_85, p127_88, p127_90, p127_91, p127_92, p127_93, p127_96, p127_98, p127_99, p127_100, p127_103, p127_106, p127_108, p127_109, p127_110, p127_111, p127_114, p127_116, p127_117, p127_118, p127_119, p127_121, p127_123, p127_125, p127_126, p127_128, p127_129, p127_131, p127_132, p127_135, p127_137, p127_139, p127_140, p127_142, p127_143, p127_144, p127_145, p127_147, p127_149, p127_151, p127_152, p127_153, p127_154, p127_157, p127_158, p127_160, p127_162, p127_163, p127_164, p127_165, p127_168, p127_171, p127_174, p127_177, p127_179, p127_180, p127_181, p127_182, p127_184, p127_186, p127_188, p127_189, p127_191, p127_194, p127_195, p127_198, p127_200, p127_201, p127_203, p127_204, p127_206, p127_207, p127_209, p127_210, p127_212, p127_213, p127_215, p127_216, p127_219, p127_221, w1, zmem_c, p0, l_po_ok, l_po_0, l_po_1, l_po_2, l_po_2p, l_po_3, l_po_3p, l_po_4, l_po_4p, l_po_5, l_po_5p, l_po_6, l_po_6p, l_po_7, l_po_8, l_po_9, l_po_10, l_po_11, l_po_12, l_po_13, l_po_13p, l_po_14, l_po_15, l_po_16, l_po_17, l_po_17p, l_pa_ar, l_pa_ln, l_pa_ia, l_pa_e, l_pa_ep, l_pa_e3, l_aga_ar, l_aga_ln, l_aga_ia, l_aga_e, l_ag_ar, l_ag_ln, l_ag_ia, l_ag_is, l_ag_e, l_ag_ep, l_nxa_ar, l_nxa_ln, l_nxa_ia, l_nxa_e, l_nx_ar, l_nx_ln, l_nx_ia, l_nx_is, l_nx_e, l_nx_ep, l_qt_ar, l_qt_ln, l_qt_ia, l_qt_is, l_qt_e, l_qt_ep, l_bn_ar, l_bn_ln, l_bn_ia, l_bn_is, l_bn_e, l_bn_ep, l_rl_ar, l_rl_ln, l_rl_ia, l_rl_e, l_rl_ep, l_rl_e3, l_bxo_ar, l_bxo_ln, l_bxo_ia, l_bxo_e, l_bxi_ar, l_bxi_ln, l_bxi_ia, l_bxi_e, l_bxi_ep, l_bxi_e3, l_gta_ar, l_gta_ln, l_gta_ia, l_gta_e, l_gt_ar, l_gt_ln, l_gt_ia, l_gt_e, l_gt_ep, zvi_int, zvl_long, zvd_double, zvr_ref, zisI_int, zisR_ref, zgI_int, zgR_ref, zkl_int, zkl_ref, zkl_none, zkl_long, zkl_double, zct_nil, zct_int, zct_ref, zct_long, zct_double, zbk_some, zbk_none, zbk_exc, nI_clamp, nI_add, nI_mul, true_and, and_true, Nat.reduceAdd, Nat.reduceMul, Nat.reduceLeDiff, Nat.reducePow, ↓reduceIte, Nat.zero_add, Nat.add_zero, Nat.reduceLT, Nat.reduceEqDiff, Nat.le_refl, zn10, zn01, zfitB0, zfitB1, znarB0, znarB1, Nat.lt_irrefl, ↓zvi_eq, ↓zvr_eq]
  rfl
/-- another list of whom it goes on to -/
theorem PS.lat {a m : Nat} {g : Nat → Int32} (r : PS E y G bl fc nr n L xs) (ha : vI E a m g) (hm : m ≤ 100) (hw : G.1 a = 0) : PS (eR E 5 0 0 a) y G bl fc nr n L xs := by
  obtain ⟨r1, r2, r3, r4, r5, r6⟩ := r
  refine ⟨fun q g hq hg => ?_, fun q hq => ?_, fun q hq => ?_, ?_, ?_, r6⟩
  · rw [eR_o (by omega)]; exact r1 q g hq hg
  · rw [eR_o (by omega)]; exact r2 q hq
  · rw [eR_o (by omega)]; exact r3 q hq
  · unfold pSe
    rw [eR_o (by omega)]; exact r4
  · unfold pLa
    rw [eR_n]
    exact ⟨m, g, hm, ha, hw⟩
theorem cm_fin {a1 c m g : Nat} {R : Nat → Int32} (hP : PS E y G bl fc nr n L xs) (va : vI E a1 (g + 2) R) (hg : g ≤ 6) : ∃ E' G', PS E' y G' bl fc nr n L xs ∧ vI E' (E'.2.2.2 5 0 0) g (fun j => R (j + 2)) ∧ (∀ b N g, vI E b N g → vI E' b N g ∧ G'.1 b = G.1 b) ∧ ∀ (x : zSt) (d : Nat) (Q : zO → zM → Prop) (uc us : Nat), uc ≤ 11 → us ≤ 60 → (zwp zm_133 (98, [some (.ref 1), some (.int (nI p)), some (.int (nI m)), some (.ref c), some (.ref a1)], [], zmem x (yD y d) E, uc, us) Q ↔ Q (.inl none) (zmem x (yD y d) E')) := by
  obtain ⟨E1, k1, n1, v1, w1⟩ := nwI E g
  have v1' := v1.refs (c := 5) (p := 0) (i := 0) (v := 476 + E.1 + 1)
  have va' := (k1.I va).refs (c := 5) (p := 0) (i := 0) (v := 476 + E.1 + 1)
  obtain ⟨E2, hE2⟩ : ∃ E2, E2 = eC E1 a1 2 (476 + E.1 + 1) 0 g := ⟨_, rfl⟩
  have k2 : eL E E2 := by rw [hE2]; exact k1.cpy (by omega)
  have v2 : vI E2 (476 + E.1 + 1) g (fun j => R (j + 2)) := by
    rw [hE2]
    refine ⟨v1.1, v1.2.1, fun j hj => ?_⟩
    show (if 476 + E.1 + 1 = 476 + E.1 + 1 ∧ 0 ≤ j ∧ j < 0 + g then E1.2.2.1 a1 (2 + (j - 0)) else E1.2.2.1 (476 + E.1 + 1) j) = _
    rw [if_pos ⟨rfl, by omega, by omega⟩, show 2 + (j - 0) = j + 2 by omega]
    exact (k1.I va).2.2 _ (by omega)
  have a2 := fun x y => zacp_I (x := x) (y := y) va' v1' (sp := 2) (dp := 0) (c := g) (by omega) (by omega) (by omega)
  have w2 : ∀ x y, zcopy (zmem x y (eR E1 5 0 0 (476 + E.1 + 1))) a1 2 (476 + E.1 + 1) 0 g = zmem x y (eR E2 5 0 0 (476 + E.1 + 1)) := fun x y => by
    rw [hE2]
    exact zmem_cpy va'.1 v1'.1
  have hP1 := ((hP.mW (a := 476 + E.1 + 1) (v := 0) (by omega)).mL k2).lat v2 (by omega) tU_n
  have har := fun x y => va.ar (x := x) (y := y)
  have hln := fun x y => va.ln (x := x) (y := y)
  have har1 := fun x y => v1'.ar (x := x) (y := y)
  have hln1 := fun x y => v1'.ln (x := x) (y := y)
  have p1 : (0 : Int32) ≤ nI g := nI_pos' (by omega)
  have hs1 : nI (g + 2) - nI 2 = nI g := by rw [nI_sub (by omega)]; rfl
  refine ⟨eR E2 5 0 0 (476 + E.1 + 1), (tU G.1 (476 + E.1 + 1) 0, G.2), hP1, ?_, fun b N g h => ⟨k2.I h, tU_o (by have := h.1.2.1; omega)⟩, fun x d Q uc us huc hus => ?_⟩
  · rw [eR_n]
    exact v2
  · rw [p133_98]
    simp (disch := omega) only [p133_0, p133_1, p133_4, p133_5, p133_6, p133_7, p133_8, p133_11, p133_12, p133_13, p133_16, p133_17, p133_18, p133_19, p133_20, p133_21, p133_22, p133_25, p133_26, p133_27, p133_28, p133_29, p133_30, p133_31, p133_32, p133_35, p133_37, p133_38, p133_39, p133_41, p133_44, p133_46, p133_47, p133_48, p133_51, p133_52, p133_53, p133_56, p133_57, p133_58, p133_59, p133_60, p133_61, p133_64, p133_65, p133_66, p133_69, p133_70, p133_73, p133_74, p133_75, p133_76, p133_77, p133_78, p133_79, p133_80, p133_81, p133_84, p133_85, p133_86, p133_87, p133_89, p133_90, p133_91, p133_93, p133_94, p133_95, p133_99, p133_101, p133_102, p133_103, p133_104, p133_106, p133_109, p133_111, p133_112, p133_113, p133_116, p133_117, p133_118, p133_121, p133_122, p133_125, har, hln, hs1, p1, w1, zmem_c, eR_n, har1, hln1, a2, w2, l_po_ok, l_po_0, l_po_1, l_po_2, l_po_2p, l_po_3, l_po_3p, l_po_4, l_po_4p, l_po_5, l_po_5p, l_po_6, l_po_6p, l_po_7, l_po_8, l_po_9, l_po_10, l_po_11, l_po_12, l_po_13, l_po_13p, l_po_14, l_po_15, l_po_16, l_po_17, l_po_17p, l_pa_ar, l_pa_ln, l_pa_ia, l_pa_e, l_pa_ep, l_pa_e3, l_aga_ar, l_aga_ln, l_aga_ia, l_aga_e, l_ag_ar, l_ag_ln, l_ag_ia, l_ag_is, l_ag_e, l_ag_ep, l_nxa_ar, l_nxa_ln, l_nxa_ia, l_nxa_e, l_nx_ar, l_nx_ln, l_nx_ia, l_nx_is, l_nx_e, l_nx_ep, l_qt_ar, l_qt_ln, l_qt_ia, l_qt_is, l_qt_e, l_qt_ep, l_bn_ar, l_bn_ln, l_bn_ia, l_bn_is, l_bn_e, l_bn_ep, l_rl_ar, l_rl_ln, l_rl_ia, l_rl_e, l_rl_ep, l_rl_e3, l_bxo_ar, l_bxo_ln, l_bxo_ia, l_bxo_e, l_bxi_ar, l_bxi_ln, l_bxi_ia, l_bxi_e, l_bxi_ep, l_bxi_e3, l_gta_ar, l_gta_ln, l_gta_ia, l_gta_e, l_gt_ar, l_gt_ln, l_gt_ia, l_gt_e, l_gt_ep, zvi_int, zvl_long, zvd_double, zvr_ref, zisI_int, zisR_ref, zgI_int, zgR_ref, zkl_int, zkl_ref, zkl_none, zkl_long, zkl_double, zct_nil, zct_int, zct_ref, zct_long, zct_double, zbk_some, zbk_none, zbk_exc, nI_clamp, nI_add, nI_mul, true_and, and_true, Nat.reduceAdd, Nat.reduceMul, Nat.reduceLeDiff, Nat.reducePow, ↓reduceIte, Nat.zero_add, Nat.add_zero, Nat.reduceLT, Nat.reduceEqDiff, Nat.le_refl, zn10, zn01, zfitB0, zfitB1, znarB0, znarB1, Nat.lt_irrefl, ↓zvi_eq, ↓zvr_eq]
    exact ⟨fun z => z.2.2, fun z => ⟨by omega, by omega, z⟩⟩
end ZB
