/-! the clock set: the bin, and what is old (source: wip/p35/src/281.ck.txt, by expand3.py) -/
section ZB
variable {x : zSt} {fc nr : Nat → Nat} {n L p : Nat} {xs : Nat → Int32}
theorem nI_dn (r : Nat) : nI (r + 1) + (-1) = nI r := by
  have : nI (r + 1) = nI r + nI 1 := (nI_add r 1).symm
  rw [this, Int32.add_assoc, show nI 1 + (-1 : Int32) = 0 by decide, Int32.add_zero]
theorem nI_d0 : nI 0 + (-1) = (-1 : Int32) := by decide
theorem nI_ud (r : Nat) : nI r + (-1) + nI 1 = nI r := by
  rw [Int32.add_assoc, show (-1 : Int32) + nI 1 = 0 by decide, Int32.add_zero]
def kD (r : Nat) : Int32 := if r = 0 then -1 else nI (r - 1)
theorem kD_s (r : Nat) : kD (r + 1) = nI r := by
  unfold kD
  rw [if_neg (by omega), Nat.add_sub_cancel]
theorem kD_d (r : Nat) : nI r + (-1) = kD r := by
  unfold kD
  cases r with
  | zero => rw [if_pos rfl]; exact nI_d0
  | succ r => rw [if_neg (by omega), Nat.add_sub_cancel]; exact nI_dn r
theorem bn_lp {y : zSt} {bl : Nat → Nat → List Nat} {l0 : List Nat} {d : Nat} {Q : zO → zM → Prop} {v4 v5 : Option Value} (hp : p < 4) (hl0 : l0.length ≤ 25) (h60 : ∀ i, i ∈ l0 → i < 26) : ∀ (r : Nat), r ≤ l0.length → ∀ (suf : List Nat) (c : Nat) (E : zEx) (G : pG) (uc us : Nat), suf.length + r ≤ 25 → (∀ i, i ∈ suf → i < 26) → uc + r ≤ 2501 → us + 25 * r ≤ 47306 → PS E y G (bU bl p 1 (l0.take r ++ suf)) fc nr n L xs → (∀ (E' : zEx) (G' : pG) (uc' us' : Nat), PS E' y G' (bU bl p 1 ((l0.take r).filter (fun i => decide (y 0 0 6 - y 29 p i < y 0 0 7)) ++ suf)) fc nr n L xs → uc' ≤ uc + r → us' ≤ us + 25 * r → zwp zm_135 (111, [some (.ref 1), some (.int (nI (c + ((l0.take r).filter (fun i => !decide (y 0 0 6 - y 29 p i < y 0 0 7))).length))), some (.int (nI p)), some (.int (-1)), v4, v5], [], zmem x (yD y d) E', uc', us') Q) → zwp zm_135 (51, [some (.ref 1), some (.int (nI c)), some (.int (nI p)), some (.int (kD r)), v4, v5], [], zmem x (yD y d) E, uc, us) Q := by
  intro r
  induction r with
  | zero =>
    intro hr suf c E G uc us hs hs26 hu1 hu2 hP hQ
    have k0 : kD 0 = -1 := rfl
    have hm1 : ((-1 : Int32) < nI 0) = True := eq_true (by decide)
    rw [k0, p135_51]
    simp (disch := omega) only [p135_0, p135_1, p135_1i, p135_2, p135_5, p135_6, p135_7, p135_8, p135_9, p135_12, p135_15, p135_17, p135_20, p135_22, p135_25, p135_26, p135_27, p135_30, p135_31, p135_32, p135_33, p135_35, p135_36, p135_39, p135_40, p135_43, p135_44, p135_45, p135_46, p135_47, p135_48, p135_49, p135_50, p135_52, p135_55, p135_56, p135_59, p135_60, p135_63, p135_64, p135_65, p135_66, p135_67, p135_68, p135_69, p135_70, p135_71, p135_72, p135_73, p135_76, p135_79, p135_82, p135_83, p135_86, p135_87, p135_88, p135_89, p135_90, p135_93, p135_94, p135_95, p135_96, p135_97, p135_98, p135_101, p135_102, p135_105, p135_108, p135_112, p135_113, p135_114, p135_116, p135_119, p135_120, p135_122, p135_124, p135_125, p135_128, p135_129, p135_130, p135_131, p135_132, p135_133, p135_136, p135_137, p135_138, p135_141, p135_142, p135_145, p135_146, p135_147, p135_148, p135_149, p135_152, p135_153, p135_156, p135_157, p135_158, p135_159, p135_160, p135_162, p135_163, p135_165, p135_167, p135_168, p135_169, p135_170, p135_173, p135_174, p135_177, p135_178, p135_181, p135_183, p135_184, p135_185, p135_186, p135_187, p135_188, p135_189, p135_190, p135_193, p135_194, p135_195, p135_196, p135_197, p135_200, p135_203, p135_204, p135_205, p135_206, p135_208, p135_209, p135_212, p135_215, p135_218, p135_221, p135_224, p135_227, p135_230, p135_233, p135_234, p135_237, p135_238, p135_241, p135_244, p135_245, p135_248, p135_249, p135_252, p135_253, hm1, l_dm_ok, l_dm_0, l_dm_1, l_dm_2, l_dm_2p, l_dm_3, l_dm_4, l_dm_4p, l_dm_5, l_dm_6, l_dm_6p, l_dm_7, l_dm_7p, l_dm_8, l_dm_8p, l_dm_9, l_dm_9p, l_dm_10, l_dm_11, l_dm_12, l_dm_13, l_dm_14, l_po_ok, l_po_0, l_po_1, l_po_2, l_po_2p, l_po_3, l_po_3p, l_po_4, l_po_4p, l_po_5, l_po_5p, l_po_6, l_po_6p, l_po_7, l_po_8, l_po_9, l_po_10, l_po_11, l_po_12, l_po_13, l_po_13p, l_po_14, l_po_15, l_po_16, l_po_17, l_po_17p, l_bxa_ar, l_bxa_ln, l_bxa_ia, l_bxa_e, l_lea_ar, l_lea_ln, l_lea_ia, l_lea_e, l_qua_ar, l_qua_ln, l_qua_ia, l_qua_e, l_bo_ar, l_bo_ln, l_bo_ia, l_bo_is, l_bo_e, l_bo_ep, l_fc_ar, l_fc_ln, l_fc_ia, l_fc_is, l_fc_e, l_fc_ep, l_pa_ar, l_pa_ln, l_pa_ia, l_pa_e, l_pa_ep, l_pa_e3, l_aga_ar, l_aga_ln, l_aga_ia, l_aga_e, l_ag_ar, l_ag_ln, l_ag_ia, l_ag_is, l_ag_e, l_ag_ep, l_nxa_ar, l_nxa_ln, l_nxa_ia, l_nxa_e, l_nx_ar, l_nx_ln, l_nx_ia, l_nx_is, l_nx_e, l_nx_ep, l_qt_ar, l_qt_ln, l_qt_ia, l_qt_is, l_qt_e, l_qt_ep, l_bn_ar, l_bn_ln, l_bn_ia, l_bn_is, l_bn_e, l_bn_ep, l_rl_ar, l_rl_ln, l_rl_ia, l_rl_e, l_rl_ep, l_rl_e3, l_bxo_ar, l_bxo_ln, l_bxo_ia, l_bxo_e, l_bxi_ar, l_bxi_ln, l_bxi_ia, l_bxi_e, l_bxi_ep, l_bxi_e3, l_gta_ar, l_gta_ln, l_gta_ia, l_gta_e, l_gt_ar, l_gt_ln, l_gt_ia, l_gt_e, l_gt_ep, zvi_int, zvl_long, zvd_double, zvr_ref, zisI_int, zisR_ref, zgI_int, zgR_ref, zkl_int, zkl_ref, zkl_none, zkl_long, zkl_double, zct_nil, zct_int, zct_ref, zct_long, zct_double, zbk_some, zbk_none, zbk_exc, nI_clamp, nI_add, nI_mul, true_and, and_true, Nat.reduceAdd, Nat.reduceMul, Nat.reduceLeDiff, Nat.reducePow, ↓reduceIte, Nat.zero_add, Nat.add_zero, Nat.reduceLT, Nat.reduceEqDiff, Nat.le_refl, zn10, zn01, zfitB0, zfitB1, znarB0, znarB1, Nat.lt_irrefl, ↓zvi_eq, ↓zvr_eq]
    exact hQ E G uc us hP (by omega) (by omega)
  | succ r ih =>
    intro hr suf c E G uc us hs hs26 hu1 hu2 hP hQ
    obtain ⟨a, ea⟩ : ∃ a, a = l0.getD r 0 := ⟨_, rfl⟩
    have hal : a ∈ l0 := by rw [ea]; exact getD_mem (by omega)
    have et : l0.take (r + 1) = l0.take r ++ [a] := by
      rw [List.take_add_one, List.getElem?_eq_getElem (by omega), ea, List.getD_eq_getElem?_getD, List.getElem?_eq_getElem (by omega)]
      rfl
    have el : l0.take (r + 1) ++ suf = l0.take r ++ a :: suf := by rw [et, List.append_assoc]; rfl
    have htl : (l0.take r).length = r := by rw [List.length_take]; omega
    rw [el] at hP
    have hrow := (hP.row hp (show 1 < 8 by omega))
    rw [bU_n] at hrow
    have hlen : (l0.take r ++ a :: suf).length = r + (suf.length + 1) := by rw [List.length_append, htl]; rfl
    have ega : (l0.take r ++ a :: suf).getD r 0 = a := by
      rw [getD_app, htl, if_neg (by omega), Nat.sub_self]; rfl
    obtain ⟨ha26, hra⟩ := hP.cop hp (show 1 < 8 by omega) (i := a) (by rw [bU_n]; exact List.mem_append.mpr (Or.inr (List.mem_cons.mpr (Or.inl rfl))))
    have i1 := fun x y => hrow.ia (x := x) (y := y) (j := r) (by omega)
    have r1 : ∀ X Y, zrd (zmem X Y E) (E.2.2.2 3 p 1) r = .ref (G.2.1 p a) := fun X Y => (hrow.rd (x := X) (y := Y) (j := r) (by omega)).trans (congrArg (fun z => Value.ref (G.2.1 p z)) ega)
    have i4 := fun x y => hra.is (x := x) (y := y) (j := 4) (by omega)
    have r4 : ∀ X Y, zrd (zmem X Y E) (G.2.1 p a) 4 = .int (y 29 p a) := fun X Y => hra.rd (x := X) (y := Y) (j := 4) (by omega)
    have hr0 : (nI r < nI 0) = False := eq_false (nI_nlt (Nat.zero_le _) (by omega))
    have ef : ∀ K : Nat → Bool, (l0.take (r + 1)).filter K = (l0.take r).filter K ++ (if K a = true then [a] else []) := fun K => by
      rw [et, List.filter_append]
      congr 1
      rw [List.filter_cons, List.filter_nil]
    rw [kD_s]
    by_cases hk : y 0 0 6 - y 29 p a < y 0 0 7
    · have nx := ih (by omega) (a :: suf) c E G uc us (by have : (a :: suf).length = suf.length + 1 := rfl; omega) (fun i hi => by
        rcases List.mem_cons.mp hi with h | h
        · rw [h]; exact ha26
        · exact hs26 i h) (by omega) (by omega) hP (fun E' G' uc' us' h1 h2 h3 => by
        have := hQ E' G' uc' us' (by
          rw [ef, decide_eq_true hk, if_pos rfl, List.append_assoc]
          exact h1) (by omega) (by omega)
        rw [ef, decide_eq_true hk] at this
        simpa using this)
      rw [p135_51]
      simp (disch := omega) only [p135_0, p135_1, p135_1i, p135_2, p135_5, p135_6, p135_7, p135_8, p135_9, p135_12, p135_15, p135_17, p135_20, p135_22, p135_25, p135_26, p135_27, p135_30, p135_31, p135_32, p135_33, p135_35, p135_36, p135_39, p135_40, p135_43, p135_44, p135_45, p135_46, p135_47, p135_48, p135_49, p135_50, p135_52, p135_55, p135_56, p135_59, p135_60, p135_63, p135_64, p135_65, p135_66, p135_67, p135_68, p135_69, p135_70, p135_71, p135_72, p135_73, p135_76, p135_79, p135_82, p135_83, p135_86, p135_87, p135_88, p135_89, p135_90, p135_93, p135_94, p135_95, p135_96, p135_97, p135_98, p135_101, p135_102, p135_105, p135_108, p135_112, p135_113, p135_114, p135_116, p135_119, p135_120, p135_122, p135_124, p135_125, p135_128, p135_129, p135_130, p135_131, p135_132, p135_133, p135_136, p135_137, p135_138, p135_141, p135_142, p135_145, p135_146, p135_147, p135_148, p135_149, p135_152, p135_153, p135_156, p135_157, p135_158, p135_159, p135_160, p135_162, p135_163, p135_165, p135_167, p135_168, p135_169, p135_170, p135_173, p135_174, p135_177, p135_178, p135_181, p135_183, p135_184, p135_185, p135_186, p135_187, p135_188, p135_189, p135_190, p135_193, p135_194, p135_195, p135_196, p135_197, p135_200, p135_203, p135_204, p135_205, p135_206, p135_208, p135_209, p135_212, p135_215, p135_218, p135_221, p135_224, p135_227, p135_230, p135_233, p135_234, p135_237, p135_238, p135_241, p135_244, p135_245, p135_248, p135_249, p135_252, p135_253, hr0, i1, r1, i4, r4, yD_rd, hk, kD_d, l_dm_ok, l_dm_0, l_dm_1, l_dm_2, l_dm_2p, l_dm_3, l_dm_4, l_dm_4p, l_dm_5, l_dm_6, l_dm_6p, l_dm_7, l_dm_7p, l_dm_8, l_dm_8p, l_dm_9, l_dm_9p, l_dm_10, l_dm_11, l_dm_12, l_dm_13, l_dm_14, l_po_ok, l_po_0, l_po_1, l_po_2, l_po_2p, l_po_3, l_po_3p, l_po_4, l_po_4p, l_po_5, l_po_5p, l_po_6, l_po_6p, l_po_7, l_po_8, l_po_9, l_po_10, l_po_11, l_po_12, l_po_13, l_po_13p, l_po_14, l_po_15, l_po_16, l_po_17, l_po_17p, l_bxa_ar, l_bxa_ln, l_bxa_ia, l_bxa_e, l_lea_ar, l_lea_ln, l_lea_ia, l_lea_e, l_qua_ar, l_qua_ln, l_qua_ia, l_qua_e, l_bo_ar, l_bo_ln, l_bo_ia, l_bo_is, l_bo_e, l_bo_ep, l_fc_ar, l_fc_ln, l_fc_ia, l_fc_is, l_fc_e, l_fc_ep, l_pa_ar, l_pa_ln, l_pa_ia, l_pa_e, l_pa_ep, l_pa_e3, l_aga_ar, l_aga_ln, l_aga_ia, l_aga_e, l_ag_ar, l_ag_ln, l_ag_ia, l_ag_is, l_ag_e, l_ag_ep, l_nxa_ar, l_nxa_ln, l_nxa_ia, l_nxa_e, l_nx_ar, l_nx_ln, l_nx_ia, l_nx_is, l_nx_e, l_nx_ep, l_qt_ar, l_qt_ln, l_qt_ia, l_qt_is, l_qt_e, l_qt_ep, l_bn_ar, l_bn_ln, l_bn_ia, l_bn_is, l_bn_e, l_bn_ep, l_rl_ar, l_rl_ln, l_rl_ia, l_rl_e, l_rl_ep, l_rl_e3, l_bxo_ar, l_bxo_ln, l_bxo_ia, l_bxo_e, l_bxi_ar, l_bxi_ln, l_bxi_ia, l_bxi_e, l_bxi_ep, l_bxi_e3, l_gta_ar, l_gta_ln, l_gta_ia, l_gta_e, l_gt_ar, l_gt_ln, l_gt_ia, l_gt_e, l_gt_ep, zvi_int, zvl_long, zvd_double, zvr_ref, zisI_int, zisR_ref, zgI_int, zgR_ref, zkl_int, zkl_ref, zkl_none, zkl_long, zkl_double, zct_nil, zct_int, zct_ref, zct_long, zct_double, zbk_some, zbk_none, zbk_exc, nI_clamp, nI_add, nI_mul, true_and, and_true, Nat.reduceAdd, Nat.reduceMul, Nat.reduceLeDiff, Nat.reducePow, ↓reduceIte, Nat.zero_add, Nat.add_zero, Nat.reduceLT, Nat.reduceEqDiff, Nat.le_refl, zn10, zn01, zfitB0, zfitB1, znarB0, znarB1, Nat.lt_irrefl, ↓zvi_eq, ↓zvr_eq]
      exact nx
    · obtain ⟨E1, k1, v1, n1, w1⟩ := c117 hrow (fun j hj => (hP.cop hp (show 1 < 8 by omega) (by rw [bU_n]; exact getD_mem hj)).2.T) (show r < (l0.take r ++ a :: suf).length by omega) (by omega)
      have i8 := fun x y => l_bxi_e3 (x := x) (y := y) hp (show 1 < 8 by omega) v1.1 (by rw [v1.2.1])
      have hln : (l0.take r ++ suf).length = r + suf.length := by rw [List.length_append, htl]
      have hP1 := ((hP.mW (a := 476 + E.1 + 1) (v := 0) (by omega)).mL k1).box (p := p) (f := 1) (a := 476 + E.1 + 1) (l := l0.take r ++ suf) (by
        rw [hlen] at v1
        rw [hln]
        refine ⟨v1.1, by rw [v1.2.1]; rfl, fun j hj => (v1.2.2 j (by omega)).trans (congrArg Value.ref ?_)⟩
        show (if j < r then G.2.1 p ((l0.take r ++ a :: suf).getD j 0) else G.2.1 p ((l0.take r ++ a :: suf).getD (j + 1) 0)) = G.2.1 p ((l0.take r ++ suf).getD j 0)
        by_cases e : j < r
        · rw [if_pos e, getD_app, htl, if_pos e, getD_app, htl, if_pos e]
        · rw [if_neg e, getD_app, htl, if_neg (by omega), getD_app, htl, if_neg e, show j + 1 - r = (j - r) + 1 by omega]
          rfl) tU_n (fun i hi => by
        have hi' : i ∈ bU bl p 1 (l0.take r ++ a :: suf) p 1 := by
          rw [bU_n]
          rcases List.mem_append.mp hi with h | h
          · exact List.mem_append.mpr (Or.inl h)
          · exact List.mem_append.mpr (Or.inr (List.mem_cons_of_mem _ h))
        have := (hP.1 p 1 hp (by omega)).2.2 i hi'
        refine ⟨this.1, k1.I this.2.1, (tU_o (by have := this.2.1.1.2.1; show ¬ G.2.1 p i = _; omega)).trans this.2.2⟩)
      have ebb : bU (bU bl p 1 (l0.take r ++ a :: suf)) p 1 (l0.take r ++ suf) = bU bl p 1 (l0.take r ++ suf) := by
        funext q g
        unfold bU
        by_cases e : q = p ∧ g = 1
        · rw [if_pos e, if_pos e]
        · rw [if_neg e, if_neg e, if_neg e]
      rw [ebb] at hP1
      have nx := ih (by omega) suf (c + 1) _ _ (uc + 1) (us + 25) (by omega) hs26 (by omega) (by omega) hP1 (fun E' G' uc' us' h1 h2 h3 => by
        have := hQ E' G' uc' us' (by
          rw [ef, decide_eq_false hk, if_neg (by decide), List.append_nil]
          exact h1) (by omega) (by omega)
        rw [ef, decide_eq_false hk] at this
        have e1 : c + 1 + ((l0.take r).filter (fun i => !decide (y 0 0 6 - y 29 p i < y 0 0 7))).length = c + ((l0.take r).filter (fun i => !decide (y 0 0 6 - y 29 p i < y 0 0 7)) ++ [a]).length := by
          rw [List.length_append]
          show _ = c + (_ + 1)
          omega
        rw [e1]
        simpa using this)
      rw [p135_51]
      simp (disch := omega) only [p135_0, p135_1, p135_1i, p135_2, p135_5, p135_6, p135_7, p135_8, p135_9, p135_12, p135_15, p135_17, p135_20, p135_22, p135_25, p135_26, p135_27, p135_30, p135_31, p135_32, p135_33, p135_35, p135_36, p135_39, p135_40, p135_43, p135_44, p135_45, p135_46, p135_47, p135_48, p135_49, p135_50, p135_52, p135_55, p135_56, p135_59, p135_60, p135_63, p135_64, p135_65, p135_66, p135_67, p135_68, p135_69, p135_70, p135_71, p135_72, p135_73, p135_76, p135_79, p135_82, p135_83, p135_86, p135_87, p135_88, p135_89, p135_90, p135_93, p135_94, p135_95, p135_96, p135_97, p135_98, p135_101, p135_102, p135_105, p135_108, p135_112, p135_113, p135_114, p135_116, p135_119, p135_120, p135_122, p135_124, p135_125, p135_128, p135_129, p135_130, p135_131, p135_132, p135_133, p135_136, p135_137, p135_138, p135_141, p135_142, p135_145, p135_146, p135_147, p135_148, p135_149, p135_152, p135_153, p135_156, p135_157, p135_158, p135_159, p135_160, p135_162, p135_163, p135_165, p135_167, p135_168, p135_169, p135_170, p135_173, p135_174, p135_177, p135_178, p135_181, p135_183, p135_184, p135_185, p135_186, p135_187, p135_188, p135_189, p135_190, p135_193, p135_194, p135_195, p135_196, p135_197, p135_200, p135_203, p135_204, p135_205, p135_206, p135_208, p135_209, p135_212, p135_215, p135_218, p135_221, p135_224, p135_227, p135_230, p135_233, p135_234, p135_237, p135_238, p135_241, p135_244, p135_245, p135_248, p135_249, p135_252, p135_253, hr0, i1, r1, i4, r4, yD_rd, hk, w1, i8, kD_d, l_dm_ok, l_dm_0, l_dm_1, l_dm_2, l_dm_2p, l_dm_3, l_dm_4, l_dm_4p, l_dm_5, l_dm_6, l_dm_6p, l_dm_7, l_dm_7p, l_dm_8, l_dm_8p, l_dm_9, l_dm_9p, l_dm_10, l_dm_11, l_dm_12, l_dm_13, l_dm_14, l_po_ok, l_po_0, l_po_1, l_po_2, l_po_2p, l_po_3, l_po_3p, l_po_4, l_po_4p, l_po_5, l_po_5p, l_po_6, l_po_6p, l_po_7, l_po_8, l_po_9, l_po_10, l_po_11, l_po_12, l_po_13, l_po_13p, l_po_14, l_po_15, l_po_16, l_po_17, l_po_17p, l_bxa_ar, l_bxa_ln, l_bxa_ia, l_bxa_e, l_lea_ar, l_lea_ln, l_lea_ia, l_lea_e, l_qua_ar, l_qua_ln, l_qua_ia, l_qua_e, l_bo_ar, l_bo_ln, l_bo_ia, l_bo_is, l_bo_e, l_bo_ep, l_fc_ar, l_fc_ln, l_fc_ia, l_fc_is, l_fc_e, l_fc_ep, l_pa_ar, l_pa_ln, l_pa_ia, l_pa_e, l_pa_ep, l_pa_e3, l_aga_ar, l_aga_ln, l_aga_ia, l_aga_e, l_ag_ar, l_ag_ln, l_ag_ia, l_ag_is, l_ag_e, l_ag_ep, l_nxa_ar, l_nxa_ln, l_nxa_ia, l_nxa_e, l_nx_ar, l_nx_ln, l_nx_ia, l_nx_is, l_nx_e, l_nx_ep, l_qt_ar, l_qt_ln, l_qt_ia, l_qt_is, l_qt_e, l_qt_ep, l_bn_ar, l_bn_ln, l_bn_ia, l_bn_is, l_bn_e, l_bn_ep, l_rl_ar, l_rl_ln, l_rl_ia, l_rl_e, l_rl_ep, l_rl_e3, l_bxo_ar, l_bxo_ln, l_bxo_ia, l_bxo_e, l_bxi_ar, l_bxi_ln, l_bxi_ia, l_bxi_e, l_bxi_ep, l_bxi_e3, l_gta_ar, l_gta_ln, l_gta_ia, l_gta_e, l_gt_ar, l_gt_ln, l_gt_ia, l_gt_e, l_gt_ep, zvi_int, zvl_long, zvd_double, zvr_ref, zisI_int, zisR_ref, zgI_int, zgR_ref, zkl_int, zkl_ref, zkl_none, zkl_long, zkl_double, zct_nil, zct_int, zct_ref, zct_long, zct_double, zbk_some, zbk_none, zbk_exc, nI_clamp, nI_add, nI_mul, true_and, and_true, Nat.reduceAdd, Nat.reduceMul, Nat.reduceLeDiff, Nat.reducePow, ↓reduceIte, Nat.zero_add, Nat.add_zero, Nat.reduceLT, Nat.reduceEqDiff, Nat.le_refl, zn10, zn01, zfitB0, zfitB1, znarB0, znarB1, Nat.lt_irrefl, ↓zvi_eq, ↓zvr_eq]
      exact ⟨by omega, nx⟩
end ZB
