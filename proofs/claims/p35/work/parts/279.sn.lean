/-! a message sent: the parts (source: wip/p35/src/279.sn.txt, by expand3.py) -/
theorem cKp_S {S : Nat → Prop} (hS : ∀ c, c ≤ 1 ∨ c = 13 ∨ c = 16 ∨ (24 ≤ c ∧ c ≤ 30) ∨ c = 33 → S c) {y z : zSt} {p m : Nat} {J : zJ} (h : ∀ c, S c → y c = z c) : ∀ c, S c → cKp y p m J c = cKp z p m J c := by
  intro c hc
  have e : ∀ d g c, S c → ∀ y z : zSt, (∀ c, S c → y c = z c) → su y d g c = su z d g c := fun d g c hc y z hh => by
    rw [su_eq, su_eq, hh c hc]
  unfold cKp
  rw [h 13 (hS _ (by omega)), h 25 (hS _ (by omega)), h 33 (hS _ (by omega)), h 24 (hS _ (by omega)), h 1 (hS _ (by omega)), h 30 (hS _ (by omega)), h 27 (hS _ (by omega))]
  have h24 : ∀ c, S c → su y 24 (u2 (z 24) p m (nI 1)) c = su z 24 (u2 (z 24) p m (nI 1)) c := fun c hc => e 24 _ c hc y z h
  split
  · split
    · exact e 1 _ c hc _ _ h24
    · have h27 : ∀ c, S c → su (su y 24 (u2 (z 24) p m (nI 1))) 27 (u2 (z 27) p m J.2.2.1) c = su (su z 24 (u2 (z 24) p m (nI 1))) 27 (u2 (z 27) p m J.2.2.1) c := fun c hc => e 27 _ c hc _ _ h24
      have g := h27
      revert g
      generalize su (su y 24 (u2 (z 24) p m (nI 1))) 27 (u2 (z 27) p m J.2.2.1) = Y
      generalize su (su z 24 (u2 (z 24) p m (nI 1))) 27 (u2 (z 27) p m J.2.2.1) = Z
      intro g
      funext q i
      by_cases c0 : c = 0
      · subst c0; rw [sL_0, sL_0, g 0 (hS _ (by omega))]
      by_cases c16 : c = 16
      · subst c16; rw [sL_16, sL_16, g 16 (hS _ (by omega))]
      by_cases c25 : c = 25
      · subst c25; rw [sL_25, sL_25, g 25 (hS _ (by omega))]
      by_cases c26 : c = 26
      · subst c26; rw [sL_26, sL_26, g 26 (hS _ (by omega)), g 16 (hS _ (by omega))]
      by_cases c28 : c = 28
      · subst c28; rw [sL_28, sL_28, g 28 (hS _ (by omega)), g 0 (hS _ (by omega))]
      by_cases c29 : c = 29
      · subst c29; rw [sL_29, sL_29, g 29 (hS _ (by omega)), g 0 (hS _ (by omega))]
      rw [sL_o (by omega), sL_o (by omega), g c hc]
  · exact h24 c hc
theorem fold_S {S : Nat → Prop} (hS : ∀ c, c ≤ 1 ∨ c = 13 ∨ c = 16 ∨ (24 ≤ c ∧ c ≤ 30) ∨ c = 33 → S c) {J : Nat → zJ} {m : Nat} : ∀ (l : List Nat) (y z : zSt), (∀ c, S c → y c = z c) → ∀ c, S c → (l.foldl (fun Y p => cKp Y p m (J p)) y) c = (l.foldl (fun Y p => cKp Y p m (J p)) z) c
  | [], y, z, h => h
  | p :: l, y, z, h => by
    rw [List.foldl_cons, List.foldl_cons]
    exact fold_S hS l _ _ (cKp_S hS h)
theorem fold_24 {J : Nat → zJ} {m q i : Nat} (hi : ¬ i = m) : ∀ (l : List Nat) (y : zSt), (l.foldl (fun Y p => cKp Y p m (J p)) y) 24 q i = y 24 q i
  | [], y => rfl
  | p :: l, y => by
    rw [List.foldl_cons, fold_24 hi l, cKp_24, if_neg (fun z => hi z.2)]
section ZB
variable {E : zEx} {x y y' : zSt} {G : pG} {bl : Nat → Nat → List Nat} {fc nr : Nat → Nat} {n L p : Nat} {xs : Nat → Int32}
theorem cG_yy {qn t w l b : Nat} (h : cG n qn t w l fc nr b x y) (hy : ∀ c, ¬ c = 2 → ¬ c = 4 → ¬ c = 39 → y' c = y c) : cG n qn t w l fc nr b x y' := by
  obtain ⟨hSc, hBx, hRu, hLe, hQs, hRl⟩ := id h
  refine ⟨hSc, hBx, hRu, hLe, hQs, fun c hc => ?_, fun c i h1 h2 h3 => ?_, fun p r hp hr => ?_⟩
  · have hc' := hc
    unfold iSh at hc'
    rw [hy c (by omega) (by omega) (by omega)]
    exact hRl.1 c hc
  · rw [hy c (by omega) (by omega) (by omega)]
    exact hRl.2.1 c i h1 h2 h3
  · unfold iRr
    rw [hy 18 (by omega) (by omega) (by omega), hy 19 (by omega) (by omega) (by omega), hy 20 (by omega) (by omega) (by omega), hy 21 (by omega) (by omega) (by omega), hy 22 (by omega) (by omega) (by omega)]
    exact hRl.2.2 p r hp hr
/-- one message more -/
theorem PS.sen {a b' : Nat} (hy : ∀ c, ¬ (30 ≤ c ∧ c ≤ 39) → y' c = y c) (hyi : ∀ c i, ¬ i = n → y' c 0 i = y c 0 i) (r : PS E y G bl fc nr n L xs) (ha : vR E a 40 (n + 1) (fun j => if j = n then b' else G.2.2.1 j)) (hw : G.1 a = 0) (hb : vI E b' 7 (rw7 y' n)) (hbw : G.1 b' = 0) (hn : n + 1 ≤ 25) : PS (eR E 4 0 0 a) y' (G.1, G.2.1, fun j => if j = n then b' else G.2.2.1 j, G.2.2.2) bl fc nr (n + 1) L xs := by
  obtain ⟨r1, r2, r3, r4, r5, r6⟩ := r
  refine ⟨fun q g hq hg => ?_, fun q hq' => ?_, fun q hq' => ?_, ?_, ?_, r6⟩
  · rw [eR_o (by omega)]
    exact (pBx.mY (fun c _ _ => hy c (by omega)) r1) q g hq hg
  · rw [eR_o (by omega)]
    exact (pPa.mY (hy 14 (by omega)) r2) q hq'
  · rw [eR_o (by omega)]
    exact (pRu.mY (fun c _ _ => hy c (by omega)) r3) q hq'
  · unfold pSe
    rw [eR_n]
    refine ⟨ha, hw, hn, fun i hi => ?_⟩
    by_cases e : i = n
    · show vI _ (if i = n then b' else G.2.2.1 i) 7 _ ∧ G.1 (if i = n then b' else G.2.2.1 i) = 0
      rw [if_pos e, e]
      exact ⟨hb, hbw⟩
    · show vI _ (if i = n then b' else G.2.2.1 i) 7 _ ∧ G.1 (if i = n then b' else G.2.2.1 i) = 0
      rw [if_neg e]
      obtain ⟨c1, c2⟩ := r4.2.2.2 i (by omega)
      refine ⟨vI.cg c1 (fun j hj => ?_), c2⟩
      unfold rw7
      rw [hyi 30 i e, hyi 39 i e, hyi 31 i e, hyi 32 i e, hyi 33 i e, hyi 35 i e, hyi 34 i e]
  · unfold pLa
    rw [eR_o (by omega)]; exact r5
/-- to whom it is sent -/
theorem b_in {c rq m to d : Nat} {a : Int32} {R : Nat → Int32} {Q : zO → zM → Prop} (hto : to < 16) (hR : R 1 = nI to) (hc0 : G.1 c = 0) (hrq : G.1 rq = 5) : ∀ (k p : Nat) (E : zEx) (g : Nat → Int32), p + k = 4 → PS E y G bl fc nr n L xs → vI E c 7 R → vI E rq 40 g → (∀ j, j < (mIni (nI to) p).length → g j = nI ((mIni (nI to) p).getD j 0)) → (∀ (E' : zEx) (g' : Nat → Int32), PS E' y G bl fc nr n L xs → vI E' c 7 R → vI E' rq 40 g' → (∀ j, j < (mIni (nI to) 4).length → g' j = nI ((mIni (nI to) 4).getD j 0)) → zwp zm_134 (176, [some (.ref 1), some (.int a), some (.ref c), some (.int (nI m)), some (.ref rq), some (.int (nI (mIni (nI to) 4).length)), some (.int (nI 0)), none, none, none, none], [], zmem x (yD y d) E', 3, 73) Q) → zwp zm_134 (137, [some (.ref 1), some (.int a), some (.ref c), some (.int (nI m)), some (.ref rq), some (.int (nI (mIni (nI to) p).length)), some (.int (nI p)), none, none, none, none], [], zmem x (yD y d) E, 3, 73) Q
  | 0, p, E, g, hk, hP, vc, vq, hg, hQ => by
    have ep : p = 4 := by omega
    subst ep
    rw [p134_137]
    simp (disch := omega) only [p134_0, p134_1, p134_4, p134_5, p134_7, p134_10, p134_11, p134_12, p134_13, p134_16, p134_17, p134_20, p134_21, p134_22, p134_25, p134_28, p134_29, p134_30, p134_33, p134_34, p134_37, p134_40, p134_41, p134_42, p134_44, p134_46, p134_46i, p134_47, p134_48, p134_49, p134_50, p134_53, p134_54, p134_54i, p134_55, p134_56, p134_57, p134_59, p134_62, p134_63, p134_63i, p134_64, p134_65, p134_66, p134_67, p134_70, p134_71, p134_71i, p134_72, p134_73, p134_74, p134_77, p134_80, p134_81, p134_81i, p134_82, p134_83, p134_84, p134_85, p134_87, p134_90, p134_91, p134_92, p134_92i, p134_93, p134_94, p134_95, p134_98, p134_99, p134_99i, p134_100, p134_102, p134_103, p134_104, p134_105, p134_106, p134_107, p134_110, p134_111, p134_114, p134_117, p134_118, p134_121, p134_122, p134_123, p134_124, p134_125, p134_127, p134_129, p134_131, p134_132, p134_134, p134_135, p134_139, p134_140, p134_143, p134_144, p134_145, p134_146, p134_147, p134_149, p134_150, p134_151, p134_152, p134_153, p134_154, p134_157, p134_159, p134_161, p134_164, p134_166, p134_167, p134_170, p134_173, p134_174, p134_178, p134_180, p134_183, p134_184, p134_185, p134_187, p134_190, p134_191, p134_193, p134_195, p134_196, p134_197, p134_200, p134_201, p134_204, p134_206, p134_208, p134_209, p134_211, p134_212, p134_214, p134_216, p134_218, p134_221, p134_223, p134_225, p134_226, p134_228, p134_230, p134_232, p134_235, p134_237, p134_238, p134_241, p134_244, p134_247, p134_250, p134_251, p134_254, p134_255, p134_256, p134_257, p134_258, p134_259, p134_260, p134_261, p134_262, p134_263, p134_264, p134_265, p134_266, p134_267, p134_268, p134_269, p134_270, p134_273, p134_274, p134_277, p134_278, p134_281, p134_282, nI_ltI, Nat.lt_irrefl, l_dm_ok, l_dm_0, l_dm_1, l_dm_2, l_dm_2p, l_dm_3, l_dm_4, l_dm_4p, l_dm_5, l_dm_6, l_dm_6p, l_dm_7, l_dm_7p, l_dm_8, l_dm_8p, l_dm_9, l_dm_9p, l_dm_10, l_dm_11, l_dm_12, l_dm_13, l_dm_14, l_po_ok, l_po_0, l_po_1, l_po_2, l_po_2p, l_po_3, l_po_3p, l_po_4, l_po_4p, l_po_5, l_po_5p, l_po_6, l_po_6p, l_po_7, l_po_8, l_po_9, l_po_10, l_po_11, l_po_12, l_po_13, l_po_13p, l_po_14, l_po_15, l_po_16, l_po_17, l_po_17p, l_bxa_ar, l_bxa_ln, l_bxa_ia, l_bxa_e, l_lea_ar, l_lea_ln, l_lea_ia, l_lea_e, l_qua_ar, l_qua_ln, l_qua_ia, l_qua_e, l_bo_ar, l_bo_ln, l_bo_ia, l_bo_is, l_bo_e, l_bo_ep, l_fc_ar, l_fc_ln, l_fc_ia, l_fc_is, l_fc_e, l_fc_ep, l_pa_ar, l_pa_ln, l_pa_ia, l_pa_e, l_pa_ep, l_pa_e3, l_aga_ar, l_aga_ln, l_aga_ia, l_aga_e, l_ag_ar, l_ag_ln, l_ag_ia, l_ag_is, l_ag_e, l_ag_ep, l_nxa_ar, l_nxa_ln, l_nxa_ia, l_nxa_e, l_nx_ar, l_nx_ln, l_nx_ia, l_nx_is, l_nx_e, l_nx_ep, l_qt_ar, l_qt_ln, l_qt_ia, l_qt_is, l_qt_e, l_qt_ep, l_bn_ar, l_bn_ln, l_bn_ia, l_bn_is, l_bn_e, l_bn_ep, l_rl_ar, l_rl_ln, l_rl_ia, l_rl_e, l_rl_ep, l_rl_e3, l_bxo_ar, l_bxo_ln, l_bxo_ia, l_bxo_e, l_bxi_ar, l_bxi_ln, l_bxi_ia, l_bxi_e, l_bxi_ep, l_bxi_e3, l_gta_ar, l_gta_ln, l_gta_ia, l_gta_e, l_gt_ar, l_gt_ln, l_gt_ia, l_gt_e, l_gt_ep, zvi_int, zvl_long, zvd_double, zvr_ref, zisI_int, zisR_ref, zgI_int, zgR_ref, zkl_int, zkl_ref, zkl_none, zkl_long, zkl_double, zct_nil, zct_int, zct_ref, zct_long, zct_double, zbk_some, zbk_none, zbk_exc, nI_clamp, nI_add, nI_mul, true_and, and_true, Nat.reduceAdd, Nat.reduceMul, Nat.reduceLeDiff, Nat.reducePow, ↓reduceIte, Nat.zero_add, Nat.add_zero, Nat.reduceLT, Nat.reduceEqDiff, Nat.le_refl, zn10, zn01, zfitB0, zfitB1, znarB0, znarB1, Nat.lt_irrefl, ↓zvi_eq, ↓zvr_eq]
    exact hQ E g hP vc vq hg
  | k + 1, p, E, g, hk, hP, vc, vq, hg, hQ => by
    have hp4 : p < 4 := by omega
    obtain ⟨-, -, hm3, hm4⟩ := mIni_ok (nI to) p
    have i1 := fun x y => vc.is (x := x) (y := y) (j := 1) (by omega)
    have r1 : ∀ X Y, zrd (zmem X Y E) c 1 = .int (nI to) := fun X Y => (vc.rd (x := X) (y := Y) (j := 1) (by omega)).trans (congrArg Value.int hR)
    obtain ⟨q1, q2⟩ := bit_ok (w := to) (z := p) (by omega) (by omega)
    have n2 : (nI 2 = 0) = False := eq_false (by decide)
    have e2 : mIni (nI to) (p + 1) = if zbit (nI to) (nI p) = true then mIni (nI to) p ++ [p] else mIni (nI to) p := rfl
    by_cases hz : zbit (nI to) (nI p) = true
    · rw [if_pos hz] at e2
      obtain ⟨e, he⟩ : ∃ e, e = (mIni (nI to) p).length := ⟨_, rfl⟩
      have el : (mIni (nI to) (p + 1)).length = e + 1 := by rw [e2, List.length_append, he]; rfl
      have hrq0 : ¬ rq = 0 := by have := vq.1.1; omega
      have hne : ¬ c = rq := tg_ne (G := G) (by omega)
      have ia := fun x y => vq.ia (x := x) (y := y) (j := e) (by omega)
      have pt := fun x y => zmem_py2 (x := x) (y := y) (j := e) (v := .int (nI p)) vq.1
      have nx := b_in (a := a) (m := m) (d := d) (Q := Q) hto hR hc0 hrq k (p + 1) (eP E rq e (.int (nI p))) _ (by omega) (hP.oth hrq hrq0) (vc.put hne) (vI.puti vq) (fun j hj => by
        rw [el] at hj
        rw [e2, getD_app]
        by_cases e3 : j = e
        · rw [if_pos e3, if_neg (by omega), e3, ← he, Nat.sub_self]
          rfl
        · rw [if_neg e3, if_pos (by omega)]
          exact hg j (by omega)) hQ
      rw [el] at nx
      rw [← he, p134_137]
      simp (disch := omega) only [p134_0, p134_1, p134_4, p134_5, p134_7, p134_10, p134_11, p134_12, p134_13, p134_16, p134_17, p134_20, p134_21, p134_22, p134_25, p134_28, p134_29, p134_30, p134_33, p134_34, p134_37, p134_40, p134_41, p134_42, p134_44, p134_46, p134_46i, p134_47, p134_48, p134_49, p134_50, p134_53, p134_54, p134_54i, p134_55, p134_56, p134_57, p134_59, p134_62, p134_63, p134_63i, p134_64, p134_65, p134_66, p134_67, p134_70, p134_71, p134_71i, p134_72, p134_73, p134_74, p134_77, p134_80, p134_81, p134_81i, p134_82, p134_83, p134_84, p134_85, p134_87, p134_90, p134_91, p134_92, p134_92i, p134_93, p134_94, p134_95, p134_98, p134_99, p134_99i, p134_100, p134_102, p134_103, p134_104, p134_105, p134_106, p134_107, p134_110, p134_111, p134_114, p134_117, p134_118, p134_121, p134_122, p134_123, p134_124, p134_125, p134_127, p134_129, p134_131, p134_132, p134_134, p134_135, p134_139, p134_140, p134_143, p134_144, p134_145, p134_146, p134_147, p134_149, p134_150, p134_151, p134_152, p134_153, p134_154, p134_157, p134_159, p134_161, p134_164, p134_166, p134_167, p134_170, p134_173, p134_174, p134_178, p134_180, p134_183, p134_184, p134_185, p134_187, p134_190, p134_191, p134_193, p134_195, p134_196, p134_197, p134_200, p134_201, p134_204, p134_206, p134_208, p134_209, p134_211, p134_212, p134_214, p134_216, p134_218, p134_221, p134_223, p134_225, p134_226, p134_228, p134_230, p134_232, p134_235, p134_237, p134_238, p134_241, p134_244, p134_247, p134_250, p134_251, p134_254, p134_255, p134_256, p134_257, p134_258, p134_259, p134_260, p134_261, p134_262, p134_263, p134_264, p134_265, p134_266, p134_267, p134_268, p134_269, p134_270, p134_273, p134_274, p134_277, p134_278, p134_281, p134_282, nI_ltI, hp4, i1, r1, q1, q2, n2, hz, ia, pt, not_false_eq_true, l_dm_ok, l_dm_0, l_dm_1, l_dm_2, l_dm_2p, l_dm_3, l_dm_4, l_dm_4p, l_dm_5, l_dm_6, l_dm_6p, l_dm_7, l_dm_7p, l_dm_8, l_dm_8p, l_dm_9, l_dm_9p, l_dm_10, l_dm_11, l_dm_12, l_dm_13, l_dm_14, l_po_ok, l_po_0, l_po_1, l_po_2, l_po_2p, l_po_3, l_po_3p, l_po_4, l_po_4p, l_po_5, l_po_5p, l_po_6, l_po_6p, l_po_7, l_po_8, l_po_9, l_po_10, l_po_11, l_po_12, l_po_13, l_po_13p, l_po_14, l_po_15, l_po_16, l_po_17, l_po_17p, l_bxa_ar, l_bxa_ln, l_bxa_ia, l_bxa_e, l_lea_ar, l_lea_ln, l_lea_ia, l_lea_e, l_qua_ar, l_qua_ln, l_qua_ia, l_qua_e, l_bo_ar, l_bo_ln, l_bo_ia, l_bo_is, l_bo_e, l_bo_ep, l_fc_ar, l_fc_ln, l_fc_ia, l_fc_is, l_fc_e, l_fc_ep, l_pa_ar, l_pa_ln, l_pa_ia, l_pa_e, l_pa_ep, l_pa_e3, l_aga_ar, l_aga_ln, l_aga_ia, l_aga_e, l_ag_ar, l_ag_ln, l_ag_ia, l_ag_is, l_ag_e, l_ag_ep, l_nxa_ar, l_nxa_ln, l_nxa_ia, l_nxa_e, l_nx_ar, l_nx_ln, l_nx_ia, l_nx_is, l_nx_e, l_nx_ep, l_qt_ar, l_qt_ln, l_qt_ia, l_qt_is, l_qt_e, l_qt_ep, l_bn_ar, l_bn_ln, l_bn_ia, l_bn_is, l_bn_e, l_bn_ep, l_rl_ar, l_rl_ln, l_rl_ia, l_rl_e, l_rl_ep, l_rl_e3, l_bxo_ar, l_bxo_ln, l_bxo_ia, l_bxo_e, l_bxi_ar, l_bxi_ln, l_bxi_ia, l_bxi_e, l_bxi_ep, l_bxi_e3, l_gta_ar, l_gta_ln, l_gta_ia, l_gta_e, l_gt_ar, l_gt_ln, l_gt_ia, l_gt_e, l_gt_ep, zvi_int, zvl_long, zvd_double, zvr_ref, zisI_int, zisR_ref, zgI_int, zgR_ref, zkl_int, zkl_ref, zkl_none, zkl_long, zkl_double, zct_nil, zct_int, zct_ref, zct_long, zct_double, zbk_some, zbk_none, zbk_exc, nI_clamp, nI_add, nI_mul, true_and, and_true, Nat.reduceAdd, Nat.reduceMul, Nat.reduceLeDiff, Nat.reducePow, ↓reduceIte, Nat.zero_add, Nat.add_zero, Nat.reduceLT, Nat.reduceEqDiff, Nat.le_refl, zn10, zn01, zfitB0, zfitB1, znarB0, znarB1, Nat.lt_irrefl, ↓zvi_eq, ↓zvr_eq]
      exact nx
    · rw [if_neg hz] at e2
      have nx := b_in (a := a) (m := m) (d := d) (Q := Q) hto hR hc0 hrq k (p + 1) E g (by omega) hP vc vq (by rw [e2]; exact hg) hQ
      rw [e2] at nx
      rw [p134_137]
      simp (disch := omega) only [p134_0, p134_1, p134_4, p134_5, p134_7, p134_10, p134_11, p134_12, p134_13, p134_16, p134_17, p134_20, p134_21, p134_22, p134_25, p134_28, p134_29, p134_30, p134_33, p134_34, p134_37, p134_40, p134_41, p134_42, p134_44, p134_46, p134_46i, p134_47, p134_48, p134_49, p134_50, p134_53, p134_54, p134_54i, p134_55, p134_56, p134_57, p134_59, p134_62, p134_63, p134_63i, p134_64, p134_65, p134_66, p134_67, p134_70, p134_71, p134_71i, p134_72, p134_73, p134_74, p134_77, p134_80, p134_81, p134_81i, p134_82, p134_83, p134_84, p134_85, p134_87, p134_90, p134_91, p134_92, p134_92i, p134_93, p134_94, p134_95, p134_98, p134_99, p134_99i, p134_100, p134_102, p134_103, p134_104, p134_105, p134_106, p134_107, p134_110, p134_111, p134_114, p134_117, p134_118, p134_121, p134_122, p134_123, p134_124, p134_125, p134_127, p134_129, p134_131, p134_132, p134_134, p134_135, p134_139, p134_140, p134_143, p134_144, p134_145, p134_146, p134_147, p134_149, p134_150, p134_151, p134_152, p134_153, p134_154, p134_157, p134_159, p134_161, p134_164, p134_166, p134_167, p134_170, p134_173, p134_174, p134_178, p134_180, p134_183, p134_184, p134_185, p134_187, p134_190, p134_191, p134_193, p134_195, p134_196, p134_197, p134_200, p134_201, p134_204, p134_206, p134_208, p134_209, p134_211, p134_212, p134_214, p134_216, p134_218, p134_221, p134_223, p134_225, p134_226, p134_228, p134_230, p134_232, p134_235, p134_237, p134_238, p134_241, p134_244, p134_247, p134_250, p134_251, p134_254, p134_255, p134_256, p134_257, p134_258, p134_259, p134_260, p134_261, p134_262, p134_263, p134_264, p134_265, p134_266, p134_267, p134_268, p134_269, p134_270, p134_273, p134_274, p134_277, p134_278, p134_281, p134_282, nI_ltI, hp4, i1, r1, q1, q2, n2, hz, not_false_eq_true, l_dm_ok, l_dm_0, l_dm_1, l_dm_2, l_dm_2p, l_dm_3, l_dm_4, l_dm_4p, l_dm_5, l_dm_6, l_dm_6p, l_dm_7, l_dm_7p, l_dm_8, l_dm_8p, l_dm_9, l_dm_9p, l_dm_10, l_dm_11, l_dm_12, l_dm_13, l_dm_14, l_po_ok, l_po_0, l_po_1, l_po_2, l_po_2p, l_po_3, l_po_3p, l_po_4, l_po_4p, l_po_5, l_po_5p, l_po_6, l_po_6p, l_po_7, l_po_8, l_po_9, l_po_10, l_po_11, l_po_12, l_po_13, l_po_13p, l_po_14, l_po_15, l_po_16, l_po_17, l_po_17p, l_bxa_ar, l_bxa_ln, l_bxa_ia, l_bxa_e, l_lea_ar, l_lea_ln, l_lea_ia, l_lea_e, l_qua_ar, l_qua_ln, l_qua_ia, l_qua_e, l_bo_ar, l_bo_ln, l_bo_ia, l_bo_is, l_bo_e, l_bo_ep, l_fc_ar, l_fc_ln, l_fc_ia, l_fc_is, l_fc_e, l_fc_ep, l_pa_ar, l_pa_ln, l_pa_ia, l_pa_e, l_pa_ep, l_pa_e3, l_aga_ar, l_aga_ln, l_aga_ia, l_aga_e, l_ag_ar, l_ag_ln, l_ag_ia, l_ag_is, l_ag_e, l_ag_ep, l_nxa_ar, l_nxa_ln, l_nxa_ia, l_nxa_e, l_nx_ar, l_nx_ln, l_nx_ia, l_nx_is, l_nx_e, l_nx_ep, l_qt_ar, l_qt_ln, l_qt_ia, l_qt_is, l_qt_e, l_qt_ep, l_bn_ar, l_bn_ln, l_bn_ia, l_bn_is, l_bn_e, l_bn_ep, l_rl_ar, l_rl_ln, l_rl_ia, l_rl_e, l_rl_ep, l_rl_e3, l_bxo_ar, l_bxo_ln, l_bxo_ia, l_bxo_e, l_bxi_ar, l_bxi_ln, l_bxi_ia, l_bxi_e, l_bxi_ep, l_bxi_e3, l_gta_ar, l_gta_ln, l_gta_ia, l_gta_e, l_gt_ar, l_gt_ln, l_gt_ia, l_gt_e, l_gt_ep, zvi_int, zvl_long, zvd_double, zvr_ref, zisI_int, zisR_ref, zgI_int, zgR_ref, zkl_int, zkl_ref, zkl_none, zkl_long, zkl_double, zct_nil, zct_int, zct_ref, zct_long, zct_double, zbk_some, zbk_none, zbk_exc, nI_clamp, nI_add, nI_mul, true_and, and_true, Nat.reduceAdd, Nat.reduceMul, Nat.reduceLeDiff, Nat.reducePow, ↓reduceIte, Nat.zero_add, Nat.add_zero, Nat.reduceLT, Nat.reduceEqDiff, Nat.le_refl, zn10, zn01, zfitB0, zfitB1, znarB0, znarB1, Nat.lt_irrefl, ↓zvi_eq, ↓zvr_eq]
      exact nx
end ZB
