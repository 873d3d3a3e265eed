/-! the row walked, all of it (source: wip/p35/src/278.qw.txt, by expand3.py) -/
theorem cKp_002 {y : zSt} {p m : Nat} {J : zJ} : cKp y p m J 0 0 2 = y 0 0 2 := by
  unfold cKp
  split
  · split
    · rfl
    · rw [sL_0, if_neg (by omega)]; rfl
  · rfl
section ZB
variable {x : zSt} {fc nr : Nat → Nat} {n L : Nat} {xs : Nat → Int32}
theorem q_lp {c rq m a30 qn t w l b B d : Nat} {a : Int32} {R : Nat → Int32} {J : Nat → zJ} {y0 : zSt} {Q : zO → zM → Prop} (hm : m + 1 = n) (hn : n < 26) (hb : b < 1000000) (hB1 : B < 100000) (h8 : ∀ p, p < 4 → fc p ≤ 8) (hJ : ∀ p, p < 4 → jOK (fc p) (J p)) (hJ6 : ∀ p, p < 4 → (J p).2.2.2.length ≤ 6) (eJ : ∀ p, p < 4 → J p = yJ y0 m nr p) (hpx : (∀ p r, p < 4 → r < nr p → (∃ k, k < 5 ∧ y0 18 p r = nI k) ∧ (y0 18 p r = nI 2 → ∃ a, a < 8 ∧ y0 19 p r = nI a)) ∧ (∀ i, i < n → ∃ w, w < 256 ∧ y0 32 0 i = nI w)) (h21 : ∀ p r, p < 4 → r < nr p → ∃ k, k < 5 ∧ y0 21 p r = nI k) (h34 : y0 34 0 m = -1 ∨ ∃ k, k < 100 ∧ y0 34 0 m = nI k) (ha : a30 < 10) (h30 : y0 30 0 m = nI a30) : ∀ (K : Nat) (q V : List Nat) (i e : Nat) (y : zSt) (E : zEx) (G : pG) (bl : Nat → Nat → List Nat) (X : zSt) (g : Nat → Int32), q.length + 7 * (4 - V.length) < K → V.Nodup → (∀ p, p ∈ V → p < 4) → (∀ p, p ∈ q → p < 4) → i + q.length = e → e + 6 * (4 - V.length) ≤ 28 → y = V.foldl (fun Y p => cKp Y p m (J p)) y0 → (∀ c, ¬ (c = 0 ∨ c = 1 ∨ c = 16 ∨ (24 ≤ c ∧ c ≤ 29)) → y c = y0 c) → y 0 0 2 = y0 0 0 2 → (∀ p, p < 4 → y 24 p m = if p ∈ V then nI 1 else nI 0) → (∀ p, p < 4 → ¬ p ∈ V → y 25 p m = -1) → PS E y G bl fc nr n L xs → BL bl n y → vI E rq 40 g → (∀ j, j < q.length → g (i + j) = nI (q.getD j 0)) → G.1 rq = 5 → vI E c 7 R → G.1 c = 0 → cG (m + 1) qn t w l fc nr (b + V.length) X (mBu m y) → iXb y (B + 2 * V.length) →
    (∀ (VF : List Nat) (yF : zSt) (E' : zEx) (G' : pG) (bl' : Nat → Nat → List Nat) (X' : zSt) (e' : Nat) (v7 v8 v9 v10 : Option Value) (uc us : Nat), VF = rQu (fun p => (J p).2.2.2.map (fun v => v.toNatClampNeg)) K q V → yF = VF.foldl (fun Y p => cKp Y p m (J p)) y0 → VF.length ≤ 4 → vI E' c 7 R → PS E' yF G' bl' fc nr n L xs → BL bl' n yF → cG (m + 1) qn t w l fc nr (b + VF.length) X' (mBu m yF) → iXb yF (B + 2 * VF.length) → (∀ c, ¬ (c = 0 ∨ c = 1 ∨ c = 16 ∨ (24 ≤ c ∧ c ≤ 29)) → yF c = y0 c) → (∀ p i, p < 4 → ¬ i = m → yF 24 p i = yF 24 p i) → uc ≤ 367 → us ≤ 1921 → zwp zm_134 (250, [some (.ref 1), some (.int a), some (.ref c), some (.int (nI m)), some (.ref rq), some (.int (nI e')), some (.int (nI e')), v7, v8, v9, v10], [], zmem x (yD yF d) E', uc, us) Q) →
    ∀ (v7 v8 v9 v10 : Option Value), zkl v7 = v7 → zkl v8 = v8 → zkl v9 = v9 → zkl v10 = v10 → zwp zm_134 (176, [some (.ref 1), some (.int a), some (.ref c), some (.int (nI m)), some (.ref rq), some (.int (nI e)), some (.int (nI i)), v7, v8, v9, v10], [], zmem x (yD y d) E, 3 + 13 * i, 73 + 66 * i) Q := by
  intro K
  induction K with
  | zero =>
    intro q V i e y E G bl X g hK
    exact absurd hK (Nat.not_lt_zero _)
  | succ K ih =>
    intro q V i e y E G bl X g hK hVd hV4 hq4 hie he hy hyc hy2 hy24 hy25 hP hB vq hgq hrq vc hc0 hG hX hQ v7 v8 v9 v10 h7 h8' h9 h10
    have hVl := tpig 4 V hVd hV4
    cases q with
    | nil =>
      have ei : i = e := by have : ([] : List Nat).length = 0 := rfl; omega
      subst ei
      rw [p134_176]
      simp (disch := omega) only [p134_0, p134_1, p134_4, p134_5, p134_7, p134_10, p134_11, p134_12, p134_13, p134_16, p134_17, p134_20, p134_21, p134_22, p134_25, p134_28, p134_29, p134_30, p134_33, p134_34, p134_37, p134_40, p134_41, p134_42, p134_44, p134_46, p134_46i, p134_47, p134_48, p134_49, p134_50, p134_53, p134_54, p134_54i, p134_55, p134_56, p134_57, p134_59, p134_62, p134_63, p134_63i, p134_64, p134_65, p134_66, p134_67, p134_70, p134_71, p134_71i, p134_72, p134_73, p134_74, p134_77, p134_80, p134_81, p134_81i, p134_82, p134_83, p134_84, p134_85, p134_87, p134_90, p134_91, p134_92, p134_92i, p134_93, p134_94, p134_95, p134_98, p134_99, p134_99i, p134_100, p134_102, p134_103, p134_104, p134_105, p134_106, p134_107, p134_110, p134_111, p134_114, p134_117, p134_118, p134_121, p134_122, p134_123, p134_124, p134_125, p134_127, p134_129, p134_131, p134_132, p134_134, p134_135, p134_137, p134_139, p134_140, p134_143, p134_144, p134_145, p134_146, p134_147, p134_149, p134_150, p134_151, p134_152, p134_153, p134_154, p134_157, p134_159, p134_161, p134_164, p134_166, p134_167, p134_170, p134_173, p134_174, p134_178, p134_180, p134_183, p134_184, p134_185, p134_187, p134_190, p134_191, p134_193, p134_195, p134_196, p134_197, p134_200, p134_201, p134_204, p134_206, p134_208, p134_209, p134_211, p134_212, p134_214, p134_216, p134_218, p134_221, p134_223, p134_225, p134_226, p134_228, p134_230, p134_232, p134_235, p134_237, p134_238, p134_241, p134_244, p134_247, p134_251, p134_254, p134_255, p134_256, p134_257, p134_258, p134_259, p134_260, p134_261, p134_262, p134_263, p134_264, p134_265, p134_266, p134_267, p134_268, p134_269, p134_270, p134_273, p134_274, p134_277, p134_278, p134_281, p134_282, nI_ltI, Nat.lt_irrefl, l_dm_ok, l_dm_0, l_dm_1, l_dm_2, l_dm_2p, l_dm_3, l_dm_4, l_dm_4p, l_dm_5, l_dm_6, l_dm_6p, l_dm_7, l_dm_7p, l_dm_8, l_dm_8p, l_dm_9, l_dm_9p, l_dm_10, l_dm_11, l_dm_12, l_dm_13, l_dm_14, l_po_ok, l_po_0, l_po_1, l_po_2, l_po_2p, l_po_3, l_po_3p, l_po_4, l_po_4p, l_po_5, l_po_5p, l_po_6, l_po_6p, l_po_7, l_po_8, l_po_9, l_po_10, l_po_11, l_po_12, l_po_13, l_po_13p, l_po_14, l_po_15, l_po_16, l_po_17, l_po_17p, l_bxa_ar, l_bxa_ln, l_bxa_ia, l_bxa_e, l_lea_ar, l_lea_ln, l_lea_ia, l_lea_e, l_qua_ar, l_qua_ln, l_qua_ia, l_qua_e, l_bo_ar, l_bo_ln, l_bo_ia, l_bo_is, l_bo_e, l_bo_ep, l_fc_ar, l_fc_ln, l_fc_ia, l_fc_is, l_fc_e, l_fc_ep, l_pa_ar, l_pa_ln, l_pa_ia, l_pa_e, l_pa_ep, l_pa_e3, l_aga_ar, l_aga_ln, l_aga_ia, l_aga_e, l_ag_ar, l_ag_ln, l_ag_ia, l_ag_is, l_ag_e, l_ag_ep, l_nxa_ar, l_nxa_ln, l_nxa_ia, l_nxa_e, l_nx_ar, l_nx_ln, l_nx_ia, l_nx_is, l_nx_e, l_nx_ep, l_qt_ar, l_qt_ln, l_qt_ia, l_qt_is, l_qt_e, l_qt_ep, l_bn_ar, l_bn_ln, l_bn_ia, l_bn_is, l_bn_e, l_bn_ep, l_rl_ar, l_rl_ln, l_rl_ia, l_rl_e, l_rl_ep, l_rl_e3, l_bxo_ar, l_bxo_ln, l_bxo_ia, l_bxo_e, l_bxi_ar, l_bxi_ln, l_bxi_ia, l_bxi_e, l_bxi_ep, l_bxi_e3, l_gta_ar, l_gta_ln, l_gta_ia, l_gta_e, l_gt_ar, l_gt_ln, l_gt_ia, l_gt_e, l_gt_ep, zvi_int, zvl_long, zvd_double, zvr_ref, zisI_int, zisR_ref, zgI_int, zgR_ref, zkl_int, zkl_ref, zkl_none, zkl_long, zkl_double, zct_nil, zct_int, zct_ref, zct_long, zct_double, zbk_some, zbk_none, zbk_exc, nI_clamp, nI_add, nI_mul, true_and, and_true, Nat.reduceAdd, Nat.reduceMul, Nat.reduceLeDiff, Nat.reducePow, ↓reduceIte, Nat.zero_add, Nat.add_zero, Nat.reduceLT, Nat.reduceEqDiff, Nat.le_refl, zn10, zn01, zfitB0, zfitB1, znarB0, znarB1, Nat.lt_irrefl, ↓zvi_eq, ↓zvr_eq]
      exact hQ V y E G bl X i v7 v8 v9 v10 _ _ rfl hy hVl vc hP hB hG hX hyc (fun _ _ _ _ => rfl) (by omega) (by omega)
    | cons p q =>
      have hlc : (p :: q).length = q.length + 1 := rfl
      have hp : p < 4 := hq4 p (List.mem_cons.mpr (Or.inl rfl))
      have hie' : i < e := by omega
      have hrqY := vq.1
      obtain ⟨E1, k1, n1, v1, w1⟩ := nwI E 0
      have hP1 := ((hP.mW (a := 476 + E.1 + 1) (v := 0) (by omega)).mL k1).lat v1 (by omega) tU_n
      have hrq1 : tU G.1 (476 + E.1 + 1) 0 rq = 5 := (tU_o (by have := hrqY.2.1; omega)).trans hrq
      have vc1 := (k1.I vc).refs (c := 5) (p := 0) (i := 0) (v := 476 + E.1 + 1)
      have hc1 : tU G.1 (476 + E.1 + 1) 0 c = 0 := (tU_o (by have := vc.1.2.1; omega)).trans hc0
      have vq1 := (k1.I vq).refs (c := 5) (p := 0) (i := 0) (v := 476 + E.1 + 1)
      have qs := fun x y => vq1.is (x := x) (y := y) (j := i) (by omega)
      have qd : ∀ X Y, zrd (zmem X Y (eR E1 5 0 0 (476 + E.1 + 1))) rq i = .int (nI p) := fun X Y => (vq1.rd (x := X) (y := Y) (j := i) (by omega)).trans (congrArg Value.int (hgq 0 (by omega)))
      have p0 : (0 : Int32) ≤ nI 0 := by decide
      have h0 : (0 : Nat) < 100 := by omega
      by_cases hpV : p ∈ V
      · have e24 := hy24 p hp
        rw [if_pos hpV] at e24
        have hc := fun (x : zSt) (d : Nat) (Q : zO → zM → Prop) => c133_got (E := eR E1 5 0 0 (476 + E.1 + 1)) (m := m) hp (by omega) e24 x d Q
        have v1' := v1.refs (c := 5) (p := 0) (i := 0) (v := 476 + E.1 + 1)
        have har := fun x y => v1'.ar (x := x) (y := y)
        have hln := fun x y => v1'.ln (x := x) (y := y)
        have er : rQu (fun p => (J p).2.2.2.map (fun v => v.toNatClampNeg)) (K + 1) (p :: q) V = rQu (fun p => (J p).2.2.2.map (fun v => v.toNatClampNeg)) K q V := by
          show (if p ∈ V then _ else _) = _
          rw [if_pos hpV]
        rw [er] at hQ
        have nx := ih q V (i + 1) e y _ _ bl X g (by omega) hVd hV4 (fun k hk => hq4 k (List.mem_cons_of_mem _ hk)) (by omega) he hy hyc hy2 hy24 hy25 hP1 hB vq1 (fun j hj => by rw [show i + 1 + j = i + (j + 1) by omega]; exact hgq (j + 1) (by omega)) hrq1 vc1 hc1 hG hX hQ (some (.ref (476 + E.1 + 1))) (some (.int (nI 0))) (some (.int (nI 0))) v10 rfl rfl rfl h10
        rw [p134_176]
        simp (disch := omega) only [p134_0, p134_1, p134_4, p134_5, p134_7, p134_10, p134_11, p134_12, p134_13, p134_16, p134_17, p134_20, p134_21, p134_22, p134_25, p134_28, p134_29, p134_30, p134_33, p134_34, p134_37, p134_40, p134_41, p134_42, p134_44, p134_46, p134_46i, p134_47, p134_48, p134_49, p134_50, p134_53, p134_54, p134_54i, p134_55, p134_56, p134_57, p134_59, p134_62, p134_63, p134_63i, p134_64, p134_65, p134_66, p134_67, p134_70, p134_71, p134_71i, p134_72, p134_73, p134_74, p134_77, p134_80, p134_81, p134_81i, p134_82, p134_83, p134_84, p134_85, p134_87, p134_90, p134_91, p134_92, p134_92i, p134_93, p134_94, p134_95, p134_98, p134_99, p134_99i, p134_100, p134_102, p134_103, p134_104, p134_105, p134_106, p134_107, p134_110, p134_111, p134_114, p134_117, p134_118, p134_121, p134_122, p134_123, p134_124, p134_125, p134_127, p134_129, p134_131, p134_132, p134_134, p134_135, p134_137, p134_139, p134_140, p134_143, p134_144, p134_145, p134_146, p134_147, p134_149, p134_150, p134_151, p134_152, p134_153, p134_154, p134_157, p134_159, p134_161, p134_164, p134_166, p134_167, p134_170, p134_173, p134_174, p134_178, p134_180, p134_183, p134_184, p134_185, p134_187, p134_190, p134_191, p134_193, p134_195, p134_196, p134_197, p134_200, p134_201, p134_204, p134_206, p134_208, p134_209, p134_211, p134_212, p134_214, p134_216, p134_218, p134_221, p134_223, p134_225, p134_226, p134_228, p134_230, p134_232, p134_235, p134_237, p134_238, p134_241, p134_244, p134_247, p134_251, p134_254, p134_255, p134_256, p134_257, p134_258, p134_259, p134_260, p134_261, p134_262, p134_263, p134_264, p134_265, p134_266, p134_267, p134_268, p134_269, p134_270, p134_273, p134_274, p134_277, p134_278, p134_281, p134_282, nI_ltI, hie', w1, zmem_c, p0, qs, qd, hc, eR_n, har, hln, Nat.lt_irrefl, h7, h8', h9, h10, l_dm_ok, l_dm_0, l_dm_1, l_dm_2, l_dm_2p, l_dm_3, l_dm_4, l_dm_4p, l_dm_5, l_dm_6, l_dm_6p, l_dm_7, l_dm_7p, l_dm_8, l_dm_8p, l_dm_9, l_dm_9p, l_dm_10, l_dm_11, l_dm_12, l_dm_13, l_dm_14, l_po_ok, l_po_0, l_po_1, l_po_2, l_po_2p, l_po_3, l_po_3p, l_po_4, l_po_4p, l_po_5, l_po_5p, l_po_6, l_po_6p, l_po_7, l_po_8, l_po_9, l_po_10, l_po_11, l_po_12, l_po_13, l_po_13p, l_po_14, l_po_15, l_po_16, l_po_17, l_po_17p, l_bxa_ar, l_bxa_ln, l_bxa_ia, l_bxa_e, l_lea_ar, l_lea_ln, l_lea_ia, l_lea_e, l_qua_ar, l_qua_ln, l_qua_ia, l_qua_e, l_bo_ar, l_bo_ln, l_bo_ia, l_bo_is, l_bo_e, l_bo_ep, l_fc_ar, l_fc_ln, l_fc_ia, l_fc_is, l_fc_e, l_fc_ep, l_pa_ar, l_pa_ln, l_pa_ia, l_pa_e, l_pa_ep, l_pa_e3, l_aga_ar, l_aga_ln, l_aga_ia, l_aga_e, l_ag_ar, l_ag_ln, l_ag_ia, l_ag_is, l_ag_e, l_ag_ep, l_nxa_ar, l_nxa_ln, l_nxa_ia, l_nxa_e, l_nx_ar, l_nx_ln, l_nx_ia, l_nx_is, l_nx_e, l_nx_ep, l_qt_ar, l_qt_ln, l_qt_ia, l_qt_is, l_qt_e, l_qt_ep, l_bn_ar, l_bn_ln, l_bn_ia, l_bn_is, l_bn_e, l_bn_ep, l_rl_ar, l_rl_ln, l_rl_ia, l_rl_e, l_rl_ep, l_rl_e3, l_bxo_ar, l_bxo_ln, l_bxo_ia, l_bxo_e, l_bxi_ar, l_bxi_ln, l_bxi_ia, l_bxi_e, l_bxi_ep, l_bxi_e3, l_gta_ar, l_gta_ln, l_gta_ia, l_gta_e, l_gt_ar, l_gt_ln, l_gt_ia, l_gt_e, l_gt_ep, zvi_int, zvl_long, zvd_double, zvr_ref, zisI_int, zisR_ref, zgI_int, zgR_ref, zkl_int, zkl_ref, zkl_none, zkl_long, zkl_double, zct_nil, zct_int, zct_ref, zct_long, zct_double, zbk_some, zbk_none, zbk_exc, nI_clamp, nI_add, nI_mul, true_and, and_true, Nat.reduceAdd, Nat.reduceMul, Nat.reduceLeDiff, Nat.reducePow, ↓reduceIte, Nat.zero_add, Nat.add_zero, Nat.reduceLT, Nat.reduceEqDiff, Nat.le_refl, zn10, zn01, zfitB0, zfitB1, znarB0, znarB1, Nat.lt_irrefl, ↓zvi_eq, ↓zvr_eq]
        exact ⟨by omega, by omega, nx⟩
      · have e24 := hy24 p hp
        rw [if_neg hpV] at e24
        have hVd' : (V ++ [p]).Nodup := by
          rw [List.nodup_append]
          exact ⟨hVd, by simp, fun a ha b hb e => by rw [List.mem_singleton] at hb; subst e hb; exact hpV ha⟩
        have hV4' : ∀ k, k ∈ V ++ [p] → k < 4 := fun k hk => by
          rcases List.mem_append.mp hk with h | h
          · exact hV4 k h
          · rw [List.mem_singleton] at h; subst h; exact hp
        have hVl' := tpig 4 _ hVd' hV4'
        have hVa : (V ++ [p]).length = V.length + 1 := by rw [List.length_append]; rfl
        obtain ⟨g25, g26, g16, -⟩ := cG_25 hG
        rw [mBu_o _ _ (by omega)] at g25 g26 g16
        have hnum : ∀ f, f < 8 → ∀ i, i ∈ bl p f → y 26 p i < y 16 p f := fun f hf i hi => by
          have := cG_num (x := X) (y := mBu m y) (bl := bl) hG (by rw [hm]; exact BL_eq (mBu_o _ _ (by omega)) (mBu_o _ _ (by omega)) hB) (by omega) hp hf i hi
          rw [mBu_o _ _ (by omega), mBu_o _ _ (by omega)] at this
          exact this
        have hK' : ∀ i, i < n → y 25 p i = -1 ∨ ∃ f, f < 8 ∧ y 25 p i = nI f := fun i hi => by
          rw [g25]
          rcases (hG.2.1 p hp).1.2.2.2.1 i (by omega) with z | ⟨_, f, hf, z⟩
          · exact Or.inl z
          · exact Or.inr ⟨f, by have := h8 p hp; omega, z⟩
        have hJ8 : jOK 8 (J p) := by
          obtain ⟨a1, ⟨f, hf, ef⟩, a3, a4⟩ := hJ p hp
          exact ⟨a1, ⟨f, by have := h8 p hp; omega, ef⟩, a3, a4⟩
        have eJp : J p = yJ y m nr p := by
          rw [eJ p hp]
          exact (yH_yJ ⟨fun c hc => hyc c (by omega), hy2⟩ m nr p).symm
        obtain ⟨E5, G5, bl5, hP5, hB5, v5, k5, w5⟩ := c133 (m := m) (a := a30) (J := J p) hP1 hB (by
          rw [hyc 18 (by omega), hyc 19 (by omega), hyc 32 (by omega)]; exact hpx) hp (by rw [hyc 21 (by omega)]; exact fun r hr => h21 p r hp hr) hm hn (by rw [hyc 34 (by omega)]; exact h34) ha (by rw [hyc 30 (by omega)]; exact h30) e24 (hy25 p hp hpV) hK' eJp hJ8 (hJ6 p hp) hnum
        obtain ⟨ln, eln⟩ : ∃ ln, ln = (J p).2.2.2.length := ⟨_, rfl⟩
        have hln6 := hJ6 p hp
        rw [← eln] at v5 hln6
        obtain ⟨vq5, hrq5⟩ := k5 rq 40 g vq1
        obtain ⟨vc5, hc5⟩ := k5 c 7 R vc1
        have hc5' := hc5.trans hc1
        have hrq5' := hrq5.trans hrq1
        obtain ⟨m', g', hm', vm', hla0⟩ := hP5.2.2.2.2.1
        have hgl := hJ8.2.2.2
        obtain ⟨y', hy'd⟩ : ∃ y', y' = cKp y p m (J p) := ⟨_, rfl⟩
        have hy' : y' = (V ++ [p]).foldl (fun Y p => cKp Y p m (J p)) y0 := by rw [List.foldl_append, ← hy, hy'd]; rfl
        have hyc' : ∀ c, ¬ (c = 0 ∨ c = 1 ∨ c = 16 ∨ (24 ≤ c ∧ c ≤ 29)) → y' c = y0 c := fun c hc => by rw [hy'd]; exact (cKp_o hc).trans (hyc c hc)
        have hy2' : y' 0 0 2 = y0 0 0 2 := by rw [hy'd]; exact cKp_002.trans hy2
        have hy24' : ∀ q, q < 4 → y' 24 q m = if q ∈ V ++ [p] then nI 1 else nI 0 := fun q hq => by
          rw [hy'd, cKp_24]
          by_cases e1 : q = p
          · rw [if_pos ⟨e1, rfl⟩, if_pos (by rw [e1]; exact List.mem_append.mpr (Or.inr (List.mem_singleton.mpr rfl)))]
          · rw [if_neg (fun z => e1 z.1), hy24 q hq]
            by_cases e2 : q ∈ V
            · rw [if_pos e2, if_pos (List.mem_append.mpr (Or.inl e2))]
            · rw [if_neg e2, if_neg (fun z => by
                rcases List.mem_append.mp z with z | z
                · exact e2 z
                · exact e1 (List.mem_singleton.mp z))]
        have hy25' : ∀ q, q < 4 → ¬ q ∈ V ++ [p] → y' 25 q m = -1 := fun q hq hn' => by
          have e1 : ¬ q = p := fun z => hn' (List.mem_append.mpr (Or.inr (List.mem_singleton.mpr z)))
          rw [hy'd, cKp_25 (fun z => e1 z.1)]
          exact hy25 q hq (fun z => hn' (List.mem_append.mpr (Or.inl z)))
        have hG' := cG_K (by omega) hp (by omega) hG (hJ p hp) (hy25 p hp hpV)
        have hX' := iXb_K hX hp (show m < 60 by omega) (by omega) hJ8 (hy25 p hp hpV)
        have er : rQu (fun p => (J p).2.2.2.map (fun v => v.toNatClampNeg)) (K + 1) (p :: q) V = rQu (fun p => (J p).2.2.2.map (fun v => v.toNatClampNeg)) K (q ++ (J p).2.2.2.map (fun v => v.toNatClampNeg)) (V ++ [p]) := by
          show (if p ∈ V then _ else _) = _
          rw [if_neg hpV]
        rw [er] at hQ
        have har := fun x y => v5.ar (x := x) (y := y)
        have hlna := fun x y => v5.ln (x := x) (y := y)
        rw [← hy'd] at hP5 hB5 w5 hG' hX'
        have hla : (q ++ (J p).2.2.2.map (fun v => v.toNatClampNeg)).length = q.length + ln := by rw [List.length_append, List.length_map, eln]
        have fin := q_in (c := c) (m := m) (i := i) (a := a) (d := d) (uc := 3 + 13 * (i + 1)) (us := 73 + 66 * (i + 1)) (Q := Q) (x := x) hla0 hrq5' hc5' ln 0 E5 e g (by omega) (by omega) (by omega) hP5 vc5 v5 vq5 (fun E' w10 hP' vc' vq' hw => by
          have nx := ih (q ++ (J p).2.2.2.map (fun v => v.toNatClampNeg)) (V ++ [p]) (i + 1) (e + ln) y' E' G5 bl5 _ _ (by rw [hla, hVa]; omega) hVd' hV4' (fun k hk => by
            rcases List.mem_append.mp hk with h | h
            · exact hq4 k (List.mem_cons_of_mem _ h)
            · obtain ⟨v, hv, ev⟩ := List.mem_map.mp h
              obtain ⟨z, hz, ez⟩ := hgl v hv
              rw [ez, nI_clamp (by omega)] at ev
              omega) (by rw [hla]; omega) (by rw [hVa]; omega) hy' hyc' hy2' hy24' hy25' hP' hB5 vq' (fun j hj => by
            rw [hla] at hj
            by_cases e1 : j < q.length
            · rw [if_neg (by omega), show i + 1 + j = i + (j + 1) by omega, hgq (j + 1) (by omega), getD_app, if_pos e1]
              rfl
            · rw [if_pos (by omega), getD_app, if_neg e1, show 0 + (i + 1 + j - e) = j - q.length by omega]
              have hjl : j - q.length < (J p).2.2.2.length := by omega
              have em : ((J p).2.2.2.map (fun v => v.toNatClampNeg)).getD (j - q.length) 0 = ((J p).2.2.2.getD (j - q.length) 0).toNatClampNeg := by
                rw [List.getD_eq_getElem?_getD, List.getD_eq_getElem?_getD, List.getElem?_map, List.getElem?_eq_getElem hjl]
                rfl
              have hmem : (J p).2.2.2.getD (j - q.length) 0 ∈ (J p).2.2.2 := by
                rw [List.getD_eq_getElem?_getD, List.getElem?_eq_getElem hjl]
                exact List.getElem_mem hjl
              obtain ⟨z, hz, ez⟩ := hgl _ hmem
              rw [em, ez, nI_clamp (by omega)]) hrq5' vc' hc5' (by rw [hVa]; exact hG') (by rw [hVa]; exact hX') hQ (some (.ref (E5.2.2.2 5 0 0))) (some (.int (nI ln))) (some (.int (nI ln))) w10 rfl rfl rfl hw
          rw [p134_244]
          simp (disch := omega) only [p134_0, p134_1, p134_4, p134_5, p134_7, p134_10, p134_11, p134_12, p134_13, p134_16, p134_17, p134_20, p134_21, p134_22, p134_25, p134_28, p134_29, p134_30, p134_33, p134_34, p134_37, p134_40, p134_41, p134_42, p134_44, p134_46, p134_46i, p134_47, p134_48, p134_49, p134_50, p134_53, p134_54, p134_54i, p134_55, p134_56, p134_57, p134_59, p134_62, p134_63, p134_63i, p134_64, p134_65, p134_66, p134_67, p134_70, p134_71, p134_71i, p134_72, p134_73, p134_74, p134_77, p134_80, p134_81, p134_81i, p134_82, p134_83, p134_84, p134_85, p134_87, p134_90, p134_91, p134_92, p134_92i, p134_93, p134_94, p134_95, p134_98, p134_99, p134_99i, p134_100, p134_102, p134_103, p134_104, p134_105, p134_106, p134_107, p134_110, p134_111, p134_114, p134_117, p134_118, p134_121, p134_122, p134_123, p134_124, p134_125, p134_127, p134_129, p134_131, p134_132, p134_134, p134_135, p134_137, p134_139, p134_140, p134_143, p134_144, p134_145, p134_146, p134_147, p134_149, p134_150, p134_151, p134_152, p134_153, p134_154, p134_157, p134_159, p134_161, p134_164, p134_166, p134_167, p134_170, p134_173, p134_174, p134_178, p134_180, p134_183, p134_184, p134_185, p134_187, p134_190, p134_191, p134_193, p134_195, p134_196, p134_197, p134_200, p134_201, p134_204, p134_206, p134_208, p134_209, p134_211, p134_212, p134_214, p134_216, p134_218, p134_221, p134_223, p134_225, p134_226, p134_228, p134_230, p134_232, p134_235, p134_237, p134_238, p134_241, p134_247, p134_251, p134_254, p134_255, p134_256, p134_257, p134_258, p134_259, p134_260, p134_261, p134_262, p134_263, p134_264, p134_265, p134_266, p134_267, p134_268, p134_269, p134_270, p134_273, p134_274, p134_277, p134_278, p134_281, p134_282, l_dm_ok, l_dm_0, l_dm_1, l_dm_2, l_dm_2p, l_dm_3, l_dm_4, l_dm_4p, l_dm_5, l_dm_6, l_dm_6p, l_dm_7, l_dm_7p, l_dm_8, l_dm_8p, l_dm_9, l_dm_9p, l_dm_10, l_dm_11, l_dm_12, l_dm_13, l_dm_14, l_po_ok, l_po_0, l_po_1, l_po_2, l_po_2p, l_po_3, l_po_3p, l_po_4, l_po_4p, l_po_5, l_po_5p, l_po_6, l_po_6p, l_po_7, l_po_8, l_po_9, l_po_10, l_po_11, l_po_12, l_po_13, l_po_13p, l_po_14, l_po_15, l_po_16, l_po_17, l_po_17p, l_bxa_ar, l_bxa_ln, l_bxa_ia, l_bxa_e, l_lea_ar, l_lea_ln, l_lea_ia, l_lea_e, l_qua_ar, l_qua_ln, l_qua_ia, l_qua_e, l_bo_ar, l_bo_ln, l_bo_ia, l_bo_is, l_bo_e, l_bo_ep, l_fc_ar, l_fc_ln, l_fc_ia, l_fc_is, l_fc_e, l_fc_ep, l_pa_ar, l_pa_ln, l_pa_ia, l_pa_e, l_pa_ep, l_pa_e3, l_aga_ar, l_aga_ln, l_aga_ia, l_aga_e, l_ag_ar, l_ag_ln, l_ag_ia, l_ag_is, l_ag_e, l_ag_ep, l_nxa_ar, l_nxa_ln, l_nxa_ia, l_nxa_e, l_nx_ar, l_nx_ln, l_nx_ia, l_nx_is, l_nx_e, l_nx_ep, l_qt_ar, l_qt_ln, l_qt_ia, l_qt_is, l_qt_e, l_qt_ep, l_bn_ar, l_bn_ln, l_bn_ia, l_bn_is, l_bn_e, l_bn_ep, l_rl_ar, l_rl_ln, l_rl_ia, l_rl_e, l_rl_ep, l_rl_e3, l_bxo_ar, l_bxo_ln, l_bxo_ia, l_bxo_e, l_bxi_ar, l_bxi_ln, l_bxi_ia, l_bxi_e, l_bxi_ep, l_bxi_e3, l_gta_ar, l_gta_ln, l_gta_ia, l_gta_e, l_gt_ar, l_gt_ln, l_gt_ia, l_gt_e, l_gt_ep, zvi_int, zvl_long, zvd_double, zvr_ref, zisI_int, zisR_ref, zgI_int, zgR_ref, zkl_int, zkl_ref, zkl_none, zkl_long, zkl_double, zct_nil, zct_int, zct_ref, zct_long, zct_double, zbk_some, zbk_none, zbk_exc, nI_clamp, nI_add, nI_mul, true_and, and_true, Nat.reduceAdd, Nat.reduceMul, Nat.reduceLeDiff, Nat.reducePow, ↓reduceIte, Nat.zero_add, Nat.add_zero, Nat.reduceLT, Nat.reduceEqDiff, Nat.le_refl, zn10, zn01, zfitB0, zfitB1, znarB0, znarB1, Nat.lt_irrefl, ↓zvi_eq, ↓zvr_eq]
          exact nx) v10 h10
        rw [p134_176]
        simp (disch := omega) only [p134_0, p134_1, p134_4, p134_5, p134_7, p134_10, p134_11, p134_12, p134_13, p134_16, p134_17, p134_20, p134_21, p134_22, p134_25, p134_28, p134_29, p134_30, p134_33, p134_34, p134_37, p134_40, p134_41, p134_42, p134_44, p134_46, p134_46i, p134_47, p134_48, p134_49, p134_50, p134_53, p134_54, p134_54i, p134_55, p134_56, p134_57, p134_59, p134_62, p134_63, p134_63i, p134_64, p134_65, p134_66, p134_67, p134_70, p134_71, p134_71i, p134_72, p134_73, p134_74, p134_77, p134_80, p134_81, p134_81i, p134_82, p134_83, p134_84, p134_85, p134_87, p134_90, p134_91, p134_92, p134_92i, p134_93, p134_94, p134_95, p134_98, p134_99, p134_99i, p134_100, p134_102, p134_103, p134_104, p134_105, p134_106, p134_107, p134_110, p134_111, p134_114, p134_117, p134_118, p134_121, p134_122, p134_123, p134_124, p134_125, p134_127, p134_129, p134_131, p134_132, p134_134, p134_135, p134_137, p134_139, p134_140, p134_143, p134_144, p134_145, p134_146, p134_147, p134_149, p134_150, p134_151, p134_152, p134_153, p134_154, p134_157, p134_159, p134_161, p134_164, p134_166, p134_167, p134_170, p134_173, p134_174, p134_178, p134_180, p134_183, p134_184, p134_185, p134_187, p134_190, p134_191, p134_193, p134_195, p134_196, p134_197, p134_200, p134_201, p134_204, p134_206, p134_208, p134_209, p134_211, p134_212, p134_216, p134_218, p134_221, p134_223, p134_225, p134_226, p134_228, p134_230, p134_232, p134_235, p134_237, p134_238, p134_241, p134_244, p134_247, p134_251, p134_254, p134_255, p134_256, p134_257, p134_258, p134_259, p134_260, p134_261, p134_262, p134_263, p134_264, p134_265, p134_266, p134_267, p134_268, p134_269, p134_270, p134_273, p134_274, p134_277, p134_278, p134_281, p134_282, nI_ltI, hie', w1, zmem_c, p0, qs, qd, w5, har, hlna, h7, h8', h9, h10, l_dm_ok, l_dm_0, l_dm_1, l_dm_2, l_dm_2p, l_dm_3, l_dm_4, l_dm_4p, l_dm_5, l_dm_6, l_dm_6p, l_dm_7, l_dm_7p, l_dm_8, l_dm_8p, l_dm_9, l_dm_9p, l_dm_10, l_dm_11, l_dm_12, l_dm_13, l_dm_14, l_po_ok, l_po_0, l_po_1, l_po_2, l_po_2p, l_po_3, l_po_3p, l_po_4, l_po_4p, l_po_5, l_po_5p, l_po_6, l_po_6p, l_po_7, l_po_8, l_po_9, l_po_10, l_po_11, l_po_12, l_po_13, l_po_13p, l_po_14, l_po_15, l_po_16, l_po_17, l_po_17p, l_bxa_ar, l_bxa_ln, l_bxa_ia, l_bxa_e, l_lea_ar, l_lea_ln, l_lea_ia, l_lea_e, l_qua_ar, l_qua_ln, l_qua_ia, l_qua_e, l_bo_ar, l_bo_ln, l_bo_ia, l_bo_is, l_bo_e, l_bo_ep, l_fc_ar, l_fc_ln, l_fc_ia, l_fc_is, l_fc_e, l_fc_ep, l_pa_ar, l_pa_ln, l_pa_ia, l_pa_e, l_pa_ep, l_pa_e3, l_aga_ar, l_aga_ln, l_aga_ia, l_aga_e, l_ag_ar, l_ag_ln, l_ag_ia, l_ag_is, l_ag_e, l_ag_ep, l_nxa_ar, l_nxa_ln, l_nxa_ia, l_nxa_e, l_nx_ar, l_nx_ln, l_nx_ia, l_nx_is, l_nx_e, l_nx_ep, l_qt_ar, l_qt_ln, l_qt_ia, l_qt_is, l_qt_e, l_qt_ep, l_bn_ar, l_bn_ln, l_bn_ia, l_bn_is, l_bn_e, l_bn_ep, l_rl_ar, l_rl_ln, l_rl_ia, l_rl_e, l_rl_ep, l_rl_e3, l_bxo_ar, l_bxo_ln, l_bxo_ia, l_bxo_e, l_bxi_ar, l_bxi_ln, l_bxi_ia, l_bxi_e, l_bxi_ep, l_bxi_e3, l_gta_ar, l_gta_ln, l_gta_ia, l_gta_e, l_gt_ar, l_gt_ln, l_gt_ia, l_gt_e, l_gt_ep, zvi_int, zvl_long, zvd_double, zvr_ref, zisI_int, zisR_ref, zgI_int, zgR_ref, zkl_int, zkl_ref, zkl_none, zkl_long, zkl_double, zct_nil, zct_int, zct_ref, zct_long, zct_double, zbk_some, zbk_none, zbk_exc, nI_clamp, nI_add, nI_mul, true_and, and_true, Nat.reduceAdd, Nat.reduceMul, Nat.reduceLeDiff, Nat.reducePow, ↓reduceIte, Nat.zero_add, Nat.add_zero, Nat.reduceLT, Nat.reduceEqDiff, Nat.le_refl, zn10, zn01, zfitB0, zfitB1, znarB0, znarB1, Nat.lt_irrefl, ↓zvi_eq, ↓zvr_eq]
        exact ⟨by omega, by omega, fin⟩
end ZB
