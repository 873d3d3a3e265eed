/-! one copy moved, a folder emptied, a mark set (source: wip/p35/src/268.mo.txt, by expand3.py) -/
theorem idx_ex {m : Nat} : ∀ {l : List Nat}, m ∈ l → ∃ k, k < l.length ∧ l.getD k 0 = m ∧ ∀ j, j < k → ¬ l.getD j 0 = m
  | [], h => by cases h
  | a :: t, h => by
    by_cases e : a = m
    · exact ⟨0, Nat.succ_pos _, e, fun j hj => absurd hj (Nat.not_lt_zero _)⟩
    · obtain ⟨k, h1, h2, h3⟩ := idx_ex ((List.mem_cons.mp h).resolve_left (fun z => e z.symm))
      refine ⟨k + 1, Nat.succ_lt_succ h1, h2, fun j hj => ?_⟩
      cases j with
      | zero => exact e
      | succ j => exact h3 j (by omega)
section ZA
variable {E : zEx} {x y : zSt} {k s : Nat}
theorem cG_25 {n qn t w l b : Nat} {fc nr : Nat → Nat} (h : cG n qn t w l fc nr b x y) : y 25 = x 25 ∧ y 26 = x 26 ∧ y 16 = x 16 ∧ y 0 = x 0 ∧ y 27 = x 27 ∧ y 24 = x 24 ∧ y 28 = x 28 := ⟨iRl_sh h.2.2.2.2.2 (iSh_b (by omega) (by omega)), iRl_sh h.2.2.2.2.2 (iSh_b (by omega) (by omega)), iRl_sh h.2.2.2.2.2 (iSh_a (by omega) (by omega)), iRl_sh h.2.2.2.2.2 iSh_0, iRl_sh h.2.2.2.2.2 (iSh_b (by omega) (by omega)), iRl_sh h.2.2.2.2.2 (iSh_b (by omega) (by omega)), iRl_sh h.2.2.2.2.2 (iSh_b (by omega) (by omega))⟩
theorem cG_num {n qn t w l b p f : Nat} {fc nr : Nat → Nat} {bl : Nat → Nat → List Nat} (h : cG n qn t w l fc nr b x y) (hB : BL bl n y) (hb : b < 1000000000) (hp : p < 4) (hf : f < 8) : ∀ i, i ∈ bl p f → y 26 p i < y 16 p f := by
  intro i hi
  obtain ⟨e5, e6, e16, -⟩ := cG_25 h
  have h2 := ((hB p f hp hf).1 i).mp hi
  obtain ⟨u, v, g1, g2, g3, g4, g5⟩ := (h.2.1 p hp).2.2.1.2.1 i f (by have := h.1.2.1; omega) hf (by rw [← e5]; exact h2.2)
  rw [e6, e16, g1, g2]
  exact nI_lt g4 (by omega)
theorem t138 (h : pI k s x y E) (hk : k ≤ 100) (hs : s ≤ 25) : zcl 138 [.ref 1] (zmem x y E) (pO (k + 1) s) := by
  obtain ⟨d, b, n, qn, t, w, l, fc, nr, G, bl, L, xs, hG, hP, hB, hy, ⟨hd, hn, ht, hb, hpx⟩, hX⟩ := h
  have hS := hP.2.2.2.2.2
  rw [← yD_id hy]
  obtain ⟨p, hp, e1⟩ := cD (d := d) (n := 4) hS (by omega) (by omega) (by omega)
  obtain ⟨o, d', hd1, hd2, ho, e2⟩ := c137 (d := d + 1) hP hB (by omega) hp (by omega)
  cases o with
  | none =>
    have hm1 : ((-1 : Int32) < nI 0) = True := eq_true (by decide)
    rw [e138]
    simp (disch := omega) only [p138_0, p138_1, p138_2, p138_5, p138_6, p138_7, p138_8, p138_11, p138_12, p138_13, p138_16, p138_17, p138_18, p138_19, p138_20, p138_23, p138_24, p138_25, p138_26, p138_29, p138_30, p138_31, p138_32, p138_33, p138_36, p138_38, p138_39, p138_41, p138_43, p138_44, p138_47, p138_48, p138_49, p138_51, p138_52, p138_53, p138_56, p138_58, p138_59, p138_62, p138_63, p138_66, p138_67, p138_68, p138_70, p138_71, p138_73, p138_74, p138_75, p138_76, p138_77, p138_80, p138_83, p138_84, p138_85, p138_87, p138_89, p138_90, p138_93, p138_96, p138_99, p138_102, p138_103, p138_106, p138_107, p138_108, p138_109, p138_112, p138_113, p138_114, p138_115, p138_118, p138_119, p138_120, p138_123, p138_124, p138_127, p138_128, e1, e2, oI_none, hm1, l_dm_ok, l_dm_0, l_dm_1, l_dm_2, l_dm_2p, l_dm_3, l_dm_4, l_dm_4p, l_dm_5, l_dm_6, l_dm_6p, l_dm_7, l_dm_7p, l_dm_8, l_dm_8p, l_dm_9, l_dm_9p, l_dm_10, l_dm_11, l_dm_12, l_dm_13, l_dm_14, l_po_ok, l_po_0, l_po_1, l_po_2, l_po_2p, l_po_3, l_po_3p, l_po_4, l_po_4p, l_po_5, l_po_5p, l_po_6, l_po_6p, l_po_7, l_po_8, l_po_9, l_po_10, l_po_11, l_po_12, l_po_13, l_po_13p, l_po_14, l_po_15, l_po_16, l_po_17, l_po_17p, l_bxa_ar, l_bxa_ln, l_bxa_ia, l_bxa_e, l_lea_ar, l_lea_ln, l_lea_ia, l_lea_e, l_qua_ar, l_qua_ln, l_qua_ia, l_qua_e, l_bo_ar, l_bo_ln, l_bo_ia, l_bo_is, l_bo_e, l_bo_ep, l_fc_ar, l_fc_ln, l_fc_ia, l_fc_is, l_fc_e, l_fc_ep, l_pa_ar, l_pa_ln, l_pa_ia, l_pa_e, l_pa_ep, l_pa_e3, l_aga_ar, l_aga_ln, l_aga_ia, l_aga_e, l_ag_ar, l_ag_ln, l_ag_ia, l_ag_is, l_ag_e, l_ag_ep, l_nxa_ar, l_nxa_ln, l_nxa_ia, l_nxa_e, l_nx_ar, l_nx_ln, l_nx_ia, l_nx_is, l_nx_e, l_nx_ep, l_qt_ar, l_qt_ln, l_qt_ia, l_qt_is, l_qt_e, l_qt_ep, l_bn_ar, l_bn_ln, l_bn_ia, l_bn_is, l_bn_e, l_bn_ep, l_rl_ar, l_rl_ln, l_rl_ia, l_rl_e, l_rl_ep, l_rl_e3, l_bxo_ar, l_bxo_ln, l_bxo_ia, l_bxo_e, l_bxi_ar, l_bxi_ln, l_bxi_ia, l_bxi_e, l_bxi_ep, l_bxi_e3, l_gta_ar, l_gta_ln, l_gta_ia, l_gta_e, l_gt_ar, l_gt_ln, l_gt_ia, l_gt_e, l_gt_ep, zvi_int, zvl_long, zvd_double, zvr_ref, zisI_int, zisR_ref, zgI_int, zgR_ref, zkl_int, zkl_ref, zkl_none, zkl_long, zkl_double, zct_nil, zct_int, zct_ref, zct_long, zct_double, zbk_some, zbk_none, zbk_exc, nI_clamp, nI_add, nI_mul, true_and, and_true, Nat.reduceAdd, Nat.reduceMul, Nat.reduceLeDiff, Nat.reducePow, ↓reduceIte, Nat.zero_add, Nat.add_zero, Nat.reduceLT, Nat.reduceEqDiff, Nat.le_refl, zn10, zn01, zfitB0, zfitB1, znarB0, znarB1, Nat.lt_irrefl, ↓zvi_eq, ↓zvr_eq]
    exact ⟨rfl, _, _, _, rfl, pI_mk hG hP hB (by omega) hn hpx (by omega) (by omega) (iX_eq (x := x) (by omega) rfl (fun c h1 h2 => rfl) hX)⟩
  | some m =>
    obtain ⟨f, hf, hm⟩ := ho m rfl
    obtain ⟨hpa, hpt, hp8⟩ := hP.2.1 p hp
    obtain ⟨⟨hc1, hc8, hF, hK, hM⟩, hc2, hN, hC⟩ := id (hG.2.1 p hp)
    obtain ⟨e25, e26, e16, e0, e27, e24, -⟩ := cG_25 hG
    have har := fun x y => hpa.ar (x := x) (y := y)
    have hln := fun x y => hpa.ln (x := x) (y := y)
    obtain ⟨to, hto, e3⟩ := cD (d := d') (n := fc p) hS (by omega) (by omega) (by omega)
    have hmf := ((hB p f hp hf).1 m).mp hm
    have hm0 : (nI m < nI 0) = False := eq_false (nI_nlt (Nat.zero_le _) (by omega))
    have q129 := c129 hP hB (by omega) hp hf hm
    have hr := hP.row hp hf
    have har2 := fun x y => hr.ar (x := x) (y := y) (Or.inl rfl)
    have hln2 := fun x y => hr.ln (x := x) (y := y)
    obtain ⟨k0, hk0, ek0, hk1⟩ := idx_ex hm
    have h0l : 0 < (bl p f).length := by omega
    have hlen := hB.len hp hf
    by_cases e : f = to
    · subst e
      have q130 := c130 hP hB (by omega) hp hf hm
      obtain ⟨hm26, hrow⟩ := hP.cop hp hf hm
      have j1 := fun x y => hrow.is (x := x) (y := y) (j := 1) (by omega)
      have r1 : ∀ X Y, zrd (zmem X Y E) (G.2.1 p m) 1 = .int (x 26 p m) := fun X Y => (hrow.rd (x := X) (y := Y) (j := 1) (by omega)).trans (congrArg Value.int (show y 26 p m = x 26 p m by rw [e26]))
      have hK' := fun (Q : zO → zM → Prop) (Y : zSt) (F : zEx) => a53a (Q := Q) (Y := Y) (E := F) hG hp hmf.1 hto (by rw [← e25]; exact hmf.2)
      rw [e138]
      simp (disch := omega) only [p138_0, p138_1, p138_2, p138_5, p138_6, p138_7, p138_8, p138_11, p138_12, p138_13, p138_16, p138_17, p138_18, p138_19, p138_20, p138_23, p138_24, p138_25, p138_26, p138_29, p138_30, p138_31, p138_32, p138_33, p138_36, p138_38, p138_39, p138_41, p138_43, p138_44, p138_47, p138_48, p138_49, p138_51, p138_52, p138_53, p138_56, p138_58, p138_59, p138_62, p138_63, p138_66, p138_67, p138_68, p138_70, p138_71, p138_73, p138_74, p138_75, p138_76, p138_77, p138_80, p138_83, p138_84, p138_85, p138_87, p138_89, p138_90, p138_93, p138_96, p138_99, p138_102, p138_103, p138_106, p138_107, p138_108, p138_109, p138_112, p138_113, p138_114, p138_115, p138_118, p138_119, p138_120, p138_123, p138_124, p138_127, p138_128, e1, e2, oI_some, hm0, har, hln, e3, q129, har2, hln2, nI_ltI, h0l, hK', q130, j1, r1, l_dm_ok, l_dm_0, l_dm_1, l_dm_2, l_dm_2p, l_dm_3, l_dm_4, l_dm_4p, l_dm_5, l_dm_6, l_dm_6p, l_dm_7, l_dm_7p, l_dm_8, l_dm_8p, l_dm_9, l_dm_9p, l_dm_10, l_dm_11, l_dm_12, l_dm_13, l_dm_14, l_po_ok, l_po_0, l_po_1, l_po_2, l_po_2p, l_po_3, l_po_3p, l_po_4, l_po_4p, l_po_5, l_po_5p, l_po_6, l_po_6p, l_po_7, l_po_8, l_po_9, l_po_10, l_po_11, l_po_12, l_po_13, l_po_13p, l_po_14, l_po_15, l_po_16, l_po_17, l_po_17p, l_bxa_ar, l_bxa_ln, l_bxa_ia, l_bxa_e, l_lea_ar, l_lea_ln, l_lea_ia, l_lea_e, l_qua_ar, l_qua_ln, l_qua_ia, l_qua_e, l_bo_ar, l_bo_ln, l_bo_ia, l_bo_is, l_bo_e, l_bo_ep, l_fc_ar, l_fc_ln, l_fc_ia, l_fc_is, l_fc_e, l_fc_ep, l_pa_ar, l_pa_ln, l_pa_ia, l_pa_e, l_pa_ep, l_pa_e3, l_aga_ar, l_aga_ln, l_aga_ia, l_aga_e, l_ag_ar, l_ag_ln, l_ag_ia, l_ag_is, l_ag_e, l_ag_ep, l_nxa_ar, l_nxa_ln, l_nxa_ia, l_nxa_e, l_nx_ar, l_nx_ln, l_nx_ia, l_nx_is, l_nx_e, l_nx_ep, l_qt_ar, l_qt_ln, l_qt_ia, l_qt_is, l_qt_e, l_qt_ep, l_bn_ar, l_bn_ln, l_bn_ia, l_bn_is, l_bn_e, l_bn_ep, l_rl_ar, l_rl_ln, l_rl_ia, l_rl_e, l_rl_ep, l_rl_e3, l_bxo_ar, l_bxo_ln, l_bxo_ia, l_bxo_e, l_bxi_ar, l_bxi_ln, l_bxi_ia, l_bxi_e, l_bxi_ep, l_bxi_e3, l_gta_ar, l_gta_ln, l_gta_ia, l_gta_e, l_gt_ar, l_gt_ln, l_gt_ia, l_gt_e, l_gt_ep, zvi_int, zvl_long, zvd_double, zvr_ref, zisI_int, zisR_ref, zgI_int, zgR_ref, zkl_int, zkl_ref, zkl_none, zkl_long, zkl_double, zct_nil, zct_int, zct_ref, zct_long, zct_double, zbk_some, zbk_none, zbk_exc, nI_clamp, nI_add, nI_mul, true_and, and_true, Nat.reduceAdd, Nat.reduceMul, Nat.reduceLeDiff, Nat.reducePow, ↓reduceIte, Nat.zero_add, Nat.add_zero, Nat.reduceLT, Nat.reduceEqDiff, Nat.le_refl, zn10, zn01, zfitB0, zfitB1, znarB0, znarB1, Nat.lt_irrefl, ↓zvi_eq, ↓zvr_eq]
      exact ⟨rfl, _, _, _, rfl, pI_mk hG hP hB (by omega) hn hpx (by omega) (by omega) (iX_eq (x := x) (by omega) rfl (fun c h1 h2 => rfl) hX)⟩
    · have hne : (nI f = nI to) = False := nI_ne e (by omega) (by omega)
      have hnum := cG_num hG hB (by omega) hp (show to < 8 by omega)
      have hB' := hB.mv hp hf (show to < 8 by omega) e hm hnum
      have hl' := hB'.len hp (show to < 8 by omega)
      rw [bM_to, List.length_append] at hl'
      have hl2 : (bl p to).length < 25 := by
        have : ([m] : List Nat).length = 1 := rfl
        omega
      obtain ⟨E', G', hP', w1⟩ := c132 hP hB hp hf (show to < 8 by omega) e hk0 hl2 (by omega)
      rw [ek0] at hP' w1
      have hmb : m ∈ bM bl p f m to p to := by rw [bM_to]; exact List.mem_append.mpr (Or.inr (List.mem_singleton.mpr rfl))
      have q130 := c130 hP' hB' (by omega) hp (show to < 8 by omega) hmb
      obtain ⟨hm26, hrow⟩ := hP'.cop hp (show to < 8 by omega) hmb
      have j1 := fun x y => hrow.is (x := x) (y := y) (j := 1) (by omega)
      have r1 : ∀ X Y, zrd (zmem X Y E') (G'.2.1 p m) 1 = .int (x 16 p to) := fun X Y => (hrow.rd (x := X) (y := Y) (j := 1) (by omega)).trans (congrArg Value.int (show sLay y p m to 26 p m = x 16 p to by rw [sL_26, if_pos ⟨rfl, rfl⟩, e16]))
      have hkm : ¬ x 25 p m = -1 := by rw [← e25, hmf.2]; exact nI_m1 (by omega)
      have hK' := fun (Q : zO → zM → Prop) (Y : zSt) (F : zEx) => a53b (Q := Q) (Y := Y) (E := F) hG hp hmf.1 hto (by rw [← e25, hmf.2]; exact fun z => e ((nI_eq (by omega) (by omega)).mp z)) hkm
      have hg := cG_lay (by omega) hp hmf.1 hto hG
      have hX' : iX (sLay x p m to) (k + 1) := iX_iff.mpr (iXb_le (iXb_lay (iX_iff.mp hX) hp (show m < 60 by omega) (show to < 8 by omega) (by omega) (by
        obtain ⟨S, st, a, b, c⟩ := hX
        rcases c p m hp (by omega) with z | z
        · exact absurd z.1 hkm
        · exact z.2.1)).1 (by omega))
      have fin : pO (k + 1) s (.inl (some (.int (nI 1)))) (zmem (sLay x p m to) (yD (sLay y p m to) (d' + 1)) E') := ⟨rfl, _, _, _, rfl, pI_mk hg hP' hB' (by omega) hn hpx (by omega) (by omega) hX'⟩
      have loop : ∀ (q j : Nat), j + q = k0 → zwp zm_138 (41, [some (.ref 1), some (.int (nI p)), some (.int (nI m)), some (.int (nI to)), some (.int (nI f)), some (.int (nI j))], [], zmem x (yD y (d' + 1)) E, 0, 0) (pO (k + 1) s) := by
        intro q
        induction q with
        | zero =>
          intro j hj
          have ej : j = k0 := by omega
          subst ej
          have hi := fun x y => hr.ia (x := x) (y := y) (j := j) (by omega)
          have hrd := fun x y => hr.rd (x := x) (y := y) (j := j) (by omega)
          rw [ek0] at hrd
          obtain ⟨_, hrow0⟩ := hP.cop hp hf hm
          have s0 := fun x y => hrow0.is (x := x) (y := y) (j := 0) (by omega)
          have r0 : ∀ X Y, zrd (zmem X Y E) (G.2.1 p m) 0 = .int (nI m) := fun X Y => hrow0.rd (x := X) (y := Y) (j := 0) (by omega)
          rw [p138_41]
          simp (disch := omega) only [p138_0, p138_1, p138_2, p138_5, p138_6, p138_7, p138_8, p138_11, p138_12, p138_13, p138_16, p138_17, p138_18, p138_19, p138_20, p138_23, p138_24, p138_25, p138_26, p138_29, p138_30, p138_31, p138_32, p138_33, p138_36, p138_38, p138_39, p138_43, p138_44, p138_47, p138_48, p138_49, p138_51, p138_52, p138_53, p138_56, p138_58, p138_59, p138_62, p138_63, p138_66, p138_67, p138_68, p138_70, p138_71, p138_73, p138_74, p138_75, p138_76, p138_77, p138_80, p138_83, p138_84, p138_85, p138_87, p138_89, p138_90, p138_93, p138_96, p138_99, p138_102, p138_103, p138_106, p138_107, p138_108, p138_109, p138_112, p138_113, p138_114, p138_115, p138_118, p138_119, p138_120, p138_123, p138_124, p138_127, p138_128, har2, hln2, nI_ltI, hk0, hne, hi, hrd, s0, r0, w1, hK', q130, j1, r1, l_dm_ok, l_dm_0, l_dm_1, l_dm_2, l_dm_2p, l_dm_3, l_dm_4, l_dm_4p, l_dm_5, l_dm_6, l_dm_6p, l_dm_7, l_dm_7p, l_dm_8, l_dm_8p, l_dm_9, l_dm_9p, l_dm_10, l_dm_11, l_dm_12, l_dm_13, l_dm_14, l_po_ok, l_po_0, l_po_1, l_po_2, l_po_2p, l_po_3, l_po_3p, l_po_4, l_po_4p, l_po_5, l_po_5p, l_po_6, l_po_6p, l_po_7, l_po_8, l_po_9, l_po_10, l_po_11, l_po_12, l_po_13, l_po_13p, l_po_14, l_po_15, l_po_16, l_po_17, l_po_17p, l_bxa_ar, l_bxa_ln, l_bxa_ia, l_bxa_e, l_lea_ar, l_lea_ln, l_lea_ia, l_lea_e, l_qua_ar, l_qua_ln, l_qua_ia, l_qua_e, l_bo_ar, l_bo_ln, l_bo_ia, l_bo_is, l_bo_e, l_bo_ep, l_fc_ar, l_fc_ln, l_fc_ia, l_fc_is, l_fc_e, l_fc_ep, l_pa_ar, l_pa_ln, l_pa_ia, l_pa_e, l_pa_ep, l_pa_e3, l_aga_ar, l_aga_ln, l_aga_ia, l_aga_e, l_ag_ar, l_ag_ln, l_ag_ia, l_ag_is, l_ag_e, l_ag_ep, l_nxa_ar, l_nxa_ln, l_nxa_ia, l_nxa_e, l_nx_ar, l_nx_ln, l_nx_ia, l_nx_is, l_nx_e, l_nx_ep, l_qt_ar, l_qt_ln, l_qt_ia, l_qt_is, l_qt_e, l_qt_ep, l_bn_ar, l_bn_ln, l_bn_ia, l_bn_is, l_bn_e, l_bn_ep, l_rl_ar, l_rl_ln, l_rl_ia, l_rl_e, l_rl_ep, l_rl_e3, l_bxo_ar, l_bxo_ln, l_bxo_ia, l_bxo_e, l_bxi_ar, l_bxi_ln, l_bxi_ia, l_bxi_e, l_bxi_ep, l_bxi_e3, l_gta_ar, l_gta_ln, l_gta_ia, l_gta_e, l_gt_ar, l_gt_ln, l_gt_ia, l_gt_e, l_gt_ep, zvi_int, zvl_long, zvd_double, zvr_ref, zisI_int, zisR_ref, zgI_int, zgR_ref, zkl_int, zkl_ref, zkl_none, zkl_long, zkl_double, zct_nil, zct_int, zct_ref, zct_long, zct_double, zbk_some, zbk_none, zbk_exc, nI_clamp, nI_add, nI_mul, true_and, and_true, Nat.reduceAdd, Nat.reduceMul, Nat.reduceLeDiff, Nat.reducePow, ↓reduceIte, Nat.zero_add, Nat.add_zero, Nat.reduceLT, Nat.reduceEqDiff, Nat.le_refl, zn10, zn01, zfitB0, zfitB1, znarB0, znarB1, Nat.lt_irrefl, ↓zvi_eq, ↓zvr_eq]
          exact fin
        | succ q ih =>
          intro j hj
          have hjl : j < (bl p f).length := by omega
          have hi := fun x y => hr.ia (x := x) (y := y) (j := j) (by omega)
          have hrd := fun x y => hr.rd (x := x) (y := y) (j := j) (by omega)
          obtain ⟨_, hrow0⟩ := hP.cop hp hf (getD_mem hjl)
          have hjn := (((hB p f hp hf).1 _).mp (getD_mem hjl)).1
          have s0 := fun x y => hrow0.is (x := x) (y := y) (j := 0) (by omega)
          have r0 : ∀ X Y, zrd (zmem X Y E) (G.2.1 p ((bl p f).getD j 0)) 0 = .int (nI ((bl p f).getD j 0)) := fun X Y => hrow0.rd (x := X) (y := Y) (j := 0) (by omega)
          have hnm := nI_ne (hk1 j (by omega)) (by omega) (by omega)
          rw [p138_41]
          simp (disch := omega) only [p138_0, p138_1, p138_2, p138_5, p138_6, p138_7, p138_8, p138_11, p138_12, p138_13, p138_16, p138_17, p138_18, p138_19, p138_20, p138_23, p138_24, p138_25, p138_26, p138_29, p138_30, p138_31, p138_32, p138_33, p138_36, p138_38, p138_39, p138_43, p138_44, p138_47, p138_48, p138_49, p138_51, p138_52, p138_53, p138_56, p138_58, p138_59, p138_62, p138_63, p138_66, p138_67, p138_68, p138_70, p138_71, p138_73, p138_74, p138_75, p138_76, p138_77, p138_80, p138_83, p138_84, p138_85, p138_87, p138_89, p138_90, p138_93, p138_96, p138_99, p138_102, p138_103, p138_106, p138_107, p138_108, p138_109, p138_112, p138_113, p138_114, p138_115, p138_118, p138_119, p138_120, p138_123, p138_124, p138_127, p138_128, har2, hln2, nI_ltI, hjl, hne, hi, hrd, s0, r0, hnm, l_dm_ok, l_dm_0, l_dm_1, l_dm_2, l_dm_2p, l_dm_3, l_dm_4, l_dm_4p, l_dm_5, l_dm_6, l_dm_6p, l_dm_7, l_dm_7p, l_dm_8, l_dm_8p, l_dm_9, l_dm_9p, l_dm_10, l_dm_11, l_dm_12, l_dm_13, l_dm_14, l_po_ok, l_po_0, l_po_1, l_po_2, l_po_2p, l_po_3, l_po_3p, l_po_4, l_po_4p, l_po_5, l_po_5p, l_po_6, l_po_6p, l_po_7, l_po_8, l_po_9, l_po_10, l_po_11, l_po_12, l_po_13, l_po_13p, l_po_14, l_po_15, l_po_16, l_po_17, l_po_17p, l_bxa_ar, l_bxa_ln, l_bxa_ia, l_bxa_e, l_lea_ar, l_lea_ln, l_lea_ia, l_lea_e, l_qua_ar, l_qua_ln, l_qua_ia, l_qua_e, l_bo_ar, l_bo_ln, l_bo_ia, l_bo_is, l_bo_e, l_bo_ep, l_fc_ar, l_fc_ln, l_fc_ia, l_fc_is, l_fc_e, l_fc_ep, l_pa_ar, l_pa_ln, l_pa_ia, l_pa_e, l_pa_ep, l_pa_e3, l_aga_ar, l_aga_ln, l_aga_ia, l_aga_e, l_ag_ar, l_ag_ln, l_ag_ia, l_ag_is, l_ag_e, l_ag_ep, l_nxa_ar, l_nxa_ln, l_nxa_ia, l_nxa_e, l_nx_ar, l_nx_ln, l_nx_ia, l_nx_is, l_nx_e, l_nx_ep, l_qt_ar, l_qt_ln, l_qt_ia, l_qt_is, l_qt_e, l_qt_ep, l_bn_ar, l_bn_ln, l_bn_ia, l_bn_is, l_bn_e, l_bn_ep, l_rl_ar, l_rl_ln, l_rl_ia, l_rl_e, l_rl_ep, l_rl_e3, l_bxo_ar, l_bxo_ln, l_bxo_ia, l_bxo_e, l_bxi_ar, l_bxi_ln, l_bxi_ia, l_bxi_e, l_bxi_ep, l_bxi_e3, l_gta_ar, l_gta_ln, l_gta_ia, l_gta_e, l_gt_ar, l_gt_ln, l_gt_ia, l_gt_e, l_gt_ep, zvi_int, zvl_long, zvd_double, zvr_ref, zisI_int, zisR_ref, zgI_int, zgR_ref, zkl_int, zkl_ref, zkl_none, zkl_long, zkl_double, zct_nil, zct_int, zct_ref, zct_long, zct_double, zbk_some, zbk_none, zbk_exc, nI_clamp, nI_add, nI_mul, true_and, and_true, Nat.reduceAdd, Nat.reduceMul, Nat.reduceLeDiff, Nat.reducePow, ↓reduceIte, Nat.zero_add, Nat.add_zero, Nat.reduceLT, Nat.reduceEqDiff, Nat.le_refl, zn10, zn01, zfitB0, zfitB1, znarB0, znarB1, Nat.lt_irrefl, ↓zvi_eq, ↓zvr_eq]
          exact ih (j + 1) (by omega)
      rw [e138]
      simp (disch := omega) only [p138_0, p138_1, p138_2, p138_5, p138_6, p138_7, p138_8, p138_11, p138_12, p138_13, p138_16, p138_17, p138_18, p138_19, p138_20, p138_23, p138_24, p138_25, p138_26, p138_29, p138_30, p138_31, p138_32, p138_33, p138_36, p138_38, p138_39, p138_43, p138_44, p138_47, p138_48, p138_49, p138_51, p138_52, p138_53, p138_56, p138_58, p138_59, p138_62, p138_63, p138_66, p138_67, p138_68, p138_70, p138_71, p138_73, p138_74, p138_75, p138_76, p138_77, p138_80, p138_83, p138_84, p138_85, p138_87, p138_89, p138_90, p138_93, p138_96, p138_99, p138_102, p138_103, p138_106, p138_107, p138_108, p138_109, p138_112, p138_113, p138_114, p138_115, p138_118, p138_119, p138_120, p138_123, p138_124, p138_127, p138_128, e1, e2, oI_some, hm0, har, hln, e3, q129, l_dm_ok, l_dm_0, l_dm_1, l_dm_2, l_dm_2p, l_dm_3, l_dm_4, l_dm_4p, l_dm_5, l_dm_6, l_dm_6p, l_dm_7, l_dm_7p, l_dm_8, l_dm_8p, l_dm_9, l_dm_9p, l_dm_10, l_dm_11, l_dm_12, l_dm_13, l_dm_14, l_po_ok, l_po_0, l_po_1, l_po_2, l_po_2p, l_po_3, l_po_3p, l_po_4, l_po_4p, l_po_5, l_po_5p, l_po_6, l_po_6p, l_po_7, l_po_8, l_po_9, l_po_10, l_po_11, l_po_12, l_po_13, l_po_13p, l_po_14, l_po_15, l_po_16, l_po_17, l_po_17p, l_bxa_ar, l_bxa_ln, l_bxa_ia, l_bxa_e, l_lea_ar, l_lea_ln, l_lea_ia, l_lea_e, l_qua_ar, l_qua_ln, l_qua_ia, l_qua_e, l_bo_ar, l_bo_ln, l_bo_ia, l_bo_is, l_bo_e, l_bo_ep, l_fc_ar, l_fc_ln, l_fc_ia, l_fc_is, l_fc_e, l_fc_ep, l_pa_ar, l_pa_ln, l_pa_ia, l_pa_e, l_pa_ep, l_pa_e3, l_aga_ar, l_aga_ln, l_aga_ia, l_aga_e, l_ag_ar, l_ag_ln, l_ag_ia, l_ag_is, l_ag_e, l_ag_ep, l_nxa_ar, l_nxa_ln, l_nxa_ia, l_nxa_e, l_nx_ar, l_nx_ln, l_nx_ia, l_nx_is, l_nx_e, l_nx_ep, l_qt_ar, l_qt_ln, l_qt_ia, l_qt_is, l_qt_e, l_qt_ep, l_bn_ar, l_bn_ln, l_bn_ia, l_bn_is, l_bn_e, l_bn_ep, l_rl_ar, l_rl_ln, l_rl_ia, l_rl_e, l_rl_ep, l_rl_e3, l_bxo_ar, l_bxo_ln, l_bxo_ia, l_bxo_e, l_bxi_ar, l_bxi_ln, l_bxi_ia, l_bxi_e, l_bxi_ep, l_bxi_e3, l_gta_ar, l_gta_ln, l_gta_ia, l_gta_e, l_gt_ar, l_gt_ln, l_gt_ia, l_gt_e, l_gt_ep, zvi_int, zvl_long, zvd_double, zvr_ref, zisI_int, zisR_ref, zgI_int, zgR_ref, zkl_int, zkl_ref, zkl_none, zkl_long, zkl_double, zct_nil, zct_int, zct_ref, zct_long, zct_double, zbk_some, zbk_none, zbk_exc, nI_clamp, nI_add, nI_mul, true_and, and_true, Nat.reduceAdd, Nat.reduceMul, Nat.reduceLeDiff, Nat.reducePow, ↓reduceIte, Nat.zero_add, Nat.add_zero, Nat.reduceLT, Nat.reduceEqDiff, Nat.le_refl, zn10, zn01, zfitB0, zfitB1, znarB0, znarB1, Nat.lt_irrefl, ↓zvi_eq, ↓zvr_eq]
      exact loop k0 0 (by omega)
end ZA
