/-! rows of ints made and filled; folders made and nested (source: wip/p35/src/259.fo.txt, by expand3.py) -/
theorem nwI (E : zEx) (N : Nat) : ∃ E1, eL E E1 ∧ E1.1 = E.1 + 1 ∧ vI E1 (476 + E.1 + 1) N (fun _ => 0) ∧ ∀ x y, znew (zmem x y E) (20, N) (fun _ => zdef 20) = zmem x y E1 :=
  ⟨eN E (20, N) (fun _ => .int 0), eL_new _ _ _, rfl, vI_nw _ _ _ _ (fun _ _ => rfl), fun _ _ => zmem_new⟩
theorem cpI {F : zEx} {a b n N : Nat} {g g' : Nat → Int32} (h : vI F a n g) (h' : vI F b N g') (sp dp c : Nat) (h1 : sp + c ≤ n) (h2 : dp + c ≤ N) (hb : n < 100000 ∧ N < 100000) : ∃ F', F'.1 = F.1 ∧ (∀ A, eL A F → 476 + A.1 < b → eL A F') ∧ vI F' b N (fun j => if dp ≤ j ∧ j < dp + c then g (sp + (j - dp)) else g' j) ∧ (∀ x y, zacp (zmem x y F) a b (nI sp) (nI dp) (nI c) = True) ∧ ∀ x y, zcopy (zmem x y F) a sp b dp c = zmem x y F' := by
  refine ⟨eC F a sp b dp c, rfl, fun A hA hb => hA.cpy hb, ⟨h'.1, h'.2.1, fun j hj => ?_⟩, fun x y => zacp_I h h' h1 h2 hb, fun x y => zmem_cpy h.1 h'.1⟩
  show (if b = b ∧ dp ≤ j ∧ j < dp + c then F.2.2.1 a (sp + (j - dp)) else F.2.2.1 b j) = Value.int (if dp ≤ j ∧ j < dp + c then g (sp + (j - dp)) else g' j)
  by_cases e : dp ≤ j ∧ j < dp + c
  · rw [if_pos ⟨rfl, e.1, e.2⟩, if_pos e]
    exact h.2.2 _ (by omega)
  · rw [if_neg (fun z => e z.2), if_neg e]
    exact h'.2.2 j hj
theorem ptI {F : zEx} {b N : Nat} {g' : Nat → Int32} (h' : vI F b N g') (j : Nat) (v : Int32) : ∃ F', F'.1 = F.1 ∧ (∀ A, eL A F → 476 + A.1 < b → eL A F') ∧ vI F' b N (fun i => if i = j then v else g' i) ∧ ∀ x y, zput (zmem x y F) b j (.int v) = zmem x y F' :=
  ⟨eP F b j (.int v), rfl, fun A hA hb => hA.put hb, h'.puti, fun x y => zmem_py2 h'.1⟩
theorem vI.cg {E : zEx} {a n : Nat} {g g' : Nat → Int32} (h : vI E a n g) (e : ∀ j, j < n → g' j = g j) : vI E a n g' := ⟨h.1, h.2.1, fun j hj => by rw [e j hj]; exact h.2.2 j hj⟩
theorem xFo_o {y : zSt} {p a b c : Nat} (h : ¬ c = 13) (h' : ¬ c = 14) : xFo y p a b c = y c := (if_neg h).trans (if_neg h')
section ZP
variable {E E' : zEx} {x y y' : zSt} {G : pG} {bl : Nat → Nat → List Nat} {fc nr : Nat → Nat} {n L : Nat} {xs : Nat → Int32}
/-- another row of parents -/
theorem PS.par {p a m : Nat} (hy : ∀ c, ¬ c = 0 → ¬ c = 1 → ¬ c = 2 → ¬ c = 13 → ¬ c = 14 → ¬ c = 15 → ¬ c = 16 → ¬ c = 24 → ¬ c = 25 → y' c = y c) (hq : ∀ q, ¬ q = p → y' 14 q = y 14 q) (r : PS E y G bl fc nr n L xs) (ha : vI E a m (y' 14 p)) (hw : G.1 a = 1 + p) (hm : m ≤ 8) : PS (eR E 1 p 0 a) y' G bl (fun q => if q = p then m else fc q) nr n L xs := by
  obtain ⟨r1, r2, r3, r4, r5, r6⟩ := r
  have h' : ∀ c, (17 ≤ c ∧ c ≤ 23) ∨ 26 ≤ c → y' c = y c := fun c hc => hy c (by omega) (by omega) (by omega) (by omega) (by omega) (by omega) (by omega) (by omega) (by omega)
  refine ⟨fun q g hq hg => ?_, fun q hq' => ?_, fun q hq => ?_, ?_, ?_, r6⟩
  · rw [eR_o (by omega)]
    exact (pBx.mY (fun c _ _ => h' c (by omega)) r1) q g hq hg
  · dsimp only
    by_cases e : q = p
    · subst e
      rw [if_pos rfl, eR_n]
      exact ⟨ha, hw, hm⟩
    · rw [if_neg e, eR_o (by omega), hq q e]
      exact r2 q hq'
  · rw [eR_o (by omega)]
    exact (pRu.mY (fun c _ _ => h' c (by omega)) r3) q hq
  · have := pSe.mY (fun c _ _ => h' c (by omega)) r4
    unfold pSe at this ⊢
    rw [eR_o (by omega)]; exact this
  · unfold pLa
    rw [eR_o (by omega)]; exact r5
end ZP
section ZA
variable {E : zEx} {x y : zSt} {k s : Nat}
theorem t118 (h : pI k s x y E) (hk : k ≤ 100) : zcl 118 [.ref 1] (zmem x y E) (pO (k + 1) s) := by
  obtain ⟨d, b, n, qn, t, w, l, fc, nr, G, bl, L, xs, hG, hP, hB, hy, ⟨hd, hn, ht, hb, hpx⟩, hX⟩ := h
  have hS := hP.2.2.2.2.2
  rw [← yD_id hy]
  obtain ⟨p, hp, e1⟩ := cD (d := d) (n := 4) hS (by omega) (by omega) (by omega)
  obtain ⟨hpa, hpt, hp8⟩ := hP.2.1 p hp
  have hf2 := (hG.2.1 p hp).2.1
  have har := fun x y => hpa.ar (x := x) (y := y)
  have hln := fun x y => hpa.ln (x := x) (y := y)
  by_cases h8 : fc p = 8
  · rw [e118]
    simp (disch := omega) only [p118_0, p118_1, p118_2, p118_5, p118_6, p118_7, p118_10, p118_11, p118_12, p118_13, p118_14, p118_15, p118_17, p118_20, p118_21, p118_22, p118_23, p118_24, p118_27, p118_28, p118_29, p118_30, p118_33, p118_34, p118_35, p118_36, p118_37, p118_38, p118_40, p118_42, p118_43, p118_46, p118_47, p118_48, p118_49, p118_51, p118_52, p118_53, p118_56, p118_58, p118_59, p118_60, p118_61, p118_62, p118_65, p118_66, p118_68, p118_69, p118_70, p118_73, p118_74, p118_75, p118_78, p118_79, p118_82, p118_83, p118_86, p118_87, e1, har, hln, h8, yD_rd, yD_su, l_dm_ok, l_dm_0, l_dm_1, l_dm_2, l_dm_2p, l_dm_3, l_dm_4, l_dm_4p, l_dm_5, l_dm_6, l_dm_6p, l_dm_7, l_dm_7p, l_dm_8, l_dm_8p, l_dm_9, l_dm_9p, l_dm_10, l_dm_11, l_dm_12, l_dm_13, l_dm_14, l_po_ok, l_po_0, l_po_1, l_po_2, l_po_2p, l_po_3, l_po_3p, l_po_4, l_po_4p, l_po_5, l_po_5p, l_po_6, l_po_6p, l_po_7, l_po_8, l_po_9, l_po_10, l_po_11, l_po_12, l_po_13, l_po_13p, l_po_14, l_po_15, l_po_16, l_po_17, l_po_17p, l_bxa_ar, l_bxa_ln, l_bxa_ia, l_bxa_e, l_lea_ar, l_lea_ln, l_lea_ia, l_lea_e, l_qua_ar, l_qua_ln, l_qua_ia, l_qua_e, l_bo_ar, l_bo_ln, l_bo_ia, l_bo_is, l_bo_e, l_bo_ep, l_fc_ar, l_fc_ln, l_fc_ia, l_fc_is, l_fc_e, l_fc_ep, l_pa_ar, l_pa_ln, l_pa_ia, l_pa_e, l_pa_ep, l_pa_e3, l_aga_ar, l_aga_ln, l_aga_ia, l_aga_e, l_ag_ar, l_ag_ln, l_ag_ia, l_ag_is, l_ag_e, l_ag_ep, l_nxa_ar, l_nxa_ln, l_nxa_ia, l_nxa_e, l_nx_ar, l_nx_ln, l_nx_ia, l_nx_is, l_nx_e, l_nx_ep, l_qt_ar, l_qt_ln, l_qt_ia, l_qt_is, l_qt_e, l_qt_ep, l_bn_ar, l_bn_ln, l_bn_ia, l_bn_is, l_bn_e, l_bn_ep, l_rl_ar, l_rl_ln, l_rl_ia, l_rl_e, l_rl_ep, l_rl_e3, l_bxo_ar, l_bxo_ln, l_bxo_ia, l_bxo_e, l_bxi_ar, l_bxi_ln, l_bxi_ia, l_bxi_e, l_bxi_ep, l_bxi_e3, l_gta_ar, l_gta_ln, l_gta_ia, l_gta_e, l_gt_ar, l_gt_ln, l_gt_ia, l_gt_e, l_gt_ep, zvi_int, zvl_long, zvd_double, zvr_ref, zisI_int, zisR_ref, zgI_int, zgR_ref, zkl_int, zkl_ref, zkl_none, zkl_long, zkl_double, zct_nil, zct_int, zct_ref, zct_long, zct_double, zbk_some, zbk_none, zbk_exc, nI_clamp, nI_add, nI_mul, true_and, and_true, Nat.reduceAdd, Nat.reduceMul, Nat.reduceLeDiff, Nat.reducePow, ↓reduceIte, Nat.zero_add, Nat.add_zero, Nat.reduceLT, Nat.reduceEqDiff, Nat.le_refl, zn10, zn01, zfitB0, zfitB1, znarB0, znarB1, Nat.lt_irrefl, ↓zvi_eq, ↓zvr_eq]
    exact ⟨rfl, _, _, _, rfl, pI_mk hG hP hB (by omega) hn hpx (by omega) (by omega) (iX_eq (x := x) (by omega) rfl (fun c h1 h2 => rfl) hX)⟩
  obtain ⟨f, hf, e2⟩ := cD (d := d + 1) (n := fc p) hS (by omega) (by omega) (by omega)
  obtain ⟨E1, k1, n1, v1, w1⟩ := nwI E (fc p + 1)
  obtain ⟨E2, n2, k2, v2, a2, w2⟩ := cpI (k1.I hpa) v1 0 0 (fc p) (by omega) (by omega) (by omega)
  have K2 := k2 E k1 (by omega)
  have h8' : ¬ nI (fc p) = nI 8 := by rw [nI_eq (by omega) (by omega)]; exact h8
  have main : ∀ g, g < fc p → ¬ g = 1 → zwp zm_118 (35, [some (Value.ref 1), some (Value.int (nI p)), some (Value.int (nI (fc p))), some (Value.int (nI g)), none], [], zmem x (yD y (d + 1 + 1)) E, 0, 0) (pO (k + 1) s) := by
    intro g hg hg1
    obtain ⟨E3, n3, k3, v3, w3⟩ := ptI v2 (fc p) (nI g)
    have K3 := k3 E K2 (by omega)
    have e14 : y 14 = x 14 := iRl_sh hG.2.2.2.2.2 (iSh_a (by omega) (by omega))
    have e13 : y 13 = x 13 := iRl_sh hG.2.2.2.2.2 (iSh_a (by omega) (by omega))
    have i3 := fun x y => v2.ia (x := x) (y := y) (j := fc p) (by omega)
    have i4 := fun x y => l_pa_e3 (x := x) (y := y) hp v3.1 (by rw [v3.2.1])
    have hK := fun (Q : zO → zM → Prop) (Y : zSt) (F : zEx) => a41 (f := g) (Q := Q) (Y := Y) (E := F) hG hp hg hg1 (by omega)
    have hp1 : (0 : Int32) ≤ nI (fc p + 1) := nI_pos' (by omega)
    have hle : fc p ≤ 999999 ∧ fc p ≤ 31 := by omega
    simp (disch := omega) only [p118_0, p118_1, p118_2, p118_5, p118_6, p118_7, p118_10, p118_11, p118_12, p118_13, p118_14, p118_15, p118_17, p118_20, p118_21, p118_22, p118_23, p118_24, p118_27, p118_28, p118_29, p118_30, p118_33, p118_34, p118_35, p118_36, p118_37, p118_38, p118_40, p118_42, p118_43, p118_46, p118_47, p118_48, p118_49, p118_51, p118_52, p118_53, p118_56, p118_58, p118_59, p118_60, p118_61, p118_62, p118_65, p118_66, p118_68, p118_69, p118_70, p118_73, p118_74, p118_75, p118_78, p118_79, p118_82, p118_83, p118_86, p118_87, har, hln, h8, w1, a2, w2, zmem_c, i3, w3, i4, hK, hp1, k1.2.1, K2.2.1, K3.2.1, l_dm_ok, l_dm_0, l_dm_1, l_dm_2, l_dm_2p, l_dm_3, l_dm_4, l_dm_4p, l_dm_5, l_dm_6, l_dm_6p, l_dm_7, l_dm_7p, l_dm_8, l_dm_8p, l_dm_9, l_dm_9p, l_dm_10, l_dm_11, l_dm_12, l_dm_13, l_dm_14, l_po_ok, l_po_0, l_po_1, l_po_2, l_po_2p, l_po_3, l_po_3p, l_po_4, l_po_4p, l_po_5, l_po_5p, l_po_6, l_po_6p, l_po_7, l_po_8, l_po_9, l_po_10, l_po_11, l_po_12, l_po_13, l_po_13p, l_po_14, l_po_15, l_po_16, l_po_17, l_po_17p, l_bxa_ar, l_bxa_ln, l_bxa_ia, l_bxa_e, l_lea_ar, l_lea_ln, l_lea_ia, l_lea_e, l_qua_ar, l_qua_ln, l_qua_ia, l_qua_e, l_bo_ar, l_bo_ln, l_bo_ia, l_bo_is, l_bo_e, l_bo_ep, l_fc_ar, l_fc_ln, l_fc_ia, l_fc_is, l_fc_e, l_fc_ep, l_pa_ar, l_pa_ln, l_pa_ia, l_pa_e, l_pa_ep, l_pa_e3, l_aga_ar, l_aga_ln, l_aga_ia, l_aga_e, l_ag_ar, l_ag_ln, l_ag_ia, l_ag_is, l_ag_e, l_ag_ep, l_nxa_ar, l_nxa_ln, l_nxa_ia, l_nxa_e, l_nx_ar, l_nx_ln, l_nx_ia, l_nx_is, l_nx_e, l_nx_ep, l_qt_ar, l_qt_ln, l_qt_ia, l_qt_is, l_qt_e, l_qt_ep, l_bn_ar, l_bn_ln, l_bn_ia, l_bn_is, l_bn_e, l_bn_ep, l_rl_ar, l_rl_ln, l_rl_ia, l_rl_e, l_rl_ep, l_rl_e3, l_bxo_ar, l_bxo_ln, l_bxo_ia, l_bxo_e, l_bxi_ar, l_bxi_ln, l_bxi_ia, l_bxi_e, l_bxi_ep, l_bxi_e3, l_gta_ar, l_gta_ln, l_gta_ia, l_gta_e, l_gt_ar, l_gt_ln, l_gt_ia, l_gt_e, l_gt_ep, zvi_int, zvl_long, zvd_double, zvr_ref, zisI_int, zisR_ref, zgI_int, zgR_ref, zkl_int, zkl_ref, zkl_none, zkl_long, zkl_double, zct_nil, zct_int, zct_ref, zct_long, zct_double, zbk_some, zbk_none, zbk_exc, nI_clamp, nI_add, nI_mul, true_and, and_true, Nat.reduceAdd, Nat.reduceMul, Nat.reduceLeDiff, Nat.reducePow, ↓reduceIte, Nat.zero_add, Nat.add_zero, Nat.reduceLT, Nat.reduceEqDiff, Nat.le_refl, zn10, zn01, zfitB0, zfitB1, znarB0, znarB1, Nat.lt_irrefl, ↓zvi_eq, ↓zvr_eq]
    have hgh : zmem (xFo x p (fc p) g) (yD (xFo y p (fc p) g) (d + 1 + 1)) (eR E3 1 p 0 (476 + E.1 + 1)) = zmem (xFo x p (fc p) g) (yD y (d + 1 + 1)) (eR E3 1 p 0 (476 + E.1 + 1)) := by
      refine zmem_gh (fun c q i hc => ?_)
      have hno : ¬ ((c = 14 ∨ (17 ≤ c ∧ c ≤ 23) ∨ (25 ≤ c ∧ c ≤ 100)) ∨ (c = 0 ∧ i = 2) ∨ (c = 13 ∧ ¬ i = 5)) := fun h => gS_no (c := c) (i := i) h hc
      by_cases c2 : c = 2
      · subst c2; rfl
      · rw [yD_rd c2, yD_rd c2]
        show (if c = 13 then u2 (y 13) p 1 (nI (fc p + 1)) else if c = 14 then u2 (y 14) p (fc p) (nI g) else y c) q i = y c q i
        by_cases c13 : c = 13
        · subst c13
          rw [if_pos rfl, u2_eq, if_neg (by omega)]
        · rw [if_neg c13, if_neg (by omega)]
    have hg14 : ∀ q i, xFo y p (fc p) g 14 q i = if q = p ∧ i = fc p then nI g else y 14 q i := fun q i => rfl
    refine ⟨by omega, by omega, by omega, rfl, _, _, _, hgh.symm, pI_mk (G := (tU G.1 (476 + E.1 + 1) (1 + p), G.2)) (g41 hG hp hg (by omega)) ((((hP.mW (a := 476 + E.1 + 1) (v := 1 + p) (by omega)).mL K3)).par (fun c _ _ _ h13 h14 _ _ _ _ => xFo_o h13 h14) (fun q hq => ?_) (v3.cg ?_) tU_n (by omega)) (BL_eq rfl rfl hB) (by omega) hn ⟨hpx.1, hpx.2.1, hpx.2.2.1, fun q hq => ⟨(if_neg (fun z => by have := z.2; omega)).trans (hpx.2.2.2 q hq).1, (if_neg (fun z => by have := z.2; omega)).trans (hpx.2.2.2 q hq).2⟩⟩ (by omega) (by omega) (iX_eq (x := x) (by omega) rfl (fun c h1 h2 => xFo_o (by omega) (by omega)) hX)⟩
    · funext i
      rw [hg14, if_neg (fun z => hq z.1)]
    · intro j hj
      rw [hg14]
      by_cases ej : j = fc p
      · rw [if_pos ⟨rfl, ej⟩, if_pos ej]
      · rw [if_neg (fun z => ej z.2), if_neg ej, if_pos (by omega), show 0 + (j - 0) = j by omega]
  rw [e118]
  simp (disch := omega) only [p118_0, p118_1, p118_2, p118_5, p118_6, p118_7, p118_10, p118_11, p118_12, p118_13, p118_14, p118_15, p118_17, p118_20, p118_21, p118_22, p118_23, p118_24, p118_27, p118_28, p118_29, p118_30, p118_33, p118_34, p118_36, p118_37, p118_38, p118_40, p118_42, p118_43, p118_46, p118_47, p118_48, p118_49, p118_51, p118_52, p118_53, p118_56, p118_58, p118_59, p118_60, p118_61, p118_62, p118_65, p118_66, p118_68, p118_69, p118_70, p118_73, p118_74, p118_75, p118_78, p118_79, p118_82, p118_83, p118_86, p118_87, e1, e2, har, hln, h8, yD_rd, yD_su, l_dm_ok, l_dm_0, l_dm_1, l_dm_2, l_dm_2p, l_dm_3, l_dm_4, l_dm_4p, l_dm_5, l_dm_6, l_dm_6p, l_dm_7, l_dm_7p, l_dm_8, l_dm_8p, l_dm_9, l_dm_9p, l_dm_10, l_dm_11, l_dm_12, l_dm_13, l_dm_14, l_po_ok, l_po_0, l_po_1, l_po_2, l_po_2p, l_po_3, l_po_3p, l_po_4, l_po_4p, l_po_5, l_po_5p, l_po_6, l_po_6p, l_po_7, l_po_8, l_po_9, l_po_10, l_po_11, l_po_12, l_po_13, l_po_13p, l_po_14, l_po_15, l_po_16, l_po_17, l_po_17p, l_bxa_ar, l_bxa_ln, l_bxa_ia, l_bxa_e, l_lea_ar, l_lea_ln, l_lea_ia, l_lea_e, l_qua_ar, l_qua_ln, l_qua_ia, l_qua_e, l_bo_ar, l_bo_ln, l_bo_ia, l_bo_is, l_bo_e, l_bo_ep, l_fc_ar, l_fc_ln, l_fc_ia, l_fc_is, l_fc_e, l_fc_ep, l_pa_ar, l_pa_ln, l_pa_ia, l_pa_e, l_pa_ep, l_pa_e3, l_aga_ar, l_aga_ln, l_aga_ia, l_aga_e, l_ag_ar, l_ag_ln, l_ag_ia, l_ag_is, l_ag_e, l_ag_ep, l_nxa_ar, l_nxa_ln, l_nxa_ia, l_nxa_e, l_nx_ar, l_nx_ln, l_nx_ia, l_nx_is, l_nx_e, l_nx_ep, l_qt_ar, l_qt_ln, l_qt_ia, l_qt_is, l_qt_e, l_qt_ep, l_bn_ar, l_bn_ln, l_bn_ia, l_bn_is, l_bn_e, l_bn_ep, l_rl_ar, l_rl_ln, l_rl_ia, l_rl_e, l_rl_ep, l_rl_e3, l_bxo_ar, l_bxo_ln, l_bxo_ia, l_bxo_e, l_bxi_ar, l_bxi_ln, l_bxi_ia, l_bxi_e, l_bxi_ep, l_bxi_e3, l_gta_ar, l_gta_ln, l_gta_ia, l_gta_e, l_gt_ar, l_gt_ln, l_gt_ia, l_gt_e, l_gt_ep, zvi_int, zvl_long, zvd_double, zvr_ref, zisI_int, zisR_ref, zgI_int, zgR_ref, zkl_int, zkl_ref, zkl_none, zkl_long, zkl_double, zct_nil, zct_int, zct_ref, zct_long, zct_double, zbk_some, zbk_none, zbk_exc, nI_clamp, nI_add, nI_mul, true_and, and_true, Nat.reduceAdd, Nat.reduceMul, Nat.reduceLeDiff, Nat.reducePow, ↓reduceIte, Nat.zero_add, Nat.add_zero, Nat.reduceLT, Nat.reduceEqDiff, Nat.le_refl, zn10, zn01, zfitB0, zfitB1, znarB0, znarB1, Nat.lt_irrefl, ↓zvi_eq, ↓zvr_eq]
  split
  · exact absurd ‹_› h8'
  · split
    · exact main 0 (by omega) (by omega)
    · rename_i h1
      exact main f hf (fun e => h1 (by rw [e]))
end ZA
