/-! a folder emptied (source: wip/p35/src/270.em.txt, by expand3.py) -/
theorem pX_eq {y y' : zSt} {n : Nat} {nr : Nat → Nat} (h1 : y' 18 = y 18) (h2 : y' 19 = y 19) (h3 : y' 32 = y 32) (h4 : y' 24 = y 24) (h5 : y' 14 = y 14) (h : pX y n nr) : pX y' n nr := by
  unfold pX
  rw [h1, h2, h3, h4, h5]
  exact h
section ZB
variable {E : zEx} {x y y' : zSt} {G : pG} {bl bl' : Nat → Nat → List Nat} {fc nr : Nat → Nat} {n L p : Nat} {xs : Nat → Int32}
/-- words that no list holds any more may change -/
theorem PS.gone (h : ∀ c, c = 14 ∨ (17 ≤ c ∧ c ≤ 23) ∨ (30 ≤ c ∧ c ≤ 39) → y' c = y c) (hr : ∀ p f i, p < 4 → f < 8 → i ∈ bl p f → ∀ c, 26 ≤ c → c ≤ 29 → y' c p i = y c p i) (r : PS E y G bl fc nr n L xs) : PS E y' G bl fc nr n L xs := by
  obtain ⟨r1, r2, r3, r4, r5⟩ := r
  refine ⟨fun p f hp hf => ?_, r2.mY (h 14 (by omega)), r3.mY (fun c _ _ => h c (by omega)), r4.mY (fun c _ _ => h c (by omega)), r5⟩
  obtain ⟨a, b, c⟩ := r1 p f hp hf
  exact ⟨a, b, fun i hi => ⟨(c i hi).1, (c i hi).2.mY (hr p f i hp hf hi)⟩⟩
theorem tcnt_filter {P : Nat → Bool} : ∀ n, tcnt P n = ((List.range n).filter P).length
  | 0 => rfl
  | n + 1 => by
    show tcnt P n + (if P n = true then 1 else 0) = _
    rw [List.range_succ, List.filter_append, List.length_append, tcnt_filter n]
    cases h : P n <;> simp [h]
theorem BL.cnt (hB : BL bl n y) (hp : p < 4) {f : Nat} (hf : f < 8) (q : Nat → Bool) : ((bl p f).filter q).length = tcnt (fun i => decide (y 25 p i = nI f) && q i) n := by
  rw [tcnt_filter, ((hB.perm hp hf).filter q).length_eq, List.filter_filter]
  congr 1
  refine List.filter_congr (fun i _ => ?_)
  rw [Bool.and_comm]
theorem zvs_o {S : Nat → Bool} {c : Nat} (h : ¬ (25 ≤ c ∧ c ≤ 28)) : sVs y p S c = y c := by
  funext q k
  show (if q = p ∧ S k = true then (if c = 25 then -1 else if c = 26 ∨ c = 27 ∨ c = 28 then nI 0 else y c q k) else y c q k) = _
  rw [if_neg (show ¬ c = 25 by omega), if_neg (show ¬ (c = 26 ∨ c = 27 ∨ c = 28) by omega)]
  split <;> rfl
theorem zvs_n {S : Nat → Bool} {c q i : Nat} (h : ¬ (q = p ∧ S i = true)) : sVs y p S c q i = y c q i := if_neg h
theorem zvs_25 {S : Nat → Bool} {i : Nat} (h : S i = true) : sVs y p S 25 p i = -1 := by
  show (if p = p ∧ S i = true then (if (25 : Nat) = 25 then -1 else _) else _) = _
  rw [if_pos ⟨rfl, h⟩, if_pos rfl]
/-- the lists behind a clearing of the bin -/
theorem BL.vs (hB : BL bl n y) (hp : p < 4) {S : Nat → Bool} (hS : ∀ i, S i = true → i ∈ bl p 1) : BL (bU bl p 1 ((bl p 1).filter (fun i => !S i))) n (sVs y p S) := by
  intro q g hq hg
  have h6 : ∀ a, ¬ (q = p ∧ S a = true) → sVs y p S 26 q a = y 26 q a := fun a h => zvs_n h
  by_cases e : q = p ∧ g = 1
  · obtain ⟨rfl, rfl⟩ := e
    rw [bU_n]
    refine ⟨fun i => ?_, ?_⟩
    · rw [List.mem_filter, (hB q 1 hq hg).1 i]
      by_cases h : S i = true
      · rw [zvs_25 h, h]
        exact ⟨fun z => (by cases z.2), fun z => absurd z.2.symm (nI_m1 (by omega))⟩
      · rw [zvs_n (fun z => h z.2)]
        have : (!S i) = true := by simpa using h
        exact ⟨fun z => z.1, fun z => ⟨z, this⟩⟩
    · refine (List.Pairwise.filter _ (hB q 1 hq hg).2).imp_of_mem (fun {a b} ha hb h => ?_)
      have ha' : ¬ S a = true := by simpa using (List.mem_filter.mp ha).2
      have hb' : ¬ S b = true := by simpa using (List.mem_filter.mp hb).2
      rw [h6 a (fun z => ha' z.2), h6 b (fun z => hb' z.2)]
      exact h
  · rw [bU_o e]
    have hno : ∀ i, i ∈ bl q g → ¬ (q = p ∧ S i = true) := fun i hi z => by
      obtain ⟨rfl, z⟩ := z
      exact e ⟨rfl, hB.one hq hg (by omega) hi (hS i z)⟩
    refine ⟨fun i => ?_, (hB q g hq hg).2.imp_of_mem (fun {a b} ha hb h => ?_)⟩
    · rw [(hB q g hq hg).1 i]
      by_cases h : q = p ∧ S i = true
      · obtain ⟨rfl, h⟩ := h
        rw [zvs_25 h]
        have h1 := ((hB q 1 hq (by omega)).1 i).mp (hS i h)
        rw [h1.2]
        refine ⟨fun z => absurd ⟨rfl, ((nI_eq (by omega) (by omega)).mp z.2).symm⟩ e, fun z => absurd z.2.symm (nI_m1 (by omega))⟩
      · rw [zvs_n h]
    · rw [h6 a (hno a ha), h6 b (hno b hb)]
      exact h
theorem cG_vs {qn t w l b : Nat} {S : Nat → Bool} (h : cG n qn t w l fc nr b x y) : cG n qn t w l fc nr b (sVs x p (fun i => decide (i < n) && S i)) (sVs y p (fun i => decide (i < n) && S i)) := by
  have key : ∀ k, cG n qn t w l fc nr b (sClr (fun _ i => S i) p k x).1 (sClr (fun _ i => S i) p k y).1 := by
    intro k
    induction k with
    | zero => exact h
    | succ k ih =>
      have e : ∀ z : zSt, sClr (fun _ i => S i) p (k + 1) z = if S k = true then (sVa (sClr (fun _ i => S i) p k z).1 p k, (sClr (fun _ i => S i) p k z).2 + nI 1) else sClr (fun _ i => S i) p k z := fun z => rfl
      rw [e, e]
      by_cases c : S k = true
      · rw [if_pos c, if_pos c]
        exact cG_va ih
      · rw [if_neg c, if_neg c]
        exact ih
  have := key n
  rw [sClr_sVs (fun _ _ _ => rfl), sClr_sVs (fun _ _ _ => rfl)] at this
  exact this
end ZB
section ZA
variable {E : zEx} {x y : zSt} {k s : Nat}
theorem t139 (h : pI k s x y E) (hk : k ≤ 100) (hs : s ≤ 25) : zcl 139 [.ref 1] (zmem x y E) (pO (k + 1) s) := by
  obtain ⟨d, b, n, qn, t, w, l, fc, nr, G, bl, L, xs, hG, hP, hB, hy, ⟨hd, hn, ht, hb, hpx⟩, hX⟩ := h
  have hS := hP.2.2.2.2.2
  rw [← yD_id hy]
  obtain ⟨p, hp, e1⟩ := cD (d := d) (n := 4) hS (by omega) (by omega) (by omega)
  obtain ⟨hpa, hpt, hp8⟩ := hP.2.1 p hp
  obtain ⟨⟨hc1, hc8, hF, hK, hM⟩, hc2, hN, hC⟩ := id (hG.2.1 p hp)
  obtain ⟨f, hf, e2⟩ := cD (d := d + 1) (n := fc p) hS (by omega) (by omega) (by omega)
  obtain ⟨e25, e26, e16, e0, e27, e24, -⟩ := cG_25 hG
  have har := fun x y => hpa.ar (x := x) (y := y)
  have hln := fun x y => hpa.ln (x := x) (y := y)
  have hr := hP.row hp (show f < 8 by omega)
  have har2 := fun x y => hr.ar (x := x) (y := y) (Or.inl rfl)
  have hln2 := fun x y => hr.ln (x := x) (y := y)
  have hlen := hB.len hp (show f < 8 by omega)
  by_cases e : f = 1
  · subst e
    have hK' := fun (Q : zO → zM → Prop) (Y : zSt) (F : zEx) => a54b (Q := Q) (Y := Y) (E := F) hG hp
    have hc := fun z : zSt => sClr_sVs (h := fun x i => decide (x 25 p i = nI 1)) (x := z) (p := p) (fun S i hi => by
      rw [zvs_n (fun q => by rw [hi] at q; cases q.2)]) n
    rw [hc x] at hK'
    have hcn : ((bl p 1)).length = tcnt (fun i => decide (x 25 p i = nI 1)) n := by
      have := hB.cnt hp (show 1 < 8 by omega) (fun _ => true)
      rw [List.filter_eq_self.mpr (fun _ _ => rfl)] at this
      rw [this, e25]
      congr 1
      funext i
      rw [Bool.and_true]
    dsimp only at hK'
    rw [← hcn] at hK'
    obtain ⟨E1, hE1⟩ : ∃ E1, E1 = eN E (40, 0) (fun _ => .null) := ⟨_, rfl⟩
    have k1 : eL E E1 := by rw [hE1]; exact eL_new _ _ _
    have v1 : vR E1 (476 + E.1 + 1) 40 0 (fun _ => 0) := by
      rw [hE1]
      exact vR_nw _ _ _ _ (fun j hj => absurd hj (Nat.not_lt_zero _))
    have w1 : ∀ x y, znew (zmem x y E) (40, 0) (fun _ => .null) = zmem x y E1 := fun x y => by rw [hE1]; exact zmem_new
    have i8 := fun x y => l_bxi_e3 (x := x) (y := y) hp (show 1 < 8 by omega) v1.1 (by rw [v1.2.1])
    have v2 := v1.refs (c := 3) (p := p) (i := 1) (v := 476 + E.1 + 1)
    have har3 := fun x y => v2.ar (x := x) (y := y) (Or.inl rfl)
    have hln3 := fun x y => v2.ln (x := x) (y := y)
    have p0 : (0 : Int32) ≤ nI 0 := by decide
    rw [e139]
    simp (disch := omega) only [p139_0, p139_1, p139_2, p139_5, p139_6, p139_7, p139_8, p139_11, p139_12, p139_13, p139_14, p139_17, p139_18, p139_19, p139_22, p139_23, p139_24, p139_25, p139_26, p139_27, p139_28, p139_29, p139_30, p139_33, p139_34, p139_37, p139_38, p139_39, p139_40, p139_41, p139_44, p139_45, p139_46, p139_49, p139_50, p139_51, p139_52, p139_53, p139_54, p139_57, p139_58, p139_59, p139_60, p139_61, p139_62, p139_65, p139_68, p139_69, p139_72, p139_73, p139_74, p139_77, p139_78, p139_81, p139_82, p139_85, p139_86, e1, e2, har, hln, har2, hln2, nI_ltI, w1, i8, eR_n, har3, hln3, Nat.lt_irrefl, hK', p0, zmem_c, l_dm_ok, l_dm_0, l_dm_1, l_dm_2, l_dm_2p, l_dm_3, l_dm_4, l_dm_4p, l_dm_5, l_dm_6, l_dm_6p, l_dm_7, l_dm_7p, l_dm_8, l_dm_8p, l_dm_9, l_dm_9p, l_dm_10, l_dm_11, l_dm_12, l_dm_13, l_dm_14, l_po_ok, l_po_0, l_po_1, l_po_2, l_po_2p, l_po_3, l_po_3p, l_po_4, l_po_4p, l_po_5, l_po_5p, l_po_6, l_po_6p, l_po_7, l_po_8, l_po_9, l_po_10, l_po_11, l_po_12, l_po_13, l_po_13p, l_po_14, l_po_15, l_po_16, l_po_17, l_po_17p, l_bxa_ar, l_bxa_ln, l_bxa_ia, l_bxa_e, l_lea_ar, l_lea_ln, l_lea_ia, l_lea_e, l_qua_ar, l_qua_ln, l_qua_ia, l_qua_e, l_bo_ar, l_bo_ln, l_bo_ia, l_bo_is, l_bo_e, l_bo_ep, l_fc_ar, l_fc_ln, l_fc_ia, l_fc_is, l_fc_e, l_fc_ep, l_pa_ar, l_pa_ln, l_pa_ia, l_pa_e, l_pa_ep, l_pa_e3, l_aga_ar, l_aga_ln, l_aga_ia, l_aga_e, l_ag_ar, l_ag_ln, l_ag_ia, l_ag_is, l_ag_e, l_ag_ep, l_nxa_ar, l_nxa_ln, l_nxa_ia, l_nxa_e, l_nx_ar, l_nx_ln, l_nx_ia, l_nx_is, l_nx_e, l_nx_ep, l_qt_ar, l_qt_ln, l_qt_ia, l_qt_is, l_qt_e, l_qt_ep, l_bn_ar, l_bn_ln, l_bn_ia, l_bn_is, l_bn_e, l_bn_ep, l_rl_ar, l_rl_ln, l_rl_ia, l_rl_e, l_rl_ep, l_rl_e3, l_bxo_ar, l_bxo_ln, l_bxo_ia, l_bxo_e, l_bxi_ar, l_bxi_ln, l_bxi_ia, l_bxi_e, l_bxi_ep, l_bxi_e3, l_gta_ar, l_gta_ln, l_gta_ia, l_gta_e, l_gt_ar, l_gt_ln, l_gt_ia, l_gt_e, l_gt_ep, zvi_int, zvl_long, zvd_double, zvr_ref, zisI_int, zisR_ref, zgI_int, zgR_ref, zkl_int, zkl_ref, zkl_none, zkl_long, zkl_double, zct_nil, zct_int, zct_ref, zct_long, zct_double, zbk_some, zbk_none, zbk_exc, nI_clamp, nI_add, nI_mul, true_and, and_true, Nat.reduceAdd, Nat.reduceMul, Nat.reduceLeDiff, Nat.reducePow, ↓reduceIte, Nat.zero_add, Nat.add_zero, Nat.reduceLT, Nat.reduceEqDiff, Nat.le_refl, zn10, zn01, zfitB0, zfitB1, znarB0, znarB1, Nat.lt_irrefl, ↓zvi_eq, ↓zvr_eq]
    obtain ⟨S, hSd⟩ : ∃ S, S = fun i => decide (i < n) && decide (x 25 p i = nI 1) := ⟨_, rfl⟩
    have hS1 : ∀ i, S i = true → i ∈ bl p 1 := fun i h => by
      rw [hSd] at h
      rw [(hB p 1 hp (by omega)).1 i, e25]
      simpa using h
    have hS2 : ∀ i, i ∈ bl p 1 → S i = true := fun i h => by
      rw [(hB p 1 hp (by omega)).1 i, e25] at h
      rw [hSd]
      simpa using h
    have hl : (bl p 1).filter (fun i => !S i) = [] := by
      rw [List.filter_eq_nil_iff]
      intro a ha
      rw [hS2 a ha]
      decide
    have hg := cG_vs (p := p) (S := fun i => decide (x 25 p i = nI 1)) hG
    rw [← hSd] at hg ⊢
    have hB' := hB.vs hp hS1
    have hP' := ((hP.mW (a := 476 + E.1 + 1) (v := 0) (by omega)).mL k1).box (p := p) (f := 1) (a := 476 + E.1 + 1) (l := (bl p 1).filter (fun i => !S i)) (by
      rw [hl]
      exact ⟨v1.1, v1.2.1, fun j hj => absurd hj (Nat.not_lt_zero _)⟩) tU_n (fun i hi => by rw [hl] at hi; cases hi)
    refine ⟨rfl, sVs x p S, yD (sVs y p S) (d + 1 + 1), _, gh_of (fun c q i hno => ?_), pI_mk hg (hP'.gone (fun c hc => zvs_o (by omega)) (fun q g i hq hgq hi c h1 h2 => zvs_n (fun z => ?_))) hB' (by omega) hn (pX_eq (zvs_o (by omega)) (zvs_o (by omega)) (zvs_o (by omega)) (zvs_o (by omega)) (zvs_o (by omega)) hpx) (by omega) (by omega) (iX_iff.mpr (iXb_le (iXb_vs (iX_iff.mp hX)) (by omega)))⟩
    · rw [zvs_o (by omega)]
    · obtain ⟨rfl, z⟩ := z
      by_cases e : g = 1
      · subst e
        rw [bU_n, hl] at hi
        cases hi
      · rw [bU_o (fun h => e h.2)] at hi
        exact e (hB.one hq hgq (by omega) hi (hS1 i z))
  · obtain ⟨w1, w2, w3, w4⟩ := hB.walk hG (by omega) hp (show f < 8 by omega)
    have hw := sWk_list (step := fun x i => sLay x p i 1) e (show f < 8 by omega) (fun x i => Or.inr rfl) (bl p f) 60 x (nI 0) (by omega) w1 w2 w3
    have hK' := fun (Q : zO → zM → Prop) (Y : zSt) (F : zEx) => a54a (Q := Q) (Y := Y) (E := F) hG hp hf e
    rw [hw] at hK'
    obtain ⟨XF, hXF⟩ : ∃ XF, XF = (bl p f).foldl (fun x i => sLay x p i 1) x := ⟨_, rfl⟩
    rw [← hXF] at hK'
    obtain ⟨N, hN0⟩ : ∃ N, N = (bl p f).length := ⟨_, rfl⟩
    have loop : ∀ (l0 : List Nat) (bl' : Nat → Nat → List Nat) (E' : zEx) (G' : pG) (X y' : zSt) (c : Nat), bl' p f = l0 → l0.length + c ≤ 25 → PS E' y' G' bl' fc nr n L xs → BL bl' n y' → cG n qn t w l fc nr (b + c) X y' → pX y' n nr → iXb X (8 * k) → l0.foldl (fun x i => sLay x p i 1) X = XF → zwp zm_139 (45, [some (.ref 1), some (.int (nI p)), some (.int (nI f)), some (.int (nI N))], [], zmem x (yD y' (d + 1 + 1)) E', 3 * c, 56 * c) (pO (k + 1) s) := by
      intro l0
      induction l0 with
      | nil =>
        intro bl' E' G' X y' c h1 h2 hP' hB' hG' hpx' hX' hF'
        have hr' := hP'.row hp (show f < 8 by omega)
        have har3 := fun x y => hr'.ar (x := x) (y := y) (Or.inl rfl)
        have hln3 := fun x y => hr'.ln (x := x) (y := y)
        rw [h1] at hln3
        have hll : ([] : List Nat).length = 0 := rfl
        have hXF' : X = XF := hF'
        have h2c : c ≤ 25 := by rw [hll] at h2; omega
        rw [p139_45]
        simp (disch := omega) only [p139_0, p139_1, p139_2, p139_5, p139_6, p139_7, p139_8, p139_11, p139_12, p139_13, p139_14, p139_17, p139_18, p139_19, p139_22, p139_23, p139_24, p139_25, p139_26, p139_27, p139_28, p139_29, p139_30, p139_33, p139_34, p139_37, p139_38, p139_39, p139_40, p139_41, p139_44, p139_46, p139_49, p139_50, p139_51, p139_52, p139_53, p139_54, p139_57, p139_58, p139_59, p139_60, p139_61, p139_62, p139_65, p139_68, p139_69, p139_72, p139_73, p139_74, p139_77, p139_78, p139_81, p139_82, p139_85, p139_86, har3, hln3, hll, Nat.lt_irrefl, hK', hN0, l_dm_ok, l_dm_0, l_dm_1, l_dm_2, l_dm_2p, l_dm_3, l_dm_4, l_dm_4p, l_dm_5, l_dm_6, l_dm_6p, l_dm_7, l_dm_7p, l_dm_8, l_dm_8p, l_dm_9, l_dm_9p, l_dm_10, l_dm_11, l_dm_12, l_dm_13, l_dm_14, l_po_ok, l_po_0, l_po_1, l_po_2, l_po_2p, l_po_3, l_po_3p, l_po_4, l_po_4p, l_po_5, l_po_5p, l_po_6, l_po_6p, l_po_7, l_po_8, l_po_9, l_po_10, l_po_11, l_po_12, l_po_13, l_po_13p, l_po_14, l_po_15, l_po_16, l_po_17, l_po_17p, l_bxa_ar, l_bxa_ln, l_bxa_ia, l_bxa_e, l_lea_ar, l_lea_ln, l_lea_ia, l_lea_e, l_qua_ar, l_qua_ln, l_qua_ia, l_qua_e, l_bo_ar, l_bo_ln, l_bo_ia, l_bo_is, l_bo_e, l_bo_ep, l_fc_ar, l_fc_ln, l_fc_ia, l_fc_is, l_fc_e, l_fc_ep, l_pa_ar, l_pa_ln, l_pa_ia, l_pa_e, l_pa_ep, l_pa_e3, l_aga_ar, l_aga_ln, l_aga_ia, l_aga_e, l_ag_ar, l_ag_ln, l_ag_ia, l_ag_is, l_ag_e, l_ag_ep, l_nxa_ar, l_nxa_ln, l_nxa_ia, l_nxa_e, l_nx_ar, l_nx_ln, l_nx_ia, l_nx_is, l_nx_e, l_nx_ep, l_qt_ar, l_qt_ln, l_qt_ia, l_qt_is, l_qt_e, l_qt_ep, l_bn_ar, l_bn_ln, l_bn_ia, l_bn_is, l_bn_e, l_bn_ep, l_rl_ar, l_rl_ln, l_rl_ia, l_rl_e, l_rl_ep, l_rl_e3, l_bxo_ar, l_bxo_ln, l_bxo_ia, l_bxo_e, l_bxi_ar, l_bxi_ln, l_bxi_ia, l_bxi_e, l_bxi_ep, l_bxi_e3, l_gta_ar, l_gta_ln, l_gta_ia, l_gta_e, l_gt_ar, l_gt_ln, l_gt_ia, l_gt_e, l_gt_ep, zvi_int, zvl_long, zvd_double, zvr_ref, zisI_int, zisR_ref, zgI_int, zgR_ref, zkl_int, zkl_ref, zkl_none, zkl_long, zkl_double, zct_nil, zct_int, zct_ref, zct_long, zct_double, zbk_some, zbk_none, zbk_exc, nI_clamp, nI_add, nI_mul, true_and, and_true, Nat.reduceAdd, Nat.reduceMul, Nat.reduceLeDiff, Nat.reducePow, ↓reduceIte, Nat.zero_add, Nat.add_zero, Nat.reduceLT, Nat.reduceEqDiff, Nat.le_refl, zn10, zn01, zfitB0, zfitB1, znarB0, znarB1, Nat.lt_irrefl, ↓zvi_eq, ↓zvr_eq]
        rw [← hXF']
        exact ⟨by omega, by omega, rfl, _, _, _, rfl, pI_mk hG' hP' hB' (by omega) hn hpx' (by omega) (by omega) (iX_iff.mpr (iXb_le hX' (by omega)))⟩
      | cons a l1 ih =>
        intro bl' E' G' X y' c h1 h2 hP' hB' hG' hpx' hX' hF'
        have hr' := hP'.row hp (show f < 8 by omega)
        have har3 := fun x y => hr'.ar (x := x) (y := y) (Or.inl rfl)
        have hln3 := fun x y => hr'.ln (x := x) (y := y)
        have hlc : (a :: l1).length = l1.length + 1 := rfl
        have ham : a ∈ bl' p f := by rw [h1]; exact List.mem_cons.mpr (Or.inl rfl)
        have hmf := ((hB' p f hp (by omega)).1 a).mp ham
        obtain ⟨e25', e26', e16', e0', e27', e24', -⟩ := cG_25 hG'
        have hnum := cG_num hG' hB' (by omega) hp (show 1 < 8 by omega)
        have hB'' := hB'.mv hp (show f < 8 by omega) (show 1 < 8 by omega) e ham hnum
        have hl' := hB''.len hp (show 1 < 8 by omega)
        rw [bM_to, List.length_append] at hl'
        have hl2 : (bl' p 1).length < 25 := by
          have : ([a] : List Nat).length = 1 := rfl
          omega
        have hk0 : 0 < (bl' p f).length := by rw [h1, hlc]; omega
        have ea : (bl' p f).getD 0 0 = a := by rw [h1]; rfl
        obtain ⟨E2, G2, hP2, w5⟩ := c132 hP' hB' hp (show f < 8 by omega) (show 1 < 8 by omega) e hk0 hl2 (by omega)
        rw [ea] at hP2 w5
        have hg := cG_lay (by omega) hp hmf.1 (show 1 < fc p by omega) hG'
        have hkm : ¬ X 25 p a = -1 := by rw [← e25', hmf.2]; exact nI_m1 (by omega)
        have hkb : ¬ X 25 p a = nI 1 := by rw [← e25', hmf.2]; exact fun z => e ((nI_eq (by omega) (by omega)).mp z)
        have h24 : X 24 p a = nI 1 := by
          obtain ⟨S, st, a1, b1, c1⟩ := hX'
          rcases c1 p a hp (by omega) with z | z
          · exact absurd z.1 hkm
          · exact z.2.1
        have hX2 := (iXb_lay hX' hp (show a < 60 by omega) (show 1 < 8 by omega) (by omega) h24).2 rfl hkm hkb
        have hnd := hB'.nodup hp (show f < 8 by omega)
        rw [h1] at hnd
        have hl1 : bM bl' p f a 1 p f = l1 := by
          rw [bM_f e, h1]
          have hna := (List.nodup_cons.mp hnd).1
          have : lw (a :: l1) a = lw l1 a := by
            unfold lw
            rw [List.filter_cons_of_neg]
            simp
          rw [this, lw_no hna]
        have hgo := ih _ E2 G2 _ _ (c + 1) hl1 (by rw [hlc] at h2; omega) hP2 hB'' hg hpx' hX2 hF'
        rw [hlc] at h2
        have hlen0 : (nI 0 < nI (bl' p f).length) = True := eq_true (nI_lt hk0 (by have := hB'.len hp (show f < 8 by omega); omega))
        rw [p139_45]
        simp (disch := omega) only [p139_0, p139_1, p139_2, p139_5, p139_6, p139_7, p139_8, p139_11, p139_12, p139_13, p139_14, p139_17, p139_18, p139_19, p139_22, p139_23, p139_24, p139_25, p139_26, p139_27, p139_28, p139_29, p139_30, p139_33, p139_34, p139_37, p139_38, p139_39, p139_40, p139_41, p139_44, p139_46, p139_49, p139_50, p139_51, p139_52, p139_53, p139_54, p139_57, p139_58, p139_59, p139_60, p139_61, p139_62, p139_65, p139_68, p139_69, p139_72, p139_73, p139_74, p139_77, p139_78, p139_81, p139_82, p139_85, p139_86, har3, hln3, hlen0, w5, l_dm_ok, l_dm_0, l_dm_1, l_dm_2, l_dm_2p, l_dm_3, l_dm_4, l_dm_4p, l_dm_5, l_dm_6, l_dm_6p, l_dm_7, l_dm_7p, l_dm_8, l_dm_8p, l_dm_9, l_dm_9p, l_dm_10, l_dm_11, l_dm_12, l_dm_13, l_dm_14, l_po_ok, l_po_0, l_po_1, l_po_2, l_po_2p, l_po_3, l_po_3p, l_po_4, l_po_4p, l_po_5, l_po_5p, l_po_6, l_po_6p, l_po_7, l_po_8, l_po_9, l_po_10, l_po_11, l_po_12, l_po_13, l_po_13p, l_po_14, l_po_15, l_po_16, l_po_17, l_po_17p, l_bxa_ar, l_bxa_ln, l_bxa_ia, l_bxa_e, l_lea_ar, l_lea_ln, l_lea_ia, l_lea_e, l_qua_ar, l_qua_ln, l_qua_ia, l_qua_e, l_bo_ar, l_bo_ln, l_bo_ia, l_bo_is, l_bo_e, l_bo_ep, l_fc_ar, l_fc_ln, l_fc_ia, l_fc_is, l_fc_e, l_fc_ep, l_pa_ar, l_pa_ln, l_pa_ia, l_pa_e, l_pa_ep, l_pa_e3, l_aga_ar, l_aga_ln, l_aga_ia, l_aga_e, l_ag_ar, l_ag_ln, l_ag_ia, l_ag_is, l_ag_e, l_ag_ep, l_nxa_ar, l_nxa_ln, l_nxa_ia, l_nxa_e, l_nx_ar, l_nx_ln, l_nx_ia, l_nx_is, l_nx_e, l_nx_ep, l_qt_ar, l_qt_ln, l_qt_ia, l_qt_is, l_qt_e, l_qt_ep, l_bn_ar, l_bn_ln, l_bn_ia, l_bn_is, l_bn_e, l_bn_ep, l_rl_ar, l_rl_ln, l_rl_ia, l_rl_e, l_rl_ep, l_rl_e3, l_bxo_ar, l_bxo_ln, l_bxo_ia, l_bxo_e, l_bxi_ar, l_bxi_ln, l_bxi_ia, l_bxi_e, l_bxi_ep, l_bxi_e3, l_gta_ar, l_gta_ln, l_gta_ia, l_gta_e, l_gt_ar, l_gt_ln, l_gt_ia, l_gt_e, l_gt_ep, zvi_int, zvl_long, zvd_double, zvr_ref, zisI_int, zisR_ref, zgI_int, zgR_ref, zkl_int, zkl_ref, zkl_none, zkl_long, zkl_double, zct_nil, zct_int, zct_ref, zct_long, zct_double, zbk_some, zbk_none, zbk_exc, nI_clamp, nI_add, nI_mul, true_and, and_true, Nat.reduceAdd, Nat.reduceMul, Nat.reduceLeDiff, Nat.reducePow, ↓reduceIte, Nat.zero_add, Nat.add_zero, Nat.reduceLT, Nat.reduceEqDiff, Nat.le_refl, zn10, zn01, zfitB0, zfitB1, znarB0, znarB1, Nat.lt_irrefl, ↓zvi_eq, ↓zvr_eq]
        exact ⟨by omega, hgo⟩
    have := loop (bl p f) bl E G x y 0 rfl (by omega) hP hB hG hpx (iX_iff.mp hX) hXF.symm
    rw [e139]
    have hne1 : (nI f = nI 1) = False := nI_ne e (by omega) (by omega)
    simp (disch := omega) only [p139_0, p139_1, p139_2, p139_5, p139_6, p139_7, p139_8, p139_11, p139_12, p139_13, p139_14, p139_17, p139_18, p139_19, p139_22, p139_23, p139_24, p139_25, p139_26, p139_27, p139_28, p139_29, p139_30, p139_33, p139_34, p139_37, p139_38, p139_39, p139_40, p139_41, p139_44, p139_46, p139_49, p139_50, p139_51, p139_52, p139_53, p139_54, p139_57, p139_58, p139_59, p139_60, p139_61, p139_62, p139_65, p139_68, p139_69, p139_72, p139_73, p139_74, p139_77, p139_78, p139_81, p139_82, p139_85, p139_86, e1, e2, har, hln, har2, hln2, hne1, l_dm_ok, l_dm_0, l_dm_1, l_dm_2, l_dm_2p, l_dm_3, l_dm_4, l_dm_4p, l_dm_5, l_dm_6, l_dm_6p, l_dm_7, l_dm_7p, l_dm_8, l_dm_8p, l_dm_9, l_dm_9p, l_dm_10, l_dm_11, l_dm_12, l_dm_13, l_dm_14, l_po_ok, l_po_0, l_po_1, l_po_2, l_po_2p, l_po_3, l_po_3p, l_po_4, l_po_4p, l_po_5, l_po_5p, l_po_6, l_po_6p, l_po_7, l_po_8, l_po_9, l_po_10, l_po_11, l_po_12, l_po_13, l_po_13p, l_po_14, l_po_15, l_po_16, l_po_17, l_po_17p, l_bxa_ar, l_bxa_ln, l_bxa_ia, l_bxa_e, l_lea_ar, l_lea_ln, l_lea_ia, l_lea_e, l_qua_ar, l_qua_ln, l_qua_ia, l_qua_e, l_bo_ar, l_bo_ln, l_bo_ia, l_bo_is, l_bo_e, l_bo_ep, l_fc_ar, l_fc_ln, l_fc_ia, l_fc_is, l_fc_e, l_fc_ep, l_pa_ar, l_pa_ln, l_pa_ia, l_pa_e, l_pa_ep, l_pa_e3, l_aga_ar, l_aga_ln, l_aga_ia, l_aga_e, l_ag_ar, l_ag_ln, l_ag_ia, l_ag_is, l_ag_e, l_ag_ep, l_nxa_ar, l_nxa_ln, l_nxa_ia, l_nxa_e, l_nx_ar, l_nx_ln, l_nx_ia, l_nx_is, l_nx_e, l_nx_ep, l_qt_ar, l_qt_ln, l_qt_ia, l_qt_is, l_qt_e, l_qt_ep, l_bn_ar, l_bn_ln, l_bn_ia, l_bn_is, l_bn_e, l_bn_ep, l_rl_ar, l_rl_ln, l_rl_ia, l_rl_e, l_rl_ep, l_rl_e3, l_bxo_ar, l_bxo_ln, l_bxo_ia, l_bxo_e, l_bxi_ar, l_bxi_ln, l_bxi_ia, l_bxi_e, l_bxi_ep, l_bxi_e3, l_gta_ar, l_gta_ln, l_gta_ia, l_gta_e, l_gt_ar, l_gt_ln, l_gt_ia, l_gt_e, l_gt_ep, zvi_int, zvl_long, zvd_double, zvr_ref, zisI_int, zisR_ref, zgI_int, zgR_ref, zkl_int, zkl_ref, zkl_none, zkl_long, zkl_double, zct_nil, zct_int, zct_ref, zct_long, zct_double, zbk_some, zbk_none, zbk_exc, nI_clamp, nI_add, nI_mul, true_and, and_true, Nat.reduceAdd, Nat.reduceMul, Nat.reduceLeDiff, Nat.reducePow, ↓reduceIte, Nat.zero_add, Nat.add_zero, Nat.reduceLT, Nat.reduceEqDiff, Nat.le_refl, zn10, zn01, zfitB0, zfitB1, znarB0, znarB1, Nat.lt_irrefl, ↓zvi_eq, ↓zvr_eq]
    rw [← hN0]
    exact this
end ZA
