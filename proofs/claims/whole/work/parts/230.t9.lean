/-! the clock set (source: wip/whole/src/230.t9.txt, by expand2.py) -/
def kV (n : Nat) (fc : Nat → Nat) (x : zSt) : Prop := x 0 0 2 = nI n ∧ ∀ p, p < 4 → zShs x p ∧ x 13 p 1 = nI (fc p)
theorem kV_va {n : Nat} {fc : Nat → Nat} {x : zSt} {p i : Nat} (h : kV n fc x) : kV n fc (sVa x p i) := by
  refine ⟨h.1, fun q hq => ⟨fun j hj => ?_, (h.2 q hq).2⟩⟩
  rw [sVa_eq]
  split
  · exact Or.inl rfl
  · exact (h.2 q hq).1 j hj
theorem kV_lay {n : Nat} {fc : Nat → Nat} {x : zSt} {p i k : Nat} (hk : k < 8) (h : kV n fc x) : kV n fc (sLay x p i k) := by
  refine ⟨h.1, fun q hq => ⟨fun j hj => ?_, (h.2 q hq).2⟩⟩
  rw [(sLay_c x p i k).1, u2_eq]
  split
  · exact Or.inr ⟨k, hk, rfl⟩
  · exact (h.2 q hq).1 j hj
theorem kV_clr {n : Nat} {fc : Nat → Nat} {h : zSt → Nat → Bool} {x : zSt} {p : Nat} (hv : kV n fc x) : ∀ k, kV n fc (sClr h p k x).1
  | 0 => hv
  | k + 1 => by
    have e : sClr h p (k + 1) x = if h (sClr h p k x).1 k = true then (sVa (sClr h p k x).1 p k, (sClr h p k x).2 + nI 1) else sClr h p k x := rfl
    rw [e]
    split
    · exact kV_va (kV_clr hv k)
    · exact kV_clr hv k
theorem kV_ags {n : Nat} {fc : Nat → Nat} {x : zSt} {p i : Nat} {now : Int32} (h : kV n fc x) : kV n fc (sAgS p now x i) := by
  unfold sAgS
  split
  · exact kV_lay (by omega) h
  · exact h
theorem kV_ab {n : Nat} {fc : Nat → Nat} {x : zSt} {p : Nat} (h : kV n fc x) : ∀ k, kV n fc (sAb p k x)
  | 0 => h
  | k + 1 => by
    show kV n fc (sWk (sAgS p (sAb p k x 0 0 6)) p (nI k) 60 (sAb p k x) (sNm (sAb p k x) p (nI k) (nI 0))).1
    exact sWk_inv (I := kV n fc) (fun x j _ hx => kV_ags hx) 60 _ _ (sNx_in _ _ _ _ _) (kV_ab h k)
def sCp (n : Nat) (fc : Nat → Nat) (p : Nat) (s : zSt × Int32) : zSt × Int32 := (sAb p (fc p) (sClr (fun x i => sLi x p i (x 0 0 6)) p n s.1).1, s.2 + (sClr (fun x i => sLi x p i (x 0 0 6)) p n s.1).2)
section ZC
variable {x y : zSt} {E : zEx} {Q : zO → zM → Prop}
theorem c51v {v : Int32} {n : Nat} {fc : Nat → Nat} (hv : kV n fc x) (h60 : n ≤ 60) (hc8 : ∀ p, p < 4 → fc p ≤ 8) (h1 : x 0 0 6 < v) (h2 : ¬ nI 9999 < v) : zcl 51 [.ref 1, .int v] (zmem x y E) Q ↔ Q (.inl (some (.int (zfo (sCp n fc) 4 (su x 0 (u2 (x 0) 0 6 v), nI 0)).2))) (zmem (zfo (sCp n fc) 4 (su x 0 (u2 (x 0) 0 6 v), nI 0)).1 y E) := by
  have hv' : kV n fc (su x 0 (u2 (x 0) 0 6 v)) := hv
  obtain ⟨hV, hl⟩ := zforI (n := 4) (f := sCp n fc) (P := fun p (s : zSt × Int32) => zwp zm_51 (14, [some (.ref 1), some (.int v), some (.int s.2), some (.int (nI p))], [], zmem s.1 y E, 1, 6) Q) (V := fun p s => kV n fc s.1) (fun p s hp hs => by
    have hs1 := kV_clr (h := fun x i => sLi x p i (x 0 0 6)) (p := p) hs n
    refine ⟨kV_ab hs1 (fc p), ?_⟩
    have h97 := fun (Q : zO → zM → Prop) => c97 (x := s.1) (y := y) (E := E) (Q := Q) (p := p) hp hs.1 h60
    have h98 := fun (Q : zO → zM → Prop) => c98 (x := (sClr (fun x i => sLi x p i (x 0 0 6)) p n s.1).1) (y := y) (E := E) (Q := Q) (p := p) hp (hs1.2 p hp).1 (hs1.2 p hp).2 (hc8 p hp)
    rw [p51_14]
    simp (disch := omega) only [p51_0, p51_1, p51_2, p51_5, p51_6, p51_7, p51_10, p51_11, p51_12, p51_13, p51_15, p51_16, p51_19, p51_20, p51_23, p51_24, p51_25, p51_26, p51_29, p51_30, p51_31, p51_34, p51_35, p51_36, p51_37, p51_38, p51_41, p51_42, p51_43, p51_46, p51_49, p51_52, p51_53, x51, h97, h98, nI_ltI, hp, l_dm_ok, l_dm_0, l_dm_1, l_dm_2, l_dm_2p, l_dm_3, l_dm_4, l_dm_4p, l_dm_5, l_dm_6, l_dm_6p, l_dm_7, l_dm_7p, l_dm_8, l_dm_8p, l_dm_9, l_dm_9p, l_dm_10, l_dm_11, l_dm_12, l_dm_13, l_dm_14, l_bxa_ar, l_bxa_ln, l_bxa_ia, l_bxa_e, l_lea_ar, l_lea_ln, l_lea_ia, l_lea_e, l_qua_ar, l_qua_ln, l_qua_ia, l_qua_e, l_bo_ar, l_bo_ln, l_bo_ia, l_bo_is, l_bo_e, l_bo_ep, l_fc_ar, l_fc_ln, l_fc_ia, l_fc_is, l_fc_e, l_fc_ep, zvi_int, zvl_long, zvd_double, zvr_ref, zisI_int, zisR_ref, zgI_int, zgR_ref, zkl_int, zkl_ref, zkl_none, zkl_long, zkl_double, zct_nil, zct_int, zct_ref, zct_long, zct_double, zbk_some, zbk_none, zbk_exc, nI_clamp, nI_add, nI_mul, true_and, and_true, Nat.reduceAdd, Nat.reduceMul, Nat.reduceLeDiff, Nat.reducePow, ↓reduceIte, Nat.zero_add, Nat.add_zero, Nat.reduceLT, Nat.reduceEqDiff, Nat.le_refl, zn10, zn01, zfitB0, zfitB1, znarB0, znarB1, Nat.lt_irrefl, ↓zvi_eq, ↓zvr_eq]
    rfl) (su x 0 (u2 (x 0) 0 6 v), nI 0) hv' 4 (Nat.le_refl 4)
  have h2' : ¬ nI 9999 < v := h2
  rw [e51]
  simp (disch := omega) only [p51_0, p51_1, p51_2, p51_5, p51_6, p51_7, p51_10, p51_11, p51_12, p51_13, p51_15, p51_16, p51_19, p51_20, p51_23, p51_24, p51_25, p51_26, p51_29, p51_30, p51_31, p51_34, p51_35, p51_36, p51_37, p51_38, p51_41, p51_42, p51_43, p51_46, p51_49, p51_52, p51_53, x51, e79, p79_0, p79_1, p79_2, p79_5, p79_8, p79_9, p79_12, p79_15, p79_26, x79, h1, h2, l_dm_ok, l_dm_0, l_dm_1, l_dm_2, l_dm_2p, l_dm_3, l_dm_4, l_dm_4p, l_dm_5, l_dm_6, l_dm_6p, l_dm_7, l_dm_7p, l_dm_8, l_dm_8p, l_dm_9, l_dm_9p, l_dm_10, l_dm_11, l_dm_12, l_dm_13, l_dm_14, l_bxa_ar, l_bxa_ln, l_bxa_ia, l_bxa_e, l_lea_ar, l_lea_ln, l_lea_ia, l_lea_e, l_qua_ar, l_qua_ln, l_qua_ia, l_qua_e, l_bo_ar, l_bo_ln, l_bo_ia, l_bo_is, l_bo_e, l_bo_ep, l_fc_ar, l_fc_ln, l_fc_ia, l_fc_is, l_fc_e, l_fc_ep, zvi_int, zvl_long, zvd_double, zvr_ref, zisI_int, zisR_ref, zgI_int, zgR_ref, zkl_int, zkl_ref, zkl_none, zkl_long, zkl_double, zct_nil, zct_int, zct_ref, zct_long, zct_double, zbk_some, zbk_none, zbk_exc, nI_clamp, nI_add, nI_mul, true_and, and_true, Nat.reduceAdd, Nat.reduceMul, Nat.reduceLeDiff, Nat.reducePow, ↓reduceIte, Nat.zero_add, Nat.add_zero, Nat.reduceLT, Nat.reduceEqDiff, Nat.le_refl, zn10, zn01, zfitB0, zfitB1, znarB0, znarB1, Nat.lt_irrefl, ↓zvi_eq, ↓zvr_eq]
  refine hl.trans ?_
  rw [p51_14]
  simp (disch := omega) only [p51_0, p51_1, p51_2, p51_5, p51_6, p51_7, p51_10, p51_11, p51_12, p51_13, p51_15, p51_16, p51_19, p51_20, p51_23, p51_24, p51_25, p51_26, p51_29, p51_30, p51_31, p51_34, p51_35, p51_36, p51_37, p51_38, p51_41, p51_42, p51_43, p51_46, p51_49, p51_52, p51_53, x51, nI_ltI, l_dm_ok, l_dm_0, l_dm_1, l_dm_2, l_dm_2p, l_dm_3, l_dm_4, l_dm_4p, l_dm_5, l_dm_6, l_dm_6p, l_dm_7, l_dm_7p, l_dm_8, l_dm_8p, l_dm_9, l_dm_9p, l_dm_10, l_dm_11, l_dm_12, l_dm_13, l_dm_14, l_bxa_ar, l_bxa_ln, l_bxa_ia, l_bxa_e, l_lea_ar, l_lea_ln, l_lea_ia, l_lea_e, l_qua_ar, l_qua_ln, l_qua_ia, l_qua_e, l_bo_ar, l_bo_ln, l_bo_ia, l_bo_is, l_bo_e, l_bo_ep, l_fc_ar, l_fc_ln, l_fc_ia, l_fc_is, l_fc_e, l_fc_ep, zvi_int, zvl_long, zvd_double, zvr_ref, zisI_int, zisR_ref, zgI_int, zgR_ref, zkl_int, zkl_ref, zkl_none, zkl_long, zkl_double, zct_nil, zct_int, zct_ref, zct_long, zct_double, zbk_some, zbk_none, zbk_exc, nI_clamp, nI_add, nI_mul, true_and, and_true, Nat.reduceAdd, Nat.reduceMul, Nat.reduceLeDiff, Nat.reducePow, ↓reduceIte, Nat.zero_add, Nat.add_zero, Nat.reduceLT, Nat.reduceEqDiff, Nat.le_refl, zn10, zn01, zfitB0, zfitB1, znarB0, znarB1, Nat.lt_irrefl, ↓zvi_eq, ↓zvr_eq]
end ZC
def mAgS (p : Nat) (now : Int32) (y : zSt) (i : Nat) : zSt := if mAg y p i now = true then sLay y p i 1 else y
def mAb (p : Nat) (now : Int32) (n : Nat) (y : zSt) : zSt := zfo (fun f (y : zSt) => if f = 1 then y else (sWk (mAgS p now) p (nI f) 60 y (sNm y p (nI f) (nI 0))).1) n y
def mCp (n : Nat) (fc : Nat → Nat) (now : Int32) (p : Nat) (s : zSt × Int32) : zSt × Int32 := (mAb p now (fc p) (sClr (fun y i => mLi y p i now) p n s.1).1, s.2 + (sClr (fun y i => mLi y p i now) p n s.1).2)
def zWk (y : zSt) (p n : Nat) (ck : Int32) : Prop := zWn y p n ∧ zShs y p ∧ y 0 0 6 = ck
theorem zWk_lay {y : zSt} {p n i k : Nat} {ck : Int32} (h : zWk y p n ck) (hi : i < n) (hk : k < 8) : zWk (sLay y p i k) p n ck := ⟨zW_lay h.1 hi, zShs_lay h.2.1 hk, h.2.2⟩
section ZC
variable {x : zSt} {E : zEx}
theorem c149_lp {p f n : Nat} {its g ck : Int32} (hp : p < 4) (h60 : n ≤ 60) (hf : f < 8) (hf1 : ¬ f = 1) : ∀ (k : Nat) (y : zSt) (v : Int32), zmu (y 25 p) (y 26 p) (nI f) v ≤ k → zWk y p n ck → ∃ v' : Int32, ∀ Q : zO → zM → Prop, zwp zm_149 (113, [some (.ref 409), some (.int its), some (.int g), some (.int (nI p)), some (.int (nI f)), some (.int v), some (.int (sNm y p (nI f) v))], [], zmem x y E, 0, 0) Q ↔ zwp zm_149 (175, [some (.ref 409), some (.int its), some (.int g), some (.int (nI p)), some (.int (nI f)), some (.int v'), some (.int (-1))], [], zmem x (sWk (mAgS p ck) p (nI f) k y (sNm y p (nI f) v)).1 E, 0, 0) Q := by
  intro k
  induction k with
  | zero =>
    intro y v hk hW
    have hm : sNm y p (nI f) v = -1 := by
      rcases sNx_spec (y 25 p) (y 26 p) (nI f) v 60 (Nat.le_refl 60) with ⟨e, -⟩ | ⟨j, hj, -, a1, a2, -⟩
      · exact e
      · have := zmu_lt (sh' := y 25 p) (nu' := y 26 p) hj a1 a2 (fun i _ e => ⟨e, rfl⟩)
        omega
    refine ⟨v, fun Q => ?_⟩
    rw [hm, p149_113]
    simp (disch := omega) only [p149_0, p149_1, p149_2, p149_5, p149_6, p149_7, p149_10, p149_13, p149_14, p149_17, p149_20, p149_21, p149_22, p149_25, p149_26, p149_27, p149_28, p149_31, p149_32, p149_33, p149_34, p149_35, p149_36, p149_37, p149_40, p149_41, p149_43, p149_45, p149_46, p149_49, p149_52, p149_53, p149_54, p149_56, p149_57, p149_60, p149_63, p149_66, p149_69, p149_70, p149_71, p149_73, p149_76, p149_79, p149_82, p149_85, p149_86, p149_88, p149_90, p149_91, p149_94, p149_95, p149_96, p149_99, p149_100, p149_102, p149_103, p149_104, p149_106, p149_108, p149_111, p149_115, p149_116, p149_119, p149_121, p149_122, p149_125, p149_126, p149_129, p149_130, p149_132, p149_133, p149_135, p149_136, p149_137, p149_139, p149_140, p149_141, p149_143, p149_144, p149_147, p149_150, p149_153, p149_154, p149_155, p149_157, p149_158, p149_162, p149_163, p149_165, p149_167, p149_170, p149_172, p149_178, p149_181, p149_184, p149_187, p149_188, l_md_ok, l_md_0, l_md_0p, l_md_1, l_md_1p, l_md_2, l_md_2p, l_md_3, l_md_3p, l_md_4, l_md_4p, l_md_5, l_md_6, l_md_7, l_md_8, l_md_9, l_md_10, l_md_11, l_md_12, l_md_13, l_md_14, l_md_15, l_md_16, l_md_17, l_md_17p, l_md_18, l_md_19, l_md_20, l_md_21, l_md_22, l_md_23, l_md_24, l_md_25, l_md_26, l_md_27, l_md_28, l_md_29, l_md_30, l_md_30p, l_md_31, l_md_32, l_md_33, l_md_34, l_md_34p, l_md_35, l_md_35p, l_md_36, l_md_36p, l_md_37, l_md_37p, l_md_38, zvi_int, zvl_long, zvd_double, zvr_ref, zisI_int, zisR_ref, zgI_int, zgR_ref, zkl_int, zkl_ref, zkl_none, zkl_long, zkl_double, zct_nil, zct_int, zct_ref, zct_long, zct_double, zbk_some, zbk_none, zbk_exc, nI_clamp, nI_add, nI_mul, true_and, and_true, Nat.reduceAdd, Nat.reduceMul, Nat.reduceLeDiff, Nat.reducePow, ↓reduceIte, Nat.zero_add, Nat.add_zero, Nat.reduceLT, Nat.reduceEqDiff, Nat.le_refl, zn10, zn01, zfitB0, zfitB1, znarB0, znarB1, Nat.lt_irrefl, ↓zvi_eq, ↓zvr_eq, sWk]
  | succ k ih =>
    intro y v hk hW
    obtain ⟨⟨hWn, hWs⟩, hsh, hck⟩ := id hW
    rcases sNx_spec (y 25 p) (y 26 p) (nI f) v 60 (Nat.le_refl 60) with ⟨e, -⟩ | ⟨j, hj, e, a1, a2, a3⟩
    · refine ⟨v, fun Q => ?_⟩
      rw [show sNm y p (nI f) v = -1 from e, p149_113]
      simp (disch := omega) only [p149_0, p149_1, p149_2, p149_5, p149_6, p149_7, p149_10, p149_13, p149_14, p149_17, p149_20, p149_21, p149_22, p149_25, p149_26, p149_27, p149_28, p149_31, p149_32, p149_33, p149_34, p149_35, p149_36, p149_37, p149_40, p149_41, p149_43, p149_45, p149_46, p149_49, p149_52, p149_53, p149_54, p149_56, p149_57, p149_60, p149_63, p149_66, p149_69, p149_70, p149_71, p149_73, p149_76, p149_79, p149_82, p149_85, p149_86, p149_88, p149_90, p149_91, p149_94, p149_95, p149_96, p149_99, p149_100, p149_102, p149_103, p149_104, p149_106, p149_108, p149_111, p149_115, p149_116, p149_119, p149_121, p149_122, p149_125, p149_126, p149_129, p149_130, p149_132, p149_133, p149_135, p149_136, p149_137, p149_139, p149_140, p149_141, p149_143, p149_144, p149_147, p149_150, p149_153, p149_154, p149_155, p149_157, p149_158, p149_162, p149_163, p149_165, p149_167, p149_170, p149_172, p149_178, p149_181, p149_184, p149_187, p149_188, l_md_ok, l_md_0, l_md_0p, l_md_1, l_md_1p, l_md_2, l_md_2p, l_md_3, l_md_3p, l_md_4, l_md_4p, l_md_5, l_md_6, l_md_7, l_md_8, l_md_9, l_md_10, l_md_11, l_md_12, l_md_13, l_md_14, l_md_15, l_md_16, l_md_17, l_md_17p, l_md_18, l_md_19, l_md_20, l_md_21, l_md_22, l_md_23, l_md_24, l_md_25, l_md_26, l_md_27, l_md_28, l_md_29, l_md_30, l_md_30p, l_md_31, l_md_32, l_md_33, l_md_34, l_md_34p, l_md_35, l_md_35p, l_md_36, l_md_36p, l_md_37, l_md_37p, l_md_38, zvi_int, zvl_long, zvd_double, zvr_ref, zisI_int, zisR_ref, zgI_int, zgR_ref, zkl_int, zkl_ref, zkl_none, zkl_long, zkl_double, zct_nil, zct_int, zct_ref, zct_long, zct_double, zbk_some, zbk_none, zbk_exc, nI_clamp, nI_add, nI_mul, true_and, and_true, Nat.reduceAdd, Nat.reduceMul, Nat.reduceLeDiff, Nat.reducePow, ↓reduceIte, Nat.zero_add, Nat.add_zero, Nat.reduceLT, Nat.reduceEqDiff, Nat.le_refl, zn10, zn01, zfitB0, zfitB1, znarB0, znarB1, Nat.lt_irrefl, ↓zvi_eq, ↓zvr_eq, sWk]
    · have hjn : j < n := by
        by_cases hjn : j < n
        · exact hjn
        · rw [hWs j (by omega) hj] at a1
          exact absurd a1.symm (nI_m1 (by omega))
      have hm1 := nI_m1 (k := j) (by omega)
      have hW' : zWk (mAgS p ck y j) p n ck := by
        unfold mAgS
        split
        · exact zWk_lay hW hjn (by omega)
        · exact hW
      have hshs : ∀ i, i < 60 → mAgS p ck y j 25 p i = nI f → y 25 p i = nI f ∧ mAgS p ck y j 26 p i = y 26 p i := by
        intro i hi
        unfold mAgS
        split
        · exact fun e => sLay_sh (by omega) hf1 e
        · exact fun e => ⟨e, rfl⟩
      have hmu := zmu_lt (sh' := mAgS p ck y j 25 p) (nu' := mAgS p ck y j 26 p) hj a1 a2 hshs
      obtain ⟨v', hih⟩ := ih (mAgS p ck y j) (y 26 p j) (by omega) hW'
      have h146 : ∀ (Q : zO → zM → Prop), zcl 146 [.ref 409, .int (nI p), .int (nI f), .int (y 26 p j)] (zmem x (mAgS p ck y j) E) Q ↔ Q (.inl (some (.int (sNm (mAgS p ck y j) p (nI f) (y 26 p j))))) (zmem x (mAgS p ck y j) E) := fun Q => by
        rw [c146 hp hW'.1.1 h60]
        have := sNx_more (sh := mAgS p ck y j 25 p) (nu := mAgS p ck y j 26 p) (f := nI f) (v := y 26 p j) (n := n) 60 h60 (fun i h1 h2 => by rw [hW'.1.2 i h1 h2]; exact fun q => nI_m1 (k := f) (by omega) q.symm)
        rw [← this]
        rfl
      have h148 := fun (Q : zO → zM → Prop) => c148 (x := x) (y := y) (E := E) (Q := Q) (p := p) (i := j) (now := ck) hp hj (hsh j hj)
      refine ⟨v', fun Q => ?_⟩
      have hst : zwp zm_149 (113, [some (.ref 409), some (.int its), some (.int g), some (.int (nI p)), some (.int (nI f)), some (.int v), some (.int (nI j))], [], zmem x y E, 0, 0) Q ↔ zwp zm_149 (161, [some (.ref 409), some (.int its), some (.int g), some (.int (nI p)), some (.int (nI f)), some (.int (y 26 p j)), some (.int (nI j))], [], zmem x (mAgS p ck y j) E, 0, 0) Q := by
        have hf1' : ¬ nI f = nI 1 := fun q => hf1 ((nI_eq (by omega) (by omega)).mp q)
        rw [p149_113]
        by_cases hc : mAg y p j ck = true
        · have em : mAgS p ck y j = sLay y p j 1 := if_pos hc
          simp (disch := omega) only [p149_0, p149_1, p149_2, p149_5, p149_6, p149_7, p149_10, p149_13, p149_14, p149_17, p149_20, p149_21, p149_22, p149_25, p149_26, p149_27, p149_28, p149_31, p149_32, p149_33, p149_34, p149_35, p149_36, p149_37, p149_40, p149_41, p149_43, p149_45, p149_46, p149_49, p149_52, p149_53, p149_54, p149_56, p149_57, p149_60, p149_63, p149_66, p149_69, p149_70, p149_71, p149_73, p149_76, p149_79, p149_82, p149_85, p149_86, p149_88, p149_90, p149_91, p149_94, p149_95, p149_96, p149_99, p149_100, p149_102, p149_103, p149_104, p149_106, p149_108, p149_111, p149_115, p149_116, p149_119, p149_121, p149_122, p149_125, p149_126, p149_129, p149_130, p149_132, p149_133, p149_135, p149_136, p149_137, p149_139, p149_140, p149_141, p149_143, p149_144, p149_147, p149_150, p149_153, p149_154, p149_155, p149_157, p149_158, p149_162, p149_163, p149_165, p149_167, p149_170, p149_172, p149_178, p149_181, p149_184, p149_187, p149_188, hm1, hf1', hck, h148, c139, hc, em, l_md_ok, l_md_0, l_md_0p, l_md_1, l_md_1p, l_md_2, l_md_2p, l_md_3, l_md_3p, l_md_4, l_md_4p, l_md_5, l_md_6, l_md_7, l_md_8, l_md_9, l_md_10, l_md_11, l_md_12, l_md_13, l_md_14, l_md_15, l_md_16, l_md_17, l_md_17p, l_md_18, l_md_19, l_md_20, l_md_21, l_md_22, l_md_23, l_md_24, l_md_25, l_md_26, l_md_27, l_md_28, l_md_29, l_md_30, l_md_30p, l_md_31, l_md_32, l_md_33, l_md_34, l_md_34p, l_md_35, l_md_35p, l_md_36, l_md_36p, l_md_37, l_md_37p, l_md_38, l_mnumber_ar, l_mnumber_ln, l_mnumber_ia, l_mnumber_is, l_mnumber_e, l_mnumber_ep, zvi_int, zvl_long, zvd_double, zvr_ref, zisI_int, zisR_ref, zgI_int, zgR_ref, zkl_int, zkl_ref, zkl_none, zkl_long, zkl_double, zct_nil, zct_int, zct_ref, zct_long, zct_double, zbk_some, zbk_none, zbk_exc, nI_clamp, nI_add, nI_mul, true_and, and_true, Nat.reduceAdd, Nat.reduceMul, Nat.reduceLeDiff, Nat.reducePow, ↓reduceIte, Nat.zero_add, Nat.add_zero, Nat.reduceLT, Nat.reduceEqDiff, Nat.le_refl, zn10, zn01, zfitB0, zfitB1, znarB0, znarB1, Nat.lt_irrefl, ↓zvi_eq, ↓zvr_eq]
        · have em : mAgS p ck y j = y := if_neg hc
          simp (disch := omega) only [p149_0, p149_1, p149_2, p149_5, p149_6, p149_7, p149_10, p149_13, p149_14, p149_17, p149_20, p149_21, p149_22, p149_25, p149_26, p149_27, p149_28, p149_31, p149_32, p149_33, p149_34, p149_35, p149_36, p149_37, p149_40, p149_41, p149_43, p149_45, p149_46, p149_49, p149_52, p149_53, p149_54, p149_56, p149_57, p149_60, p149_63, p149_66, p149_69, p149_70, p149_71, p149_73, p149_76, p149_79, p149_82, p149_85, p149_86, p149_88, p149_90, p149_91, p149_94, p149_95, p149_96, p149_99, p149_100, p149_102, p149_103, p149_104, p149_106, p149_108, p149_111, p149_115, p149_116, p149_119, p149_121, p149_122, p149_125, p149_126, p149_129, p149_130, p149_132, p149_133, p149_135, p149_136, p149_137, p149_139, p149_140, p149_141, p149_143, p149_144, p149_147, p149_150, p149_153, p149_154, p149_155, p149_157, p149_158, p149_162, p149_163, p149_165, p149_167, p149_170, p149_172, p149_178, p149_181, p149_184, p149_187, p149_188, hm1, hf1', hck, h148, hc, em, l_md_ok, l_md_0, l_md_0p, l_md_1, l_md_1p, l_md_2, l_md_2p, l_md_3, l_md_3p, l_md_4, l_md_4p, l_md_5, l_md_6, l_md_7, l_md_8, l_md_9, l_md_10, l_md_11, l_md_12, l_md_13, l_md_14, l_md_15, l_md_16, l_md_17, l_md_17p, l_md_18, l_md_19, l_md_20, l_md_21, l_md_22, l_md_23, l_md_24, l_md_25, l_md_26, l_md_27, l_md_28, l_md_29, l_md_30, l_md_30p, l_md_31, l_md_32, l_md_33, l_md_34, l_md_34p, l_md_35, l_md_35p, l_md_36, l_md_36p, l_md_37, l_md_37p, l_md_38, l_mnumber_ar, l_mnumber_ln, l_mnumber_ia, l_mnumber_is, l_mnumber_e, l_mnumber_ep, zvi_int, zvl_long, zvd_double, zvr_ref, zisI_int, zisR_ref, zgI_int, zgR_ref, zkl_int, zkl_ref, zkl_none, zkl_long, zkl_double, zct_nil, zct_int, zct_ref, zct_long, zct_double, zbk_some, zbk_none, zbk_exc, nI_clamp, nI_add, nI_mul, true_and, and_true, Nat.reduceAdd, Nat.reduceMul, Nat.reduceLeDiff, Nat.reducePow, ↓reduceIte, Nat.zero_add, Nat.add_zero, Nat.reduceLT, Nat.reduceEqDiff, Nat.le_refl, zn10, zn01, zfitB0, zfitB1, znarB0, znarB1, Nat.lt_irrefl, ↓zvi_eq, ↓zvr_eq, Bool.false_eq_true]
      rw [show sNm y p (nI f) v = nI j from e, sWk_st hj, hst, p149_161]
      simp (disch := omega) only [p149_0, p149_1, p149_2, p149_5, p149_6, p149_7, p149_10, p149_13, p149_14, p149_17, p149_20, p149_21, p149_22, p149_25, p149_26, p149_27, p149_28, p149_31, p149_32, p149_33, p149_34, p149_35, p149_36, p149_37, p149_40, p149_41, p149_43, p149_45, p149_46, p149_49, p149_52, p149_53, p149_54, p149_56, p149_57, p149_60, p149_63, p149_66, p149_69, p149_70, p149_71, p149_73, p149_76, p149_79, p149_82, p149_85, p149_86, p149_88, p149_90, p149_91, p149_94, p149_95, p149_96, p149_99, p149_100, p149_102, p149_103, p149_104, p149_106, p149_108, p149_111, p149_115, p149_116, p149_119, p149_121, p149_122, p149_125, p149_126, p149_129, p149_130, p149_132, p149_133, p149_135, p149_136, p149_137, p149_139, p149_140, p149_141, p149_143, p149_144, p149_147, p149_150, p149_153, p149_154, p149_155, p149_157, p149_158, p149_162, p149_163, p149_165, p149_167, p149_170, p149_172, p149_178, p149_181, p149_184, p149_187, p149_188, h146, l_md_ok, l_md_0, l_md_0p, l_md_1, l_md_1p, l_md_2, l_md_2p, l_md_3, l_md_3p, l_md_4, l_md_4p, l_md_5, l_md_6, l_md_7, l_md_8, l_md_9, l_md_10, l_md_11, l_md_12, l_md_13, l_md_14, l_md_15, l_md_16, l_md_17, l_md_17p, l_md_18, l_md_19, l_md_20, l_md_21, l_md_22, l_md_23, l_md_24, l_md_25, l_md_26, l_md_27, l_md_28, l_md_29, l_md_30, l_md_30p, l_md_31, l_md_32, l_md_33, l_md_34, l_md_34p, l_md_35, l_md_35p, l_md_36, l_md_36p, l_md_37, l_md_37p, l_md_38, zvi_int, zvl_long, zvd_double, zvr_ref, zisI_int, zisR_ref, zgI_int, zgR_ref, zkl_int, zkl_ref, zkl_none, zkl_long, zkl_double, zct_nil, zct_int, zct_ref, zct_long, zct_double, zbk_some, zbk_none, zbk_exc, nI_clamp, nI_add, nI_mul, true_and, and_true, Nat.reduceAdd, Nat.reduceMul, Nat.reduceLeDiff, Nat.reducePow, ↓reduceIte, Nat.zero_add, Nat.add_zero, Nat.reduceLT, Nat.reduceEqDiff, Nat.le_refl, zn10, zn01, zfitB0, zfitB1, znarB0, znarB1, Nat.lt_irrefl, ↓zvi_eq, ↓zvr_eq]
      rw [hih Q]
theorem mAb_W {p n : Nat} {ck : Int32} (hn60 : n ≤ 60) {y : zSt} (h : zWk y p n ck) : ∀ k, k ≤ 8 → zWk (mAb p ck k y) p n ck
  | 0, _ => h
  | k + 1, hk => by
    have ih := mAb_W hn60 h k (by omega)
    show zWk (if k = 1 then mAb p ck k y else (sWk (mAgS p ck) p (nI k) 60 (mAb p ck k y) (sNm (mAb p ck k y) p (nI k) (nI 0))).1) p n ck
    split
    · exact ih
    · have key : ∀ (t : Nat) (y : zSt) (v : Int32), zWk y p n ck → zWk (sWk (mAgS p ck) p (nI k) t y (sNm y p (nI k) v)).1 p n ck := by
        intro t
        induction t with
        | zero => intro y v h; exact h
        | succ t iht =>
          intro y v h
          rcases sNx_spec (y 25 p) (y 26 p) (nI k) v 60 (Nat.le_refl 60) with ⟨e, -⟩ | ⟨j, hj, e, a1, a2, a3⟩
          · rw [show sNm y p (nI k) v = -1 from e]
            unfold sWk
            rw [if_pos rfl]
            exact h
          · have hjn : j < n := by
              by_cases hjn : j < n
              · exact hjn
              · rw [h.1.2 j (by omega) hj] at a1
                exact absurd a1.symm (nI_m1 (by omega))
            rw [show sNm y p (nI k) v = nI j from e, sWk_st hj]
            refine iht _ _ ?_
            unfold mAgS
            split
            · exact zWk_lay h hjn (by omega)
            · exact h
      exact key 60 _ (nI 0) ih
theorem c149_fo {p n c : Nat} {its g ck : Int32} {y : zSt} {l4 l5 l6 : Option Value} (hp : p < 4) (h60 : n ≤ 60) (hc8 : c ≤ 8) (hW : zWk y p n ck) (hc : y 13 p 1 = nI c) : ∃ l4' l5' l6' : Option Value, ∀ Q : zO → zM → Prop, zwp zm_149 (88, [some (.ref 409), some (.int its), some (.int g), some (.int (nI p)), some (.int (nI 0)), l5, l6], [], zmem x y E, 0, 0) Q ↔ zwp zm_149 (181, [some (.ref 409), some (.int its), some (.int g), some (.int (nI p)), l4', l5', l6'], [], zmem x (mAb p ck c y) E, 0, 0) Q := by
  have h13 : ∀ k, k ≤ 8 → mAb p ck k y 13 p 1 = nI c := by
    intro k
    induction k with
    | zero => intro _; exact hc
    | succ k ih =>
      intro hk
      show (if k = 1 then mAb p ck k y else (sWk (mAgS p ck) p (nI k) 60 (mAb p ck k y) (sNm (mAb p ck k y) p (nI k) (nI 0))).1) 13 p 1 = nI c
      split
      · exact ih (by omega)
      · exact sWk_inv (I := fun z => z 13 p 1 = nI c) (fun z i _ hz => by
          unfold mAgS
          split
          · exact hz
          · exact hz) 60 _ _ (sNx_in _ _ _ _ _) (ih (by omega))
  obtain ⟨⟨m5, m6⟩, ⟨hm, -⟩, hl⟩ := zforR (X := Option Value × Option Value) (T := zSt) (n := c) (f := fun f (y : zSt) => if f = 1 then y else (sWk (mAgS p ck) p (nI f) 60 y (sNm y p (nI f) (nI 0))).1) (P := fun f s Q => zwp zm_149 (88, [some (.ref 409), some (.int its), some (.int g), some (.int (nI p)), some (.int (nI f)), s.1, s.2], [], zmem x (mAb p ck f y) E, 0, 0) Q) (R := fun f t s => t = mAb p ck f y ∧ True) (fun f t s hf hR => by
    obtain ⟨rfl, -⟩ := hR
    have hWf := mAb_W h60 hW f (by omega)
    have hcf := h13 f (by omega)
    have h146 : ∀ (Q : zO → zM → Prop), zcl 146 [.ref 409, .int (nI p), .int (nI f), .int (nI 0)] (zmem x (mAb p ck f y) E) Q ↔ Q (.inl (some (.int (sNm (mAb p ck f y) p (nI f) (nI 0))))) (zmem x (mAb p ck f y) E) := fun Q => by
      rw [c146 hp hWf.1.1 h60]
      have := sNx_more (sh := mAb p ck f y 25 p) (nu := mAb p ck f y 26 p) (f := nI f) (v := nI 0) (n := n) 60 h60 (fun i h1 h2 => by rw [hWf.1.2 i h1 h2]; exact fun q => nI_m1 (k := f) (by omega) q.symm)
      rw [← this]
      rfl
    have es : mAb p ck (f + 1) y = if f = 1 then mAb p ck f y else (sWk (mAgS p ck) p (nI f) 60 (mAb p ck f y) (sNm (mAb p ck f y) p (nI f) (nI 0))).1 := rfl
    by_cases hf1 : f = 1
    · subst hf1
      rw [if_pos rfl] at es
      refine ⟨(some (.int (nI 0)), some (.int (sNm (mAb p ck 1 y) p (nI 1) (nI 0)))), ⟨rfl, trivial⟩, fun Q => ?_⟩
      dsimp only
      rw [es, p149_88]
      by_cases hm1 : sNm (mAb p ck 1 y) p (nI 1) (nI 0) = -1 <;> simp (disch := omega) only [p149_0, p149_1, p149_2, p149_5, p149_6, p149_7, p149_10, p149_13, p149_14, p149_17, p149_20, p149_21, p149_22, p149_25, p149_26, p149_27, p149_28, p149_31, p149_32, p149_33, p149_34, p149_35, p149_36, p149_37, p149_40, p149_41, p149_43, p149_45, p149_46, p149_49, p149_52, p149_53, p149_54, p149_56, p149_57, p149_60, p149_63, p149_66, p149_69, p149_70, p149_71, p149_73, p149_76, p149_79, p149_82, p149_85, p149_86, p149_90, p149_91, p149_94, p149_95, p149_96, p149_99, p149_100, p149_102, p149_103, p149_104, p149_106, p149_108, p149_111, p149_113, p149_115, p149_116, p149_119, p149_121, p149_122, p149_125, p149_126, p149_129, p149_130, p149_132, p149_133, p149_135, p149_136, p149_137, p149_139, p149_140, p149_141, p149_143, p149_144, p149_147, p149_150, p149_153, p149_154, p149_155, p149_157, p149_158, p149_161, p149_162, p149_163, p149_165, p149_167, p149_170, p149_172, p149_175, p149_178, p149_181, p149_184, p149_187, p149_188, hcf, nI_ltI, hf, h146, hm1, l_md_ok, l_md_0, l_md_0p, l_md_1, l_md_1p, l_md_2, l_md_2p, l_md_3, l_md_3p, l_md_4, l_md_4p, l_md_5, l_md_6, l_md_7, l_md_8, l_md_9, l_md_10, l_md_11, l_md_12, l_md_13, l_md_14, l_md_15, l_md_16, l_md_17, l_md_17p, l_md_18, l_md_19, l_md_20, l_md_21, l_md_22, l_md_23, l_md_24, l_md_25, l_md_26, l_md_27, l_md_28, l_md_29, l_md_30, l_md_30p, l_md_31, l_md_32, l_md_33, l_md_34, l_md_34p, l_md_35, l_md_35p, l_md_36, l_md_36p, l_md_37, l_md_37p, l_md_38, l_mfolders_ar, l_mfolders_ln, l_mfolders_ia, l_mfolders_is, l_mfolders_e, l_mfolders_ep, zvi_int, zvl_long, zvd_double, zvr_ref, zisI_int, zisR_ref, zgI_int, zgR_ref, zkl_int, zkl_ref, zkl_none, zkl_long, zkl_double, zct_nil, zct_int, zct_ref, zct_long, zct_double, zbk_some, zbk_none, zbk_exc, nI_clamp, nI_add, nI_mul, true_and, and_true, Nat.reduceAdd, Nat.reduceMul, Nat.reduceLeDiff, Nat.reducePow, ↓reduceIte, Nat.zero_add, Nat.add_zero, Nat.reduceLT, Nat.reduceEqDiff, Nat.le_refl, zn10, zn01, zfitB0, zfitB1, znarB0, znarB1, Nat.lt_irrefl, ↓zvi_eq, ↓zvr_eq]
    · rw [if_neg hf1] at es
      obtain ⟨v', hv'⟩ := c149_lp (x := x) (E := E) (p := p) (f := f) (n := n) (its := its) (g := g) (ck := ck) hp h60 (by omega) hf1 60 (mAb p ck f y) (nI 0) (tcnt_le _ 60) hWf
      refine ⟨(some (.int v'), some (.int (-1))), ⟨rfl, trivial⟩, fun Q => ?_⟩
      dsimp only
      rw [es, p149_88]
      simp (disch := omega) only [p149_0, p149_1, p149_2, p149_5, p149_6, p149_7, p149_10, p149_13, p149_14, p149_17, p149_20, p149_21, p149_22, p149_25, p149_26, p149_27, p149_28, p149_31, p149_32, p149_33, p149_34, p149_35, p149_36, p149_37, p149_40, p149_41, p149_43, p149_45, p149_46, p149_49, p149_52, p149_53, p149_54, p149_56, p149_57, p149_60, p149_63, p149_66, p149_69, p149_70, p149_71, p149_73, p149_76, p149_79, p149_82, p149_85, p149_86, p149_90, p149_91, p149_94, p149_95, p149_96, p149_99, p149_100, p149_102, p149_103, p149_104, p149_106, p149_108, p149_111, p149_115, p149_116, p149_119, p149_121, p149_122, p149_125, p149_126, p149_129, p149_130, p149_132, p149_133, p149_135, p149_136, p149_137, p149_139, p149_140, p149_141, p149_143, p149_144, p149_147, p149_150, p149_153, p149_154, p149_155, p149_157, p149_158, p149_161, p149_162, p149_163, p149_165, p149_167, p149_170, p149_172, p149_178, p149_181, p149_184, p149_187, p149_188, hcf, nI_ltI, hf, h146, l_md_ok, l_md_0, l_md_0p, l_md_1, l_md_1p, l_md_2, l_md_2p, l_md_3, l_md_3p, l_md_4, l_md_4p, l_md_5, l_md_6, l_md_7, l_md_8, l_md_9, l_md_10, l_md_11, l_md_12, l_md_13, l_md_14, l_md_15, l_md_16, l_md_17, l_md_17p, l_md_18, l_md_19, l_md_20, l_md_21, l_md_22, l_md_23, l_md_24, l_md_25, l_md_26, l_md_27, l_md_28, l_md_29, l_md_30, l_md_30p, l_md_31, l_md_32, l_md_33, l_md_34, l_md_34p, l_md_35, l_md_35p, l_md_36, l_md_36p, l_md_37, l_md_37p, l_md_38, l_mfolders_ar, l_mfolders_ln, l_mfolders_ia, l_mfolders_is, l_mfolders_e, l_mfolders_ep, zvi_int, zvl_long, zvd_double, zvr_ref, zisI_int, zisR_ref, zgI_int, zgR_ref, zkl_int, zkl_ref, zkl_none, zkl_long, zkl_double, zct_nil, zct_int, zct_ref, zct_long, zct_double, zbk_some, zbk_none, zbk_exc, nI_clamp, nI_add, nI_mul, true_and, and_true, Nat.reduceAdd, Nat.reduceMul, Nat.reduceLeDiff, Nat.reducePow, ↓reduceIte, Nat.zero_add, Nat.add_zero, Nat.reduceLT, Nat.reduceEqDiff, Nat.le_refl, zn10, zn01, zfitB0, zfitB1, znarB0, znarB1, Nat.lt_irrefl, ↓zvi_eq, ↓zvr_eq]
      rw [hv' Q, p149_175]
      simp (disch := omega) only [p149_0, p149_1, p149_2, p149_5, p149_6, p149_7, p149_10, p149_13, p149_14, p149_17, p149_20, p149_21, p149_22, p149_25, p149_26, p149_27, p149_28, p149_31, p149_32, p149_33, p149_34, p149_35, p149_36, p149_37, p149_40, p149_41, p149_43, p149_45, p149_46, p149_49, p149_52, p149_53, p149_54, p149_56, p149_57, p149_60, p149_63, p149_66, p149_69, p149_70, p149_71, p149_73, p149_76, p149_79, p149_82, p149_85, p149_86, p149_90, p149_91, p149_94, p149_95, p149_96, p149_99, p149_100, p149_102, p149_103, p149_104, p149_106, p149_108, p149_111, p149_115, p149_116, p149_119, p149_121, p149_122, p149_125, p149_126, p149_129, p149_130, p149_132, p149_133, p149_135, p149_136, p149_137, p149_139, p149_140, p149_141, p149_143, p149_144, p149_147, p149_150, p149_153, p149_154, p149_155, p149_157, p149_158, p149_161, p149_162, p149_163, p149_165, p149_167, p149_170, p149_172, p149_178, p149_181, p149_184, p149_187, p149_188, l_md_ok, l_md_0, l_md_0p, l_md_1, l_md_1p, l_md_2, l_md_2p, l_md_3, l_md_3p, l_md_4, l_md_4p, l_md_5, l_md_6, l_md_7, l_md_8, l_md_9, l_md_10, l_md_11, l_md_12, l_md_13, l_md_14, l_md_15, l_md_16, l_md_17, l_md_17p, l_md_18, l_md_19, l_md_20, l_md_21, l_md_22, l_md_23, l_md_24, l_md_25, l_md_26, l_md_27, l_md_28, l_md_29, l_md_30, l_md_30p, l_md_31, l_md_32, l_md_33, l_md_34, l_md_34p, l_md_35, l_md_35p, l_md_36, l_md_36p, l_md_37, l_md_37p, l_md_38, zvi_int, zvl_long, zvd_double, zvr_ref, zisI_int, zisR_ref, zgI_int, zgR_ref, zkl_int, zkl_ref, zkl_none, zkl_long, zkl_double, zct_nil, zct_int, zct_ref, zct_long, zct_double, zbk_some, zbk_none, zbk_exc, nI_clamp, nI_add, nI_mul, true_and, and_true, Nat.reduceAdd, Nat.reduceMul, Nat.reduceLeDiff, Nat.reducePow, ↓reduceIte, Nat.zero_add, Nat.add_zero, Nat.reduceLT, Nat.reduceEqDiff, Nat.le_refl, zn10, zn01, zfitB0, zfitB1, znarB0, znarB1, Nat.lt_irrefl, ↓zvi_eq, ↓zvr_eq]) y (l5, l6) ⟨rfl, trivial⟩ c (Nat.le_refl c)
  refine ⟨some (.int (nI c)), m5, m6, fun Q => ?_⟩
  refine (hl Q).trans ?_
  dsimp only
  have hcc := h13 c hc8
  rw [p149_88]
  simp (disch := omega) only [p149_0, p149_1, p149_2, p149_5, p149_6, p149_7, p149_10, p149_13, p149_14, p149_17, p149_20, p149_21, p149_22, p149_25, p149_26, p149_27, p149_28, p149_31, p149_32, p149_33, p149_34, p149_35, p149_36, p149_37, p149_40, p149_41, p149_43, p149_45, p149_46, p149_49, p149_52, p149_53, p149_54, p149_56, p149_57, p149_60, p149_63, p149_66, p149_69, p149_70, p149_71, p149_73, p149_76, p149_79, p149_82, p149_85, p149_86, p149_90, p149_91, p149_94, p149_95, p149_96, p149_99, p149_100, p149_102, p149_103, p149_104, p149_106, p149_108, p149_111, p149_113, p149_115, p149_116, p149_119, p149_121, p149_122, p149_125, p149_126, p149_129, p149_130, p149_132, p149_133, p149_135, p149_136, p149_137, p149_139, p149_140, p149_141, p149_143, p149_144, p149_147, p149_150, p149_153, p149_154, p149_155, p149_157, p149_158, p149_161, p149_162, p149_163, p149_165, p149_167, p149_170, p149_172, p149_175, p149_178, p149_184, p149_187, p149_188, hcc, nI_ltI, l_md_ok, l_md_0, l_md_0p, l_md_1, l_md_1p, l_md_2, l_md_2p, l_md_3, l_md_3p, l_md_4, l_md_4p, l_md_5, l_md_6, l_md_7, l_md_8, l_md_9, l_md_10, l_md_11, l_md_12, l_md_13, l_md_14, l_md_15, l_md_16, l_md_17, l_md_17p, l_md_18, l_md_19, l_md_20, l_md_21, l_md_22, l_md_23, l_md_24, l_md_25, l_md_26, l_md_27, l_md_28, l_md_29, l_md_30, l_md_30p, l_md_31, l_md_32, l_md_33, l_md_34, l_md_34p, l_md_35, l_md_35p, l_md_36, l_md_36p, l_md_37, l_md_37p, l_md_38, l_mfolders_ar, l_mfolders_ln, l_mfolders_ia, l_mfolders_is, l_mfolders_e, l_mfolders_ep, zvi_int, zvl_long, zvd_double, zvr_ref, zisI_int, zisR_ref, zgI_int, zgR_ref, zkl_int, zkl_ref, zkl_none, zkl_long, zkl_double, zct_nil, zct_int, zct_ref, zct_long, zct_double, zbk_some, zbk_none, zbk_exc, nI_clamp, nI_add, nI_mul, true_and, and_true, Nat.reduceAdd, Nat.reduceMul, Nat.reduceLeDiff, Nat.reducePow, ↓reduceIte, Nat.zero_add, Nat.add_zero, Nat.reduceLT, Nat.reduceEqDiff, Nat.le_refl, zn10, zn01, zfitB0, zfitB1, znarB0, znarB1, Nat.lt_irrefl, ↓zvi_eq, ↓zvr_eq]
end ZC
