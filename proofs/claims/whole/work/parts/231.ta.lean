/-! the clock set, both ways (source: wip/whole/src/231.ta.txt, by expand2.py) -/
theorem nI_subI {t a : Nat} (ht : t < 1000000000) (ha : a < 1000000000) : (nI t - nI a).toInt = (t : Int) - a := by
  rw [Int32.toInt_sub, nI_toInt (by omega), nI_toInt (by omega)]
  refine Int.bmod_eq_of_le ?_ ?_ <;> omega
theorem zsub_lt {t a l : Nat} (ht : t < 100000000) (ha : a < 100000000) (hl : l < 100000000) : (nI t - nI a < nI l) ↔ (nI t < nI a + nI l) := by
  rw [nI_add, nI_ltI (by omega) (by omega), Int32.lt_iff_toInt_lt, nI_subI (by omega) (by omega), nI_toInt (by omega)]
  omega
theorem zfo_clr {h : zSt → Nat → Bool} {p : Nat} {y : zSt} {g : Int32} : ∀ k, zfo (fun i (s : zSt × Int32) => if h s.1 i = true then (sVa s.1 p i, s.2 + nI 1) else s) k (y, g) = ((sClr h p k y).1, g + (sClr h p k y).2)
  | 0 => by
    show (y, g) = (y, g + nI 0)
    rw [show g + nI 0 = g from Int32.add_zero g]
  | k + 1 => by
    have e : sClr h p (k + 1) y = if h (sClr h p k y).1 k = true then (sVa (sClr h p k y).1 p k, (sClr h p k y).2 + nI 1) else sClr h p k y := rfl
    have e2 : zfo (fun i (s : zSt × Int32) => if h s.1 i = true then (sVa s.1 p i, s.2 + nI 1) else s) (k + 1) (y, g) = (fun s : zSt × Int32 => if h s.1 k = true then (sVa s.1 p k, s.2 + nI 1) else s) (zfo (fun i (s : zSt × Int32) => if h s.1 i = true then (sVa s.1 p i, s.2 + nI 1) else s) k (y, g)) := rfl
    rw [e2, zfo_clr k, e]
    dsimp only
    split
    · rw [Int32.add_assoc]
    · rfl
theorem mAb_I {p n : Nat} {ck : Int32} (hn60 : n ≤ 60) {I : zSt → Prop} (hI : ∀ y i, i < n → I y → I (sLay y p i 1)) {y : zSt} (h : zWk y p n ck) (hy : I y) : ∀ k, k ≤ 8 → I (mAb p ck k y)
  | 0, _ => hy
  | k + 1, hk => by
    have ih := mAb_I hn60 hI h hy k (by omega)
    have ihW := mAb_W hn60 h k (by omega)
    show I (if k = 1 then mAb p ck k y else (sWk (mAgS p ck) p (nI k) 60 (mAb p ck k y) (sNm (mAb p ck k y) p (nI k) (nI 0))).1)
    split
    · exact ih
    · have key : ∀ (t : Nat) (y : zSt) (v : Int32), zWk y p n ck → I y → I (sWk (mAgS p ck) p (nI k) t y (sNm y p (nI k) v)).1 := by
        intro t
        induction t with
        | zero => intro y v _ h; exact h
        | succ t iht =>
          intro y v hW h
          rcases sNx_spec (y 25 p) (y 26 p) (nI k) v 60 (Nat.le_refl 60) with ⟨e, -⟩ | ⟨j, hj, e, a1, a2, a3⟩
          · rw [show sNm y p (nI k) v = -1 from e]
            unfold sWk
            rw [if_pos rfl]
            exact h
          · have hjn : j < n := by
              by_cases hjn : j < n
              · exact hjn
              · rw [hW.1.2 j (by omega) hj] at a1
                exact absurd a1.symm (nI_m1 (by omega))
            rw [show sNm y p (nI k) v = nI j from e, sWk_st hj]
            refine iht _ _ ?_ ?_
            · unfold mAgS
              split
              · exact zWk_lay hW hjn (by omega)
              · exact hW
            · unfold mAgS
              split
              · exact hI y j hjn h
              · exact h
      exact key 60 _ (nI 0) ihW ih
def kY (n : Nat) (fc : Nat → Nat) (ck : Int32) (y : zSt) : Prop := y 0 0 2 = nI n ∧ y 0 0 6 = ck ∧ y 2 0 0 = nI 0 ∧ ∀ q, q < 4 → zShs y q ∧ y 13 q 1 = nI (fc q) ∧ ∀ i, n ≤ i → i < 60 → y 25 q i = -1
theorem kY_va {n : Nat} {fc : Nat → Nat} {ck : Int32} {y : zSt} {p i : Nat} (h : kY n fc ck y) : kY n fc ck (sVa y p i) := by
  refine ⟨h.1, h.2.1, h.2.2.1, fun q hq => ⟨fun j hj => ?_, (h.2.2.2 q hq).2.1, fun j h1 h2 => ?_⟩⟩
  · rw [sVa_eq]
    split
    · exact Or.inl rfl
    · exact (h.2.2.2 q hq).1 j hj
  · rw [sVa_eq]
    split
    · rfl
    · exact (h.2.2.2 q hq).2.2 j h1 h2
theorem kY_lay {n : Nat} {fc : Nat → Nat} {ck : Int32} {y : zSt} {p i : Nat} (hi : i < n) (h : kY n fc ck y) : kY n fc ck (sLay y p i 1) := by
  refine ⟨h.1, h.2.1, h.2.2.1, fun q hq => ⟨fun j hj => ?_, (h.2.2.2 q hq).2.1, fun j h1 h2 => ?_⟩⟩
  · rw [(sLay_c y p i 1).1, u2_eq]
    split
    · exact Or.inr ⟨1, by omega, rfl⟩
    · exact (h.2.2.2 q hq).1 j hj
  · rw [(sLay_c y p i 1).1, u2_eq, if_neg (by omega)]
    exact (h.2.2.2 q hq).2.2 j h1 h2
theorem kY_clr {n : Nat} {fc : Nat → Nat} {ck : Int32} {h : zSt → Nat → Bool} {y : zSt} {p : Nat} (hv : kY n fc ck y) : ∀ k, kY n fc ck (sClr h p k y).1
  | 0 => hv
  | k + 1 => by
    have e : sClr h p (k + 1) y = if h (sClr h p k y).1 k = true then (sVa (sClr h p k y).1 p k, (sClr h p k y).2 + nI 1) else sClr h p k y := rfl
    rw [e]
    split
    · exact kY_va (kY_clr hv k)
    · exact kY_clr hv k
theorem kY_W {n : Nat} {fc : Nat → Nat} {ck : Int32} {y : zSt} {p : Nat} (hp : p < 4) (h : kY n fc ck y) : zWk y p n ck := ⟨⟨h.1, (h.2.2.2 p hp).2.2⟩, (h.2.2.2 p hp).1, h.2.1⟩
abbrev zO3 : Type := Option Value × Option Value × Option Value
section ZC
variable {x y : zSt} {E : zEx} {Q : zO → zM → Prop}
theorem c149v {ck : Int32} {n : Nat} {fc : Nat → Nat} (h60 : n ≤ 60) (hc8 : ∀ p, p < 4 → fc p ≤ 8) (hk : kY n fc ck (su (mTh y 0) 0 (u2 (y 0) 0 6 ck))) (h1 : y 0 0 6 < ck) (h2 : ¬ nI 9999 < ck) : zcl 149 [.ref 409, .int ck] (zmem x y E) Q ↔ Q (.inl (some (.int (zfo (mCp n fc ck) 4 (su (mTh y 0) 0 (u2 (y 0) 0 6 ck), nI 0)).2))) (zmem x (zfo (mCp n fc ck) 4 (su (mTh y 0) 0 (u2 (y 0) 0 6 ck), nI 0)).1 E) := by
  obtain ⟨⟨Y, g, l⟩, ⟨hs, hK⟩, hl⟩ := zforR (X := zSt × Int32 × zO3) (T := zSt × Int32) (n := 4) (f := mCp n fc ck) (P := fun p s Q => zwp zm_149 (35, [some (.ref 409), some (.int ck), some (.int s.2.1), some (.int (nI p)), s.2.2.1, s.2.2.2.1, s.2.2.2.2], [], zmem x s.1 E, 0, 0) Q) (R := fun p t s => (s.1, s.2.1) = t ∧ kY n fc ck s.1) (fun p t s hp hR => by
    obtain ⟨Y, g, l4, l5, l6⟩ := s
    obtain ⟨rfl, hK⟩ := hR
    dsimp only at hK
    have hclr := fun (Q : zO → zM → Prop) => (zforI (n := n) (f := fun i (s : zSt × Int32) => if mLi s.1 p i ck = true then (sVa s.1 p i, s.2 + nI 1) else s) (P := fun i (s : zSt × Int32) => zwp zm_149 (43, [some (.ref 409), some (.int ck), some (.int s.2), some (.int (nI p)), some (.int (nI i)), l5, l6], [], zmem x s.1 E, 0, 0) Q) (V := fun i (s : zSt × Int32) => kY n fc ck s.1) (fun i s hi hv => by
      have h147 := fun (Q : zO → zM → Prop) => c147 (x := x) (y := s.1) (E := E) (Q := Q) (p := p) (i := i) (now := ck) hp (by omega)
      have e2 := hv.1
      have e6 := hv.2.1
      by_cases hc : mLi s.1 p i ck = true
      · refine ⟨?_, ?_⟩
        · rw [if_pos hc]; exact kY_va hv
        · rw [p149_43]
          simp (disch := omega) only [p149_0, p149_1, p149_2, p149_5, p149_6, p149_7, p149_10, p149_13, p149_14, p149_17, p149_20, p149_21, p149_22, p149_25, p149_26, p149_27, p149_28, p149_31, p149_32, p149_33, p149_34, p149_35, p149_36, p149_37, p149_40, p149_41, p149_45, p149_46, p149_49, p149_52, p149_53, p149_54, p149_56, p149_57, p149_60, p149_63, p149_66, p149_69, p149_70, p149_71, p149_73, p149_76, p149_79, p149_82, p149_85, p149_86, p149_88, p149_90, p149_91, p149_94, p149_95, p149_96, p149_99, p149_100, p149_102, p149_103, p149_104, p149_106, p149_108, p149_111, p149_113, p149_115, p149_116, p149_119, p149_121, p149_122, p149_125, p149_126, p149_129, p149_130, p149_132, p149_133, p149_135, p149_136, p149_137, p149_139, p149_140, p149_141, p149_143, p149_144, p149_147, p149_150, p149_153, p149_154, p149_155, p149_157, p149_158, p149_161, p149_162, p149_163, p149_165, p149_167, p149_170, p149_172, p149_175, p149_178, p149_181, p149_184, p149_187, p149_188, e2, e6, h147, c140, nI_ltI, hi, hc, l_md_ok, l_md_0, l_md_0p, l_md_1, l_md_1p, l_md_2, l_md_2p, l_md_3, l_md_3p, l_md_4, l_md_4p, l_md_5, l_md_6, l_md_7, l_md_8, l_md_9, l_md_10, l_md_11, l_md_12, l_md_13, l_md_14, l_md_15, l_md_16, l_md_17, l_md_17p, l_md_18, l_md_19, l_md_20, l_md_21, l_md_22, l_md_23, l_md_24, l_md_25, l_md_26, l_md_27, l_md_28, l_md_29, l_md_30, l_md_30p, l_md_31, l_md_32, l_md_33, l_md_34, l_md_34p, l_md_35, l_md_35p, l_md_36, l_md_36p, l_md_37, l_md_37p, l_md_38, zvi_int, zvl_long, zvd_double, zvr_ref, zisI_int, zisR_ref, zgI_int, zgR_ref, zkl_int, zkl_ref, zkl_none, zkl_long, zkl_double, zct_nil, zct_int, zct_ref, zct_long, zct_double, zbk_some, zbk_none, zbk_exc, nI_clamp, nI_add, nI_mul, true_and, and_true, Nat.reduceAdd, Nat.reduceMul, Nat.reduceLeDiff, Nat.reducePow, ↓reduceIte, Nat.zero_add, Nat.add_zero, Nat.reduceLT, Nat.reduceEqDiff, Nat.le_refl, zn10, zn01, zfitB0, zfitB1, znarB0, znarB1, Nat.lt_irrefl, ↓zvi_eq, ↓zvr_eq]
      · refine ⟨?_, ?_⟩
        · rw [if_neg hc]; exact hv
        · rw [p149_43]
          simp (disch := omega) only [p149_0, p149_1, p149_2, p149_5, p149_6, p149_7, p149_10, p149_13, p149_14, p149_17, p149_20, p149_21, p149_22, p149_25, p149_26, p149_27, p149_28, p149_31, p149_32, p149_33, p149_34, p149_35, p149_36, p149_37, p149_40, p149_41, p149_45, p149_46, p149_49, p149_52, p149_53, p149_54, p149_56, p149_57, p149_60, p149_63, p149_66, p149_69, p149_70, p149_71, p149_73, p149_76, p149_79, p149_82, p149_85, p149_86, p149_88, p149_90, p149_91, p149_94, p149_95, p149_96, p149_99, p149_100, p149_102, p149_103, p149_104, p149_106, p149_108, p149_111, p149_113, p149_115, p149_116, p149_119, p149_121, p149_122, p149_125, p149_126, p149_129, p149_130, p149_132, p149_133, p149_135, p149_136, p149_137, p149_139, p149_140, p149_141, p149_143, p149_144, p149_147, p149_150, p149_153, p149_154, p149_155, p149_157, p149_158, p149_161, p149_162, p149_163, p149_165, p149_167, p149_170, p149_172, p149_175, p149_178, p149_181, p149_184, p149_187, p149_188, e2, e6, h147, nI_ltI, hi, hc, l_md_ok, l_md_0, l_md_0p, l_md_1, l_md_1p, l_md_2, l_md_2p, l_md_3, l_md_3p, l_md_4, l_md_4p, l_md_5, l_md_6, l_md_7, l_md_8, l_md_9, l_md_10, l_md_11, l_md_12, l_md_13, l_md_14, l_md_15, l_md_16, l_md_17, l_md_17p, l_md_18, l_md_19, l_md_20, l_md_21, l_md_22, l_md_23, l_md_24, l_md_25, l_md_26, l_md_27, l_md_28, l_md_29, l_md_30, l_md_30p, l_md_31, l_md_32, l_md_33, l_md_34, l_md_34p, l_md_35, l_md_35p, l_md_36, l_md_36p, l_md_37, l_md_37p, l_md_38, zvi_int, zvl_long, zvd_double, zvr_ref, zisI_int, zisR_ref, zgI_int, zgR_ref, zkl_int, zkl_ref, zkl_none, zkl_long, zkl_double, zct_nil, zct_int, zct_ref, zct_long, zct_double, zbk_some, zbk_none, zbk_exc, nI_clamp, nI_add, nI_mul, true_and, and_true, Nat.reduceAdd, Nat.reduceMul, Nat.reduceLeDiff, Nat.reducePow, ↓reduceIte, Nat.zero_add, Nat.add_zero, Nat.reduceLT, Nat.reduceEqDiff, Nat.le_refl, zn10, zn01, zfitB0, zfitB1, znarB0, znarB1, Nat.lt_irrefl, ↓zvi_eq, ↓zvr_eq, Bool.false_eq_true]) (Y, g) hK n (Nat.le_refl n)).2
    have ezf : zfo (fun i (s : zSt × Int32) => if mLi s.1 p i ck = true then (sVa s.1 p i, s.2 + nI 1) else s) n (Y, g) = ((sClr (fun y i => mLi y p i ck) p n Y).1, g + (sClr (fun y i => mLi y p i ck) p n Y).2) := zfo_clr (h := fun y i => mLi y p i ck) n
    simp only [ezf] at hclr
    have hK1 := kY_clr (h := fun y i => mLi y p i ck) (p := p) hK n
    generalize hcl : sClr (fun y i => mLi y p i ck) p n Y = C at hclr hK1
    obtain ⟨m4, m5, m6, hfo⟩ := c149_fo (x := x) (E := E) (p := p) (n := n) (c := fc p) (its := ck) (g := g + C.2) (ck := ck) (y := C.1) (l4 := none) (l5 := l5) (l6 := l6) hp h60 (hc8 p hp) (kY_W hp hK1) (hK1.2.2.2 p hp).2.1
    refine ⟨(mAb p ck (fc p) C.1, g + C.2, m4, m5, m6), ⟨?_, ?_⟩, fun Q => ?_⟩
    · show (mAb p ck (fc p) C.1, g + C.2) = mCp n fc ck p (Y, g)
      unfold mCp
      dsimp only
      rw [hcl]
    · exact mAb_I h60 (fun y i hi h => kY_lay hi h) (kY_W hp hK1) hK1 (fc p) (hc8 p hp)
    · dsimp only
      have e2 := hK1.1
      rw [p149_35]
      simp (disch := omega) only [p149_0, p149_1, p149_2, p149_5, p149_6, p149_7, p149_10, p149_13, p149_14, p149_17, p149_20, p149_21, p149_22, p149_25, p149_26, p149_27, p149_28, p149_31, p149_32, p149_33, p149_34, p149_36, p149_37, p149_40, p149_41, p149_45, p149_46, p149_49, p149_52, p149_53, p149_54, p149_56, p149_57, p149_60, p149_63, p149_66, p149_69, p149_70, p149_71, p149_73, p149_76, p149_79, p149_82, p149_85, p149_86, p149_88, p149_90, p149_91, p149_94, p149_95, p149_96, p149_99, p149_100, p149_102, p149_103, p149_104, p149_106, p149_108, p149_111, p149_113, p149_115, p149_116, p149_119, p149_121, p149_122, p149_125, p149_126, p149_129, p149_130, p149_132, p149_133, p149_135, p149_136, p149_137, p149_139, p149_140, p149_141, p149_143, p149_144, p149_147, p149_150, p149_153, p149_154, p149_155, p149_157, p149_158, p149_161, p149_162, p149_163, p149_165, p149_167, p149_170, p149_172, p149_175, p149_178, p149_181, p149_184, p149_187, p149_188, nI_ltI, hp, l_md_ok, l_md_0, l_md_0p, l_md_1, l_md_1p, l_md_2, l_md_2p, l_md_3, l_md_3p, l_md_4, l_md_4p, l_md_5, l_md_6, l_md_7, l_md_8, l_md_9, l_md_10, l_md_11, l_md_12, l_md_13, l_md_14, l_md_15, l_md_16, l_md_17, l_md_17p, l_md_18, l_md_19, l_md_20, l_md_21, l_md_22, l_md_23, l_md_24, l_md_25, l_md_26, l_md_27, l_md_28, l_md_29, l_md_30, l_md_30p, l_md_31, l_md_32, l_md_33, l_md_34, l_md_34p, l_md_35, l_md_35p, l_md_36, l_md_36p, l_md_37, l_md_37p, l_md_38, zvi_int, zvl_long, zvd_double, zvr_ref, zisI_int, zisR_ref, zgI_int, zgR_ref, zkl_int, zkl_ref, zkl_none, zkl_long, zkl_double, zct_nil, zct_int, zct_ref, zct_long, zct_double, zbk_some, zbk_none, zbk_exc, nI_clamp, nI_add, nI_mul, true_and, and_true, Nat.reduceAdd, Nat.reduceMul, Nat.reduceLeDiff, Nat.reducePow, ↓reduceIte, Nat.zero_add, Nat.add_zero, Nat.reduceLT, Nat.reduceEqDiff, Nat.le_refl, zn10, zn01, zfitB0, zfitB1, znarB0, znarB1, Nat.lt_irrefl, ↓zvi_eq, ↓zvr_eq]
      rw [hclr Q, p149_43]
      simp (disch := omega) only [p149_0, p149_1, p149_2, p149_5, p149_6, p149_7, p149_10, p149_13, p149_14, p149_17, p149_20, p149_21, p149_22, p149_25, p149_26, p149_27, p149_28, p149_31, p149_32, p149_33, p149_34, p149_36, p149_37, p149_40, p149_41, p149_45, p149_46, p149_49, p149_52, p149_53, p149_54, p149_56, p149_57, p149_60, p149_63, p149_66, p149_69, p149_70, p149_71, p149_73, p149_76, p149_79, p149_82, p149_85, p149_86, p149_90, p149_91, p149_94, p149_95, p149_96, p149_99, p149_100, p149_102, p149_103, p149_104, p149_106, p149_108, p149_111, p149_113, p149_115, p149_116, p149_119, p149_121, p149_122, p149_125, p149_126, p149_129, p149_130, p149_132, p149_133, p149_135, p149_136, p149_137, p149_139, p149_140, p149_141, p149_143, p149_144, p149_147, p149_150, p149_153, p149_154, p149_155, p149_157, p149_158, p149_161, p149_162, p149_163, p149_165, p149_167, p149_170, p149_172, p149_175, p149_178, p149_181, p149_184, p149_187, p149_188, e2, nI_ltI, l_md_ok, l_md_0, l_md_0p, l_md_1, l_md_1p, l_md_2, l_md_2p, l_md_3, l_md_3p, l_md_4, l_md_4p, l_md_5, l_md_6, l_md_7, l_md_8, l_md_9, l_md_10, l_md_11, l_md_12, l_md_13, l_md_14, l_md_15, l_md_16, l_md_17, l_md_17p, l_md_18, l_md_19, l_md_20, l_md_21, l_md_22, l_md_23, l_md_24, l_md_25, l_md_26, l_md_27, l_md_28, l_md_29, l_md_30, l_md_30p, l_md_31, l_md_32, l_md_33, l_md_34, l_md_34p, l_md_35, l_md_35p, l_md_36, l_md_36p, l_md_37, l_md_37p, l_md_38, zvi_int, zvl_long, zvd_double, zvr_ref, zisI_int, zisR_ref, zgI_int, zgR_ref, zkl_int, zkl_ref, zkl_none, zkl_long, zkl_double, zct_nil, zct_int, zct_ref, zct_long, zct_double, zbk_some, zbk_none, zbk_exc, nI_clamp, nI_add, nI_mul, true_and, and_true, Nat.reduceAdd, Nat.reduceMul, Nat.reduceLeDiff, Nat.reducePow, ↓reduceIte, Nat.zero_add, Nat.add_zero, Nat.reduceLT, Nat.reduceEqDiff, Nat.le_refl, zn10, zn01, zfitB0, zfitB1, znarB0, znarB1, Nat.lt_irrefl, ↓zvi_eq, ↓zvr_eq]
      rw [hfo Q, p149_181]
      simp (disch := omega) only [p149_0, p149_1, p149_2, p149_5, p149_6, p149_7, p149_10, p149_13, p149_14, p149_17, p149_20, p149_21, p149_22, p149_25, p149_26, p149_27, p149_28, p149_31, p149_32, p149_33, p149_34, p149_36, p149_37, p149_40, p149_41, p149_45, p149_46, p149_49, p149_52, p149_53, p149_54, p149_56, p149_57, p149_60, p149_63, p149_66, p149_69, p149_70, p149_71, p149_73, p149_76, p149_79, p149_82, p149_85, p149_86, p149_90, p149_91, p149_94, p149_95, p149_96, p149_99, p149_100, p149_102, p149_103, p149_104, p149_106, p149_108, p149_111, p149_113, p149_115, p149_116, p149_119, p149_121, p149_122, p149_125, p149_126, p149_129, p149_130, p149_132, p149_133, p149_135, p149_136, p149_137, p149_139, p149_140, p149_141, p149_143, p149_144, p149_147, p149_150, p149_153, p149_154, p149_155, p149_157, p149_158, p149_161, p149_162, p149_163, p149_165, p149_167, p149_170, p149_172, p149_175, p149_178, p149_184, p149_187, p149_188, l_md_ok, l_md_0, l_md_0p, l_md_1, l_md_1p, l_md_2, l_md_2p, l_md_3, l_md_3p, l_md_4, l_md_4p, l_md_5, l_md_6, l_md_7, l_md_8, l_md_9, l_md_10, l_md_11, l_md_12, l_md_13, l_md_14, l_md_15, l_md_16, l_md_17, l_md_17p, l_md_18, l_md_19, l_md_20, l_md_21, l_md_22, l_md_23, l_md_24, l_md_25, l_md_26, l_md_27, l_md_28, l_md_29, l_md_30, l_md_30p, l_md_31, l_md_32, l_md_33, l_md_34, l_md_34p, l_md_35, l_md_35p, l_md_36, l_md_36p, l_md_37, l_md_37p, l_md_38, zvi_int, zvl_long, zvd_double, zvr_ref, zisI_int, zisR_ref, zgI_int, zgR_ref, zkl_int, zkl_ref, zkl_none, zkl_long, zkl_double, zct_nil, zct_int, zct_ref, zct_long, zct_double, zbk_some, zbk_none, zbk_exc, nI_clamp, nI_add, nI_mul, true_and, and_true, Nat.reduceAdd, Nat.reduceMul, Nat.reduceLeDiff, Nat.reducePow, ↓reduceIte, Nat.zero_add, Nat.add_zero, Nat.reduceLT, Nat.reduceEqDiff, Nat.le_refl, zn10, zn01, zfitB0, zfitB1, znarB0, znarB1, Nat.lt_irrefl, ↓zvi_eq, ↓zvr_eq]) (su (mTh y 0) 0 (u2 (y 0) 0 6 ck), nI 0) (su (mTh y 0) 0 (u2 (y 0) 0 6 ck), nI 0, none, none, none) ⟨rfl, hk⟩ 4 (Nat.le_refl 4)
  rw [e149]
  simp (disch := omega) only [p149_0, p149_1, p149_2, p149_5, p149_6, p149_7, p149_10, p149_13, p149_14, p149_17, p149_20, p149_21, p149_22, p149_25, p149_26, p149_27, p149_28, p149_31, p149_32, p149_33, p149_34, p149_36, p149_37, p149_40, p149_41, p149_43, p149_45, p149_46, p149_49, p149_52, p149_53, p149_54, p149_56, p149_57, p149_60, p149_63, p149_66, p149_69, p149_70, p149_71, p149_73, p149_76, p149_79, p149_82, p149_85, p149_86, p149_88, p149_90, p149_91, p149_94, p149_95, p149_96, p149_99, p149_100, p149_102, p149_103, p149_104, p149_106, p149_108, p149_111, p149_113, p149_115, p149_116, p149_119, p149_121, p149_122, p149_125, p149_126, p149_129, p149_130, p149_132, p149_133, p149_135, p149_136, p149_137, p149_139, p149_140, p149_141, p149_143, p149_144, p149_147, p149_150, p149_153, p149_154, p149_155, p149_157, p149_158, p149_161, p149_162, p149_163, p149_165, p149_167, p149_170, p149_172, p149_175, p149_178, p149_181, p149_184, p149_187, p149_188, e116, p116_0, p116_1, p116_2, p116_5, p116_6, mTh_fold, mTh_mTh, mTh_o, h1, h2, l_md_ok, l_md_0, l_md_0p, l_md_1, l_md_1p, l_md_2, l_md_2p, l_md_3, l_md_3p, l_md_4, l_md_4p, l_md_5, l_md_6, l_md_7, l_md_8, l_md_9, l_md_10, l_md_11, l_md_12, l_md_13, l_md_14, l_md_15, l_md_16, l_md_17, l_md_17p, l_md_18, l_md_19, l_md_20, l_md_21, l_md_22, l_md_23, l_md_24, l_md_25, l_md_26, l_md_27, l_md_28, l_md_29, l_md_30, l_md_30p, l_md_31, l_md_32, l_md_33, l_md_34, l_md_34p, l_md_35, l_md_35p, l_md_36, l_md_36p, l_md_37, l_md_37p, l_md_38, zvi_int, zvl_long, zvd_double, zvr_ref, zisI_int, zisR_ref, zgI_int, zgR_ref, zkl_int, zkl_ref, zkl_none, zkl_long, zkl_double, zct_nil, zct_int, zct_ref, zct_long, zct_double, zbk_some, zbk_none, zbk_exc, nI_clamp, nI_add, nI_mul, true_and, and_true, Nat.reduceAdd, Nat.reduceMul, Nat.reduceLeDiff, Nat.reducePow, ↓reduceIte, Nat.zero_add, Nat.add_zero, Nat.reduceLT, Nat.reduceEqDiff, Nat.le_refl, zn10, zn01, zfitB0, zfitB1, znarB0, znarB1, Nat.lt_irrefl, ↓zvi_eq, ↓zvr_eq]
  refine (hl Q).trans ?_
  rw [← hs]
  dsimp only
  rw [p149_35]
  simp (disch := omega) only [p149_0, p149_1, p149_2, p149_5, p149_6, p149_7, p149_10, p149_13, p149_14, p149_17, p149_20, p149_21, p149_22, p149_25, p149_26, p149_27, p149_28, p149_31, p149_32, p149_33, p149_34, p149_36, p149_37, p149_40, p149_41, p149_43, p149_45, p149_46, p149_49, p149_52, p149_53, p149_54, p149_56, p149_57, p149_60, p149_63, p149_66, p149_69, p149_70, p149_71, p149_73, p149_76, p149_79, p149_82, p149_85, p149_86, p149_88, p149_90, p149_91, p149_94, p149_95, p149_96, p149_99, p149_100, p149_102, p149_103, p149_104, p149_106, p149_108, p149_111, p149_113, p149_115, p149_116, p149_119, p149_121, p149_122, p149_125, p149_126, p149_129, p149_130, p149_132, p149_133, p149_135, p149_136, p149_137, p149_139, p149_140, p149_141, p149_143, p149_144, p149_147, p149_150, p149_153, p149_154, p149_155, p149_157, p149_158, p149_161, p149_162, p149_163, p149_165, p149_167, p149_170, p149_172, p149_175, p149_178, p149_181, p149_184, p149_187, p149_188, nI_ltI, l_md_ok, l_md_0, l_md_0p, l_md_1, l_md_1p, l_md_2, l_md_2p, l_md_3, l_md_3p, l_md_4, l_md_4p, l_md_5, l_md_6, l_md_7, l_md_8, l_md_9, l_md_10, l_md_11, l_md_12, l_md_13, l_md_14, l_md_15, l_md_16, l_md_17, l_md_17p, l_md_18, l_md_19, l_md_20, l_md_21, l_md_22, l_md_23, l_md_24, l_md_25, l_md_26, l_md_27, l_md_28, l_md_29, l_md_30, l_md_30p, l_md_31, l_md_32, l_md_33, l_md_34, l_md_34p, l_md_35, l_md_35p, l_md_36, l_md_36p, l_md_37, l_md_37p, l_md_38, zvi_int, zvl_long, zvd_double, zvr_ref, zisI_int, zisR_ref, zgI_int, zgR_ref, zkl_int, zkl_ref, zkl_none, zkl_long, zkl_double, zct_nil, zct_int, zct_ref, zct_long, zct_double, zbk_some, zbk_none, zbk_exc, nI_clamp, nI_add, nI_mul, true_and, and_true, Nat.reduceAdd, Nat.reduceMul, Nat.reduceLeDiff, Nat.reducePow, ↓reduceIte, Nat.zero_add, Nat.add_zero, Nat.reduceLT, Nat.reduceEqDiff, Nat.le_refl, zn10, zn01, zfitB0, zfitB1, znarB0, znarB1, Nat.lt_irrefl, ↓zvi_eq, ↓zvr_eq]
end ZC
theorem mCp_K {n : Nat} {fc : Nat → Nat} {ck : Int32} {y : zSt} {g : Int32} (h60 : n ≤ 60) (hc8 : ∀ p, p < 4 → fc p ≤ 8) (hk : kY n fc ck y) : ∀ p, p ≤ 4 → kY n fc ck (zfo (mCp n fc ck) p (y, g)).1
  | 0, _ => hk
  | p + 1, hp => by
    have ih := mCp_K (g := g) h60 hc8 hk p (by omega)
    have e2 : zfo (mCp n fc ck) (p + 1) (y, g) = mCp n fc ck p (zfo (mCp n fc ck) p (y, g)) := rfl
    rw [e2]
    have hK1 := kY_clr (h := fun y i => mLi y p i ck) (p := p) ih n
    exact mAb_I h60 (fun y i hi h => kY_lay hi h) (kY_W (by omega) hK1) hK1 (fc p) (hc8 p (by omega))
theorem mCp_th {n : Nat} {fc : Nat → Nat} {ck : Int32} {y : zSt} {g : Int32} (h60 : n ≤ 60) (hc8 : ∀ p, p < 4 → fc p ≤ 8) (hk : kY n fc ck y) : ∀ p, p ≤ 4 → (zfo (mCp n fc ck) p (y, g)).1 2 0 0 = nI 0 := fun p hp => (mCp_K (g := g) h60 hc8 hk p hp).2.2.1
/-- what holds while the clock is set -/
def cG (n qn t w l : Nat) (fc nr : Nat → Nat) (b : Nat) (x y : zSt) : Prop := iSc x n qn t w l ∧ (∀ q, q < 4 → iBx x q n (fc q) b) ∧ (∀ q, q < 4 → iRu x q (fc q) (nr q)) ∧ iLe x n t ∧ zQs x qn ∧ iRl x y n nr
theorem cG_le {n qn t w l : Nat} {fc nr : Nat → Nat} {b b' : Nat} {x y : zSt} (h : cG n qn t w l fc nr b x y) (hb : b ≤ b') : cG n qn t w l fc nr b' x y := by
  obtain ⟨a1, a2, a3⟩ := h
  exact ⟨a1, fun q hq => by
    obtain ⟨z1, z2, z3, z4⟩ := a2 q hq
    exact ⟨z1, z2, iNum_le z3 hb, z4⟩, a3⟩
theorem cG_va {n qn t w l : Nat} {fc nr : Nat → Nat} {b p i : Nat} {x y : zSt} (h : cG n qn t w l fc nr b x y) : cG n qn t w l fc nr b (sVa x p i) (sVa y p i) := by
  obtain ⟨a1, a2, a3, a4, a5, a6⟩ := h
  refine ⟨a1, fun q hq => ?_, a3, a4, a5, iRl_va a6⟩
  by_cases e : q = p
  · subst e; exact iBx_va (a2 q hq)
  · exact iBx_va_o e (a2 q hq)
theorem cG_lay {n qn t w l : Nat} {fc nr : Nat → Nat} {b p i k : Nat} {x y : zSt} (hb : b < 950000000) (hp : p < 4) (hi : i < n) (hk : k < fc p) (h : cG n qn t w l fc nr b x y) : cG n qn t w l fc nr (b + 1) (sLay x p i k) (sLay y p i k) := by
  obtain ⟨a1, a2, a3, a4, a5, a6⟩ := h
  refine ⟨iSc_lay a1, fun q hq => ?_, fun q hq => iRu_lay (a3 q hq), iLe_lay a4, a5, iRl_lay a6⟩
  by_cases hqp : q = p
  · subst hqp
    exact iBx_lay (b := b) (by omega) hi a1.2.1 hk a1.2.2.2.2.1 a1.2.2.2.2.2.1 (a2 q hq)
  · obtain ⟨z1, z2, z3, z4⟩ := iBx_lay_o (i := i) (k := k) hqp (a2 q hq)
    exact ⟨z1, z2, iNum_le z3 (by omega), z4⟩
theorem cG_li {n qn t w l : Nat} {fc nr : Nat → Nat} {b p i now : Nat} {x y : zSt} (hp : p < 4) (hi : i < 60) (hnow : now ≤ 9999) (h : cG n qn t w l fc nr b x y) : sLi x p i (nI now) = mLi y p i (nI now) := by
  obtain ⟨a1, a2, a3, a4, a5, a6⟩ := h
  obtain ⟨a, ha, ea⟩ := (a2 p hp).2.2.2.1 i hi
  obtain ⟨hn, h60, hq, h20, ht, ht9, hw, hw50, hl, hl100⟩ := a1
  unfold sLi mLi
  rw [iRl_sh a6 (iSh_b (c := 25) (by omega) (by omega)), iRl_sh a6 (iSh_b (c := 29) (by omega) (by omega)), iRl_sh a6 iSh_0, ea, hl]
  congr 2
  exact decide_eq_decide.mpr (zsub_lt (by omega) (by omega) (by omega))
theorem cG_ag {n qn t w l : Nat} {fc nr : Nat → Nat} {b p i now : Nat} {x y : zSt} (hp : p < 4) (hi : i < 60) (hnow : now ≤ 9999) (h : cG n qn t w l fc nr b x y) : sAg x p i (nI now) = mAg y p i (nI now) := by
  obtain ⟨a1, a2, a3, a4, a5, a6⟩ := h
  unfold sAg mAg
  rw [iRl_sh a6 (iSh_b (c := 25) (by omega) (by omega)), iRl_sh a6 (iSh_b (c := 27) (by omega) (by omega)), iRl_sh a6 (iSh_a (c := 15) (by omega) (by omega))]
  obtain ⟨⟨b1, b2, b3, b4, b5⟩, b6, b7, d1, d2, d3⟩ := a2 p hp
  by_cases h0 : x 25 p i = -1
  · rw [if_pos h0, if_pos h0]
  rw [if_neg h0, if_neg h0]
  by_cases h1 : x 25 p i = nI 1
  · rw [if_pos h1, if_pos h1]
  rw [if_neg h1, if_neg h1]
  obtain ⟨mk, hmk, em⟩ := b5 i hi
  have hz := zmk_eq hmk (a := nI 1) (Or.inr rfl)
  rw [if_neg (by decide)] at hz
  rw [em]
  obtain ⟨hin, f, hf, ef⟩ : i < n ∧ ∃ f, f < fc p ∧ x 25 p i = nI f := (b4 i hi).resolve_left h0
  by_cases hs : zbit (nI mk) (nI 1) = true
  · rw [if_pos hs, if_neg (fun q => hz.mp q hs)]
  · rw [if_neg hs, if_pos (hz.mpr hs)]
    obtain ⟨tm, htm, -⟩ := a4.2.2
    obtain ⟨e35, htt⟩ := htm i hin
    obtain ⟨ag, hag, eag⟩ := d3 f (by omega)
    have ht9 := a1.2.2.2.2.2.1
    rw [a6.2.1 35 i (by omega) (by omega) hin, ef, nI_clamp (by omega), eag, e35]
    congr 2
    exact decide_eq_decide.mpr (zsub_lt (by omega) (by omega) (by omega))
theorem cG_clr {n qn t w l : Nat} {fc nr : Nat → Nat} {b p : Nat} {x y : zSt} (hp : p < 4) (h : cG n qn t w l fc nr b x y) : ∀ k, k ≤ n → cG n qn t w l fc nr b (sClr (fun x i => sLi x p i (x 0 0 6)) p k x).1 (sClr (fun y i => mLi y p i (nI t)) p k y).1 ∧ (sClr (fun x i => sLi x p i (x 0 0 6)) p k x).2 = (sClr (fun y i => mLi y p i (nI t)) p k y).2
  | 0, _ => ⟨h, rfl⟩
  | k + 1, hk => by
    obtain ⟨ih, ih2⟩ := cG_clr hp h k (by omega)
    have e1 : sClr (fun x i => sLi x p i (x 0 0 6)) p (k + 1) x = if sLi (sClr (fun x i => sLi x p i (x 0 0 6)) p k x).1 p k ((sClr (fun x i => sLi x p i (x 0 0 6)) p k x).1 0 0 6) = true then (sVa (sClr (fun x i => sLi x p i (x 0 0 6)) p k x).1 p k, (sClr (fun x i => sLi x p i (x 0 0 6)) p k x).2 + nI 1) else sClr (fun x i => sLi x p i (x 0 0 6)) p k x := rfl
    have e2 : sClr (fun y i => mLi y p i (nI t)) p (k + 1) y = if mLi (sClr (fun y i => mLi y p i (nI t)) p k y).1 p k (nI t) = true then (sVa (sClr (fun y i => mLi y p i (nI t)) p k y).1 p k, (sClr (fun y i => mLi y p i (nI t)) p k y).2 + nI 1) else sClr (fun y i => mLi y p i (nI t)) p k y := rfl
    have hn := ih.1.2.1
    have hck := ih.1.2.2.2.2.1
    have ht9 := ih.1.2.2.2.2.2.1
    rw [e1, e2, hck, cG_li (i := k) hp (by omega) ht9 ih]
    split
    · exact ⟨cG_va ih, by rw [ih2]⟩
    · exact ⟨ih, ih2⟩
theorem sWk_id {step : zSt → Nat → zSt} {p : Nat} {f : Int32} {x : zSt} (hs : ∀ i, i < 60 → x 25 p i = f → step x i = x) : ∀ (k : Nat) (m : Int32), (m = -1 ∨ ∃ i, i < 60 ∧ m = nI i ∧ x 25 p i = f) → (sWk step p f k x m).1 = x := by
  intro k
  induction k with
  | zero => intro m _; rfl
  | succ k ih =>
    intro m hm
    rcases hm with e | ⟨i, hi, rfl, h⟩
    · unfold sWk; rw [if_pos e]
    · rw [sWk_st hi]
      dsimp only
      rw [hs i hi h]
      exact ih _ (sNm_ok x p f _)
theorem cG_ab {n qn t w l : Nat} {fc nr : Nat → Nat} {b p : Nat} {x y : zSt} (hb : b < 900000000) (hp : p < 4) (h : cG n qn t w l fc nr b x y) : ∀ k, k ≤ fc p → cG n qn t w l fc nr (b + 60 * k) (sAb p k x) (mAb p (nI t) k y)
  | 0, _ => h
  | k + 1, hk => by
    have ih := cG_ab hb hp h k (by omega)
    have hfc := (ih.2.1 p hp).1.2.1
    have e1 : sAb p (k + 1) x = (sWk (sAgS p (sAb p k x 0 0 6)) p (nI k) 60 (sAb p k x) (sNm (sAb p k x) p (nI k) (nI 0))).1 := rfl
    have e2 : mAb p (nI t) (k + 1) y = if k = 1 then mAb p (nI t) k y else (sWk (mAgS p (nI t)) p (nI k) 60 (mAb p (nI t) k y) (sNm (mAb p (nI t) k y) p (nI k) (nI 0))).1 := rfl
    rw [e1, e2, ih.1.2.2.2.2.1]
    by_cases h1 : k = 1
    · subst h1
      rw [if_pos rfl, sWk_id (fun i hi e => by
        unfold sAgS sAg
        rw [e, if_neg (nI_m1 (by omega)), if_pos rfl]
        rfl) 60 _ (sNm_ok _ p (nI 1) (nI 0))]
      exact cG_le ih (by omega)
    · rw [if_neg h1]
      obtain ⟨hG, -⟩ := sWk_relK (K := 60) (stepx := sAgS p (nI t)) (stepy := mAgS p (nI t)) (p := p) (f := nI k) (G := fun j x y => cG n qn t w l fc nr (b + 60 * k + j) x y)
        (fun j x y hg => ⟨iRl_sh hg.2.2.2.2.2 (iSh_b (by omega) (by omega)), iRl_sh hg.2.2.2.2.2 (iSh_b (by omega) (by omega))⟩)
        (fun j x y i hj hi e hg => by
          have hin : i < n := by
            rcases (hg.2.1 p hp).1.2.2.2.1 i hi with e' | ⟨h, -⟩
            · rw [e] at e'; exact absurd e' (nI_m1 (by omega))
            · exact h
          have hag := cG_ag (i := i) hp hi hg.1.2.2.2.2.2.1 hg
          unfold sAgS mAgS
          rw [hag]
          split
          · exact cG_lay (b := b + 60 * k + j) (by omega) hp hin (by have := (hg.2.1 p hp).2.1; omega) hg
          · exact cG_le hg (by omega))
        (fun j x y hj hg => cG_le hg (by omega)) 60 0 (sAb p k x) (mAb p (nI t) k y) (sNm (sAb p k x) p (nI k) (nI 0)) (Nat.le_refl 60) (sNm_ok _ p (nI k) (nI 0)) ih
      have hnm : sNm (mAb p (nI t) k y) p (nI k) (nI 0) = sNm (sAb p k x) p (nI k) (nI 0) := by
        unfold sNm
        rw [iRl_sh ih.2.2.2.2.2 (iSh_b (c := 25) (by omega) (by omega)), iRl_sh ih.2.2.2.2.2 (iSh_b (c := 26) (by omega) (by omega))]
      rw [hnm]
      exact cG_le hG (by omega)
theorem cG_cp {n qn t w l : Nat} {fc nr : Nat → Nat} {b : Nat} {x y : zSt} {g : Int32} (hb : b < 800000000) (h : cG n qn t w l fc nr b x y) : ∀ p, p ≤ 4 → cG n qn t w l fc nr (b + 480 * p) (zfo (sCp n fc) p (x, g)).1 (zfo (mCp n fc (nI t)) p (y, g)).1 ∧ (zfo (sCp n fc) p (x, g)).2 = (zfo (mCp n fc (nI t)) p (y, g)).2
  | 0, _ => ⟨h, rfl⟩
  | p + 1, hp => by
    obtain ⟨ih, ih2⟩ := cG_cp (g := g) hb h p (by omega)
    have e1 : zfo (sCp n fc) (p + 1) (x, g) = sCp n fc p (zfo (sCp n fc) p (x, g)) := rfl
    have e2 : zfo (mCp n fc (nI t)) (p + 1) (y, g) = mCp n fc (nI t) p (zfo (mCp n fc (nI t)) p (y, g)) := rfl
    rw [e1, e2]
    generalize zfo (sCp n fc) p (x, g) = s at ih ih2
    generalize zfo (mCp n fc (nI t)) p (y, g) = s' at ih ih2
    obtain ⟨c1, c2⟩ := cG_clr (p := p) (by omega) ih n (Nat.le_refl n)
    have hfc := (c1.2.1 p (by omega)).1.2.1
    have c3 := cG_ab (p := p) (by omega) (by omega) c1 (fc p) (Nat.le_refl _)
    unfold sCp mCp
    dsimp only
    refine ⟨cG_le c3 (by omega), ?_⟩
    rw [c2, ih2]
section ZT
variable {x y : zSt} {E : zEx} {b : Nat}
theorem t10 (hb : b < 700000000) (h : zInv x y b) (v : Int32) : zOK 192 149 [.ref 1, .int v, .ref 438] [.ref 409, .int v] x y E b := by
  obtain ⟨n, qn, t, w, l, fc, nr, hSc, hBx, hRu, hLe, hQs, hRl⟩ := id h
  obtain ⟨hn, h60, hq, h20, ht, ht9, hw, hw50, hl, hl100⟩ := id hSc
  have y0 : y 0 = x 0 := iRl_sh hRl iSh_0
  have y1 : y 1 = x 1 := iRl_sh hRl iSh_1
  have y13 : y 13 = x 13 := iRl_sh hRl (iSh_a (by omega) (by omega))
  have y14 : y 14 = x 14 := iRl_sh hRl (iSh_a (by omega) (by omega))
  have y15 : y 15 = x 15 := iRl_sh hRl (iSh_a (by omega) (by omega))
  have y16 : y 16 = x 16 := iRl_sh hRl (iSh_a (by omega) (by omega))
  have y24 : y 24 = x 24 := iRl_sh hRl (iSh_b (by omega) (by omega))
  have y25 : y 25 = x 25 := iRl_sh hRl (iSh_b (by omega) (by omega))
  have y26 : y 26 = x 26 := iRl_sh hRl (iSh_b (by omega) (by omega))
  have y27 : y 27 = x 27 := iRl_sh hRl (iSh_b (by omega) (by omega))
  have y28 : y 28 = x 28 := iRl_sh hRl (iSh_b (by omega) (by omega))
  have y29 : y 29 = x 29 := iRl_sh hRl (iSh_b (by omega) (by omega))
  have y36 : y 36 = x 36 := iRl_sh hRl (iSh_c (by omega) (by omega))
  have y37 : y 37 = x 37 := iRl_sh hRl (iSh_c (by omega) (by omega))
  have y38 : y 38 = x 38 := iRl_sh hRl (iSh_c (by omega) (by omega))
  have hny : y 0 0 2 = nI n := by rw [y0]; exact hn
  have hqy : y 0 0 4 = nI qn := by rw [y0]; exact hq
  have ht6 : y 0 0 6 = nI t := by rw [y0]; exact ht
  by_cases h1' : ¬ nI t < v
  · have h1 := h1'
    refine zOK_no (c := 1) (r := nI 0) h (by omega) (fun Q => ?_) (fun Q => ?_)
    · rw [e192]
      simp (disch := omega) only [p192_0, p192_1, p192_2, p192_3, p192_4, p192_7, p192_8, p192_9, p192_13, p192_14, p192_15, p192_16, x192_13, e51, p51_0, p51_1, p51_2, p51_5, p51_6, p51_7, p51_10, p51_11, p51_12, p51_13, p51_15, p51_16, p51_19, p51_20, p51_23, p51_24, p51_25, p51_26, p51_29, p51_30, p51_31, p51_34, p51_35, p51_36, p51_37, p51_38, p51_41, p51_42, p51_43, p51_46, p51_49, p51_52, p51_53, x51, e79, p79_0, p79_1, p79_2, p79_5, p79_8, p79_9, p79_12, p79_15, p79_26, x79, nI_ltI, Nat.not_lt_zero, Nat.lt_irrefl, zo_ia, zo_ep, eq_self, ht, ht6, h1, l_dm_ok, l_dm_0, l_dm_1, l_dm_2, l_dm_2p, l_dm_3, l_dm_4, l_dm_4p, l_dm_5, l_dm_6, l_dm_6p, l_dm_7, l_dm_7p, l_dm_8, l_dm_8p, l_dm_9, l_dm_9p, l_dm_10, l_dm_11, l_dm_12, l_dm_13, l_dm_14, l_bxa_ar, l_bxa_ln, l_bxa_ia, l_bxa_e, l_lea_ar, l_lea_ln, l_lea_ia, l_lea_e, l_qua_ar, l_qua_ln, l_qua_ia, l_qua_e, l_bo_ar, l_bo_ln, l_bo_ia, l_bo_is, l_bo_e, l_bo_ep, l_fc_ar, l_fc_ln, l_fc_ia, l_fc_is, l_fc_e, l_fc_ep, zvi_int, zvl_long, zvd_double, zvr_ref, zisI_int, zisR_ref, zgI_int, zgR_ref, zkl_int, zkl_ref, zkl_none, zkl_long, zkl_double, zct_nil, zct_int, zct_ref, zct_long, zct_double, zbk_some, zbk_none, zbk_exc, nI_clamp, nI_add, nI_mul, true_and, and_true, Nat.reduceAdd, Nat.reduceMul, Nat.reduceLeDiff, Nat.reducePow, ↓reduceIte, Nat.zero_add, Nat.add_zero, Nat.reduceLT, Nat.reduceEqDiff, Nat.le_refl, zn10, zn01, zfitB0, zfitB1, znarB0, znarB1, Nat.lt_irrefl, ↓zvi_eq, ↓zvr_eq]
    · rw [e149]
      simp (disch := omega) only [p149_0, p149_1, p149_2, p149_5, p149_6, p149_7, p149_10, p149_13, p149_14, p149_17, p149_20, p149_21, p149_22, p149_25, p149_26, p149_27, p149_28, p149_31, p149_32, p149_33, p149_34, p149_36, p149_37, p149_40, p149_41, p149_43, p149_45, p149_46, p149_49, p149_52, p149_53, p149_54, p149_56, p149_57, p149_60, p149_63, p149_66, p149_69, p149_70, p149_71, p149_73, p149_76, p149_79, p149_82, p149_85, p149_86, p149_88, p149_90, p149_91, p149_94, p149_95, p149_96, p149_99, p149_100, p149_102, p149_103, p149_104, p149_106, p149_108, p149_111, p149_113, p149_115, p149_116, p149_119, p149_121, p149_122, p149_125, p149_126, p149_129, p149_130, p149_132, p149_133, p149_135, p149_136, p149_137, p149_139, p149_140, p149_141, p149_143, p149_144, p149_147, p149_150, p149_153, p149_154, p149_155, p149_157, p149_158, p149_161, p149_162, p149_163, p149_165, p149_167, p149_170, p149_172, p149_175, p149_178, p149_181, p149_184, p149_187, p149_188, e116, p116_0, p116_1, p116_2, p116_5, p116_6, mTh_fold, mTh_mTh, mTh_o, mTh_th, nI_ltI, Nat.not_lt_zero, Nat.lt_irrefl, eq_self, ht, ht6, h1, l_md_ok, l_md_0, l_md_0p, l_md_1, l_md_1p, l_md_2, l_md_2p, l_md_3, l_md_3p, l_md_4, l_md_4p, l_md_5, l_md_6, l_md_7, l_md_8, l_md_9, l_md_10, l_md_11, l_md_12, l_md_13, l_md_14, l_md_15, l_md_16, l_md_17, l_md_17p, l_md_18, l_md_19, l_md_20, l_md_21, l_md_22, l_md_23, l_md_24, l_md_25, l_md_26, l_md_27, l_md_28, l_md_29, l_md_30, l_md_30p, l_md_31, l_md_32, l_md_33, l_md_34, l_md_34p, l_md_35, l_md_35p, l_md_36, l_md_36p, l_md_37, l_md_37p, l_md_38, zvi_int, zvl_long, zvd_double, zvr_ref, zisI_int, zisR_ref, zgI_int, zgR_ref, zkl_int, zkl_ref, zkl_none, zkl_long, zkl_double, zct_nil, zct_int, zct_ref, zct_long, zct_double, zbk_some, zbk_none, zbk_exc, nI_clamp, nI_add, nI_mul, true_and, and_true, Nat.reduceAdd, Nat.reduceMul, Nat.reduceLeDiff, Nat.reducePow, ↓reduceIte, Nat.zero_add, Nat.add_zero, Nat.reduceLT, Nat.reduceEqDiff, Nat.le_refl, zn10, zn01, zfitB0, zfitB1, znarB0, znarB1, Nat.lt_irrefl, ↓zvi_eq, ↓zvr_eq]
  have h1 : nI t < v := Decidable.not_not.mp h1'
  by_cases h2 : nI 9999 < v
  · refine zOK_no (c := 1) (r := nI 0) h (by omega) (fun Q => ?_) (fun Q => ?_)
    · rw [e192]
      simp (disch := omega) only [p192_0, p192_1, p192_2, p192_3, p192_4, p192_7, p192_8, p192_9, p192_13, p192_14, p192_15, p192_16, x192_13, e51, p51_0, p51_1, p51_2, p51_5, p51_6, p51_7, p51_10, p51_11, p51_12, p51_13, p51_15, p51_16, p51_19, p51_20, p51_23, p51_24, p51_25, p51_26, p51_29, p51_30, p51_31, p51_34, p51_35, p51_36, p51_37, p51_38, p51_41, p51_42, p51_43, p51_46, p51_49, p51_52, p51_53, x51, e79, p79_0, p79_1, p79_2, p79_5, p79_8, p79_9, p79_12, p79_15, p79_26, x79, nI_ltI, Nat.not_lt_zero, Nat.lt_irrefl, zo_ia, zo_ep, eq_self, ht, ht6, h1, h2, l_dm_ok, l_dm_0, l_dm_1, l_dm_2, l_dm_2p, l_dm_3, l_dm_4, l_dm_4p, l_dm_5, l_dm_6, l_dm_6p, l_dm_7, l_dm_7p, l_dm_8, l_dm_8p, l_dm_9, l_dm_9p, l_dm_10, l_dm_11, l_dm_12, l_dm_13, l_dm_14, l_bxa_ar, l_bxa_ln, l_bxa_ia, l_bxa_e, l_lea_ar, l_lea_ln, l_lea_ia, l_lea_e, l_qua_ar, l_qua_ln, l_qua_ia, l_qua_e, l_bo_ar, l_bo_ln, l_bo_ia, l_bo_is, l_bo_e, l_bo_ep, l_fc_ar, l_fc_ln, l_fc_ia, l_fc_is, l_fc_e, l_fc_ep, zvi_int, zvl_long, zvd_double, zvr_ref, zisI_int, zisR_ref, zgI_int, zgR_ref, zkl_int, zkl_ref, zkl_none, zkl_long, zkl_double, zct_nil, zct_int, zct_ref, zct_long, zct_double, zbk_some, zbk_none, zbk_exc, nI_clamp, nI_add, nI_mul, true_and, and_true, Nat.reduceAdd, Nat.reduceMul, Nat.reduceLeDiff, Nat.reducePow, ↓reduceIte, Nat.zero_add, Nat.add_zero, Nat.reduceLT, Nat.reduceEqDiff, Nat.le_refl, zn10, zn01, zfitB0, zfitB1, znarB0, znarB1, Nat.lt_irrefl, ↓zvi_eq, ↓zvr_eq]
    · rw [e149]
      simp (disch := omega) only [p149_0, p149_1, p149_2, p149_5, p149_6, p149_7, p149_10, p149_13, p149_14, p149_17, p149_20, p149_21, p149_22, p149_25, p149_26, p149_27, p149_28, p149_31, p149_32, p149_33, p149_34, p149_36, p149_37, p149_40, p149_41, p149_43, p149_45, p149_46, p149_49, p149_52, p149_53, p149_54, p149_56, p149_57, p149_60, p149_63, p149_66, p149_69, p149_70, p149_71, p149_73, p149_76, p149_79, p149_82, p149_85, p149_86, p149_88, p149_90, p149_91, p149_94, p149_95, p149_96, p149_99, p149_100, p149_102, p149_103, p149_104, p149_106, p149_108, p149_111, p149_113, p149_115, p149_116, p149_119, p149_121, p149_122, p149_125, p149_126, p149_129, p149_130, p149_132, p149_133, p149_135, p149_136, p149_137, p149_139, p149_140, p149_141, p149_143, p149_144, p149_147, p149_150, p149_153, p149_154, p149_155, p149_157, p149_158, p149_161, p149_162, p149_163, p149_165, p149_167, p149_170, p149_172, p149_175, p149_178, p149_181, p149_184, p149_187, p149_188, e116, p116_0, p116_1, p116_2, p116_5, p116_6, mTh_fold, mTh_mTh, mTh_o, mTh_th, nI_ltI, Nat.not_lt_zero, Nat.lt_irrefl, eq_self, ht, ht6, h1, h2, l_md_ok, l_md_0, l_md_0p, l_md_1, l_md_1p, l_md_2, l_md_2p, l_md_3, l_md_3p, l_md_4, l_md_4p, l_md_5, l_md_6, l_md_7, l_md_8, l_md_9, l_md_10, l_md_11, l_md_12, l_md_13, l_md_14, l_md_15, l_md_16, l_md_17, l_md_17p, l_md_18, l_md_19, l_md_20, l_md_21, l_md_22, l_md_23, l_md_24, l_md_25, l_md_26, l_md_27, l_md_28, l_md_29, l_md_30, l_md_30p, l_md_31, l_md_32, l_md_33, l_md_34, l_md_34p, l_md_35, l_md_35p, l_md_36, l_md_36p, l_md_37, l_md_37p, l_md_38, zvi_int, zvl_long, zvd_double, zvr_ref, zisI_int, zisR_ref, zgI_int, zgR_ref, zkl_int, zkl_ref, zkl_none, zkl_long, zkl_double, zct_nil, zct_int, zct_ref, zct_long, zct_double, zbk_some, zbk_none, zbk_exc, nI_clamp, nI_add, nI_mul, true_and, and_true, Nat.reduceAdd, Nat.reduceMul, Nat.reduceLeDiff, Nat.reducePow, ↓reduceIte, Nat.zero_add, Nat.add_zero, Nat.reduceLT, Nat.reduceEqDiff, Nat.le_refl, zn10, zn01, zfitB0, zfitB1, znarB0, znarB1, Nat.lt_irrefl, ↓zvi_eq, ↓zvr_eq]
  have hv0 : ¬ v < nI 0 := by
    rw [Int32.lt_iff_toInt_lt] at h1 ⊢
    rw [nI_toInt (by omega)] at h1
    rw [nI_toInt (by omega)]
    omega
  obtain ⟨v, -, hv9, rfl⟩ := zrg (by omega) hv0 h2 (by omega)
  have htv : t < v := (nI_ltI (by omega) (by omega)).mp h1
  have hG : cG n qn v w l fc nr b (su x 0 (u2 (x 0) 0 6 (nI v))) (su (mTh y 0) 0 (u2 (y 0) 0 6 (nI v))) := by
    refine ⟨⟨hn, h60, hq, h20, rfl, hv9, hw, hw50, hl, hl100⟩, hBx, hRu, ?_, hQs, iRl_su (iRl_th hRl) iSh_0 (by rw [y0])⟩
    obtain ⟨l1, l2, tm, l3, l4⟩ := hLe
    exact ⟨l1, l2, tm, fun i hi => ⟨(l3 i hi).1, by have := (l3 i hi).2; omega⟩, l4⟩
  obtain ⟨hG4, hc4⟩ := cG_cp (g := nI 0) (by omega) hG 4 (Nat.le_refl 4)
  have hsh : ∀ p, p < 4 → zShs x p := fun p hp i hi => by
    rcases (hBx p hp).1.2.2.2.1 i hi with e | ⟨-, f, hf, e⟩
    · exact Or.inl e
    · have := (hBx p hp).1.2.1
      exact Or.inr ⟨f, by omega, e⟩
  have h51 := fun (Q : zO → zM → Prop) => c51v (x := x) (y := y) (E := E) (Q := Q) (v := nI v) (n := n) (fc := fc) ⟨hn, fun p hp => ⟨hsh p hp, (hBx p hp).1.1⟩⟩ h60 (fun p hp => (hBx p hp).1.2.1) (by rw [ht]; exact h1) h2
  have hky : kY n fc (nI v) (su (mTh y 0) 0 (u2 (y 0) 0 6 (nI v))) := by
    refine ⟨hny, rfl, mTh_th y 0, fun p hp => ⟨?_, ?_, fun i h1 h2 => ?_⟩⟩
    · have := hsh p hp
      unfold zShs at this ⊢
      rw [← y25] at this
      exact this
    · show y 13 p 1 = _
      rw [y13]; exact (hBx p hp).1.1
    · show y 25 p i = -1
      rw [y25]
      rcases (hBx p hp).1.2.2.2.1 i h2 with e | ⟨h, -⟩
      · exact e
      · omega
  have h149 := fun (x : zSt) (E : zEx) (Q : zO → zM → Prop) => c149v (x := x) (y := y) (E := E) (Q := Q) (n := n) (fc := fc) (ck := nI v) h60 (fun p hp => (hBx p hp).1.2.1) hky (by rw [ht6]; exact h1) h2
  have hth := (show ∀ p, p ≤ 4 → (zfo (mCp n fc (nI v)) p (su (mTh y 0) 0 (u2 (y 0) 0 6 (nI v)), nI 0)).1 2 0 0 = nI 0 from fun p hp => mCp_th h60 (fun p hp => (hBx p hp).1.2.1) hky p hp) 4 (Nat.le_refl 4)
  rw [← hc4] at h149
  generalize zfo (sCp n fc) 4 (su x 0 (u2 (x 0) 0 6 (nI v)), nI 0) = X at hG4 h51 h149
  generalize zfo (mCp n fc (nI v)) 4 (su (mTh y 0) 0 (u2 (y 0) 0 6 (nI v)), nI 0) = Y at hG4 h149 hth
  obtain ⟨a1, a2, a3, a4, a5, a6⟩ := cG_le hG4 (b' := b + 2000) (by omega)
  refine ⟨X.1, Y.1, 0, X.2.toInt64, X.2, zLo E X.2.toInt64, ⟨n, qn, v, w, l, fc, nr, a1, a2, a3, a4, a5, a6⟩, ⟨rfl, fun _ => rfl, rfl⟩, fun Q => ?_, fun Q => h149 _ _ Q, by omega, hth, fun _ => rfl⟩
  rw [e192]
  simp (disch := omega) only [p192_0, p192_1, p192_2, p192_3, p192_4, p192_7, p192_8, p192_9, p192_13, p192_14, p192_15, p192_16, x192_13, h51, zo_ia, zo_ep, l_dm_ok, l_dm_0, l_dm_1, l_dm_2, l_dm_2p, l_dm_3, l_dm_4, l_dm_4p, l_dm_5, l_dm_6, l_dm_6p, l_dm_7, l_dm_7p, l_dm_8, l_dm_8p, l_dm_9, l_dm_9p, l_dm_10, l_dm_11, l_dm_12, l_dm_13, l_dm_14, l_bxa_ar, l_bxa_ln, l_bxa_ia, l_bxa_e, l_lea_ar, l_lea_ln, l_lea_ia, l_lea_e, l_qua_ar, l_qua_ln, l_qua_ia, l_qua_e, l_bo_ar, l_bo_ln, l_bo_ia, l_bo_is, l_bo_e, l_bo_ep, l_fc_ar, l_fc_ln, l_fc_ia, l_fc_is, l_fc_e, l_fc_ep, zvi_int, zvl_long, zvd_double, zvr_ref, zisI_int, zisR_ref, zgI_int, zgR_ref, zkl_int, zkl_ref, zkl_none, zkl_long, zkl_double, zct_nil, zct_int, zct_ref, zct_long, zct_double, zbk_some, zbk_none, zbk_exc, nI_clamp, nI_add, nI_mul, true_and, and_true, Nat.reduceAdd, Nat.reduceMul, Nat.reduceLeDiff, Nat.reducePow, ↓reduceIte, Nat.zero_add, Nat.add_zero, Nat.reduceLT, Nat.reduceEqDiff, Nat.le_refl, zn10, zn01, zfitB0, zfitB1, znarB0, znarB1, Nat.lt_irrefl, ↓zvi_eq, ↓zvr_eq]
end ZT
