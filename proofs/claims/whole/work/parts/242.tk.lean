/-! the checksums are the same (source: wip/whole/src/242.tk.txt, by expand2.py) -/
def eX (E' E : zEx) : Prop := E'.2.1 0 = E.2.1 0 ∧ (∀ j, E'.2.2.1 0 j = E.2.2.1 0 j) ∧ E'.2.2.2 = E.2.2.2
theorem eX_refl (E : zEx) : eX E E := ⟨rfl, fun _ => rfl, rfl⟩
theorem eX_trans {A B C : zEx} (h : eX A B) (h' : eX B C) : eX A C := ⟨h.1.trans h'.1, fun j => (h.2.1 j).trans (h'.2.1 j), h.2.2.trans h'.2.2⟩
theorem eX_a (E : zEx) (n : Nat) (g : Nat → Int32) : eX (zEa E n g) E := by
  refine ⟨?_, fun j => ?_, rfl⟩
  · show (if 0 = aX E then (20, n) else E.2.1 0) = E.2.1 0
    rw [if_neg (by unfold aX; omega)]
  · show (if 0 = aX E then .int (g j) else E.2.2.1 0 j) = E.2.2.1 0 j
    rw [if_neg (by unfold aX; omega)]
def yMb (y : zSt) (r : Nat → Option Nat) (p n qn c : Nat) (d : Int64) : Int64 :=
  sMf (fun q i => sFd y p i qn (nI q)) n qn (zfo (fun i d => yMc y r p n i d) n (zfo (fun f d => zfo (fun k d => sMx d (sTf y p f n (nI k))) 6 d) c
    (sMx (sMx (sMx d (sSz (y 25 p) (y 33 0) n)) (nI c)) (nI (tcnt (fun i => decide (r i = some i)) n)))))
def yDg (y : zSt) (n qn : Nat) (fc : Nat → Nat) (adj : Nat → Nat → Nat → Bool) : Int64 := zfo (fun p d => yMb y (mRo (xKe y p) (adj p) n) p n qn (fc p) d) 4 (zfo (fun a d => sMx d (y 1 0 a)) 10 (sMx (sMx (Int64.ofNat 2689) (nI n)) (y 0 0 9)))
section ZC
variable {x y : zSt} {E : zEx} {va vu : Nat}
theorem c181_p {p n qn c : Nat} {d : Int64} {w : Int32} {adj : Nat → Nat → Bool} {l4 l5 l6 : Option Value} (hv : va + 2 ≤ 8 ∧ vu + 120 ≤ 480) (hp : p < 4) (hn : y 0 0 2 = nI n) (h60 : n ≤ 60) (hqy : y 0 0 4 = nI qn) (h20 : qn ≤ 20) (hB : zBx y p n c) (hQ : zQs y qn) (hw : y 0 0 8 = w) (hsym : ∀ a b, adj a b = adj b a) (hA : ∀ m o, o < m → m < n → adj m o = mBs y w m o) (ha : ∀ j, j < n → y 34 0 j = -1 ∨ ∃ k, k < j ∧ y 34 0 j = nI k) : ∃ (E' : zEx) (l4' l5' l6' : Option Value), eX E' E ∧ ∀ Q : zO → zM → Prop, zwp zm_181 (68, [some (.ref 409), some (.long d), none, some (.int (nI p)), l4, l5, l6], [], zmem x y E, va, vu) Q ↔ zwp zm_181 (68, [some (.ref 409), some (.long (yMb y (mRo (xKe y p) adj n) p n qn c d)), none, some (.int (nI (p + 1))), l4', l5', l6'], [], zmem x y E', va + 1 + 1, vu + 60 + 60) Q := by
  have hc1 : y 13 p 1 = nI c := hB.1
  obtain ⟨g1, -, h162⟩ := c162 (x := x) (y := y) (E := E) (w := w) (adj := adj) hp hn h60 hw hsym hA
  obtain ⟨g2, hg2, h161⟩ := c161 (x := x) (y := y) (E := zEa E n g1) (w := w) (adj := adj) hp hn h60 hw hsym hA
  have h138 := fun (E : zEx) (Q : zO → zM → Prop) => c138 (x := x) (y := y) (E := E) (Q := Q) (p := p) (n := n) hp hn h60
  obtain ⟨l5', hf⟩ := c181_f (x := x) (y := y) (E := zEa E n g1) (va := va + 1) (vu := vu + 60) (d := sMx (sMx (sMx d (sSz (y 25 p) (y 33 0) n)) (nI c)) (nI (tcnt (fun i => decide (mRo (xKe y p) adj n i = some i)) n))) (l5 := l5) (l6 := l6) (by omega) hp hn h60 hB
  obtain ⟨l6', hm⟩ := c181_m (x := x) (y := y) (E := zEa E n g1) (va := va + 1 + 1) (vu := vu + 60 + 60) (d := zfo (fun f d => zfo (fun k d => sMx d (sTf y p f n (nI k))) 6 d) c (sMx (sMx (sMx d (sSz (y 25 p) (y 33 0) n)) (nI c)) (nI (tcnt (fun i => decide (mRo (xKe y p) adj n i = some i)) n)))) (r := mRo (xKe y p) adj n) (g := g2) (l6 := l6) (by omega) hp hn h60 (fun i hi j e => by have := mRo_lt hsym hi j e; omega) hg2 ha
  have f1 : va ≤ 8 := by omega
  have f2 : va ≤ 7 := by omega
  have f3 : va ≤ 6 := by omega
  have f4 : va + 1 ≤ 8 := by omega
  have f5 : va + 1 ≤ 7 := by omega
  have f6 : va + 1 + 1 ≤ 8 := by omega
  have s1 : vu ≤ 480 := by omega
  have s2 : vu ≤ 420 := by omega
  have s3 : vu ≤ 360 := by omega
  have s4 : vu + 60 ≤ 480 := by omega
  have s5 : vu + 60 ≤ 420 := by omega
  have s6 : vu + 60 + 60 ≤ 480 := by omega
  refine ⟨zEa (zEa E n g1) n g2, some (.ref (aX (zEa E n g1))), some (.int (nI qn)), l6', eX_trans (eX_a _ n g2) (eX_a E n g1), fun Q => ?_⟩
  rw [p181_68]
  simp (disch := omega) only [p181_0, p181_1, p181_2, p181_5, p181_8, p181_9, p181_12, p181_13, p181_14, p181_17, p181_18, p181_19, p181_22, p181_23, p181_24, p181_25, p181_26, p181_29, p181_30, p181_31, p181_32, p181_34, p181_35, p181_37, p181_39, p181_41, p181_44, p181_45, p181_47, p181_48, p181_50, p181_51, p181_54, p181_55, p181_57, p181_58, p181_59, p181_60, p181_63, p181_66, p181_67, p181_69, p181_70, p181_73, p181_74, p181_77, p181_78, p181_79, p181_80, p181_83, p181_84, p181_85, p181_88, p181_89, p181_90, p181_93, p181_94, p181_95, p181_96, p181_97, p181_100, p181_101, p181_102, p181_103, p181_106, p181_107, p181_108, p181_109, p181_110, p181_114, p181_115, p181_118, p181_119, p181_120, p181_123, p181_124, p181_126, p181_128, p181_130, p181_133, p181_134, p181_137, p181_138, p181_139, p181_140, p181_142, p181_144, p181_147, p181_148, p181_149, p181_150, p181_153, p181_156, p181_159, p181_163, p181_164, p181_167, p181_169, p181_170, p181_174, p181_175, p181_178, p181_181, p181_182, p181_184, p181_186, p181_187, p181_190, p181_191, p181_194, p181_195, p181_196, p181_197, p181_199, p181_201, p181_204, p181_205, p181_206, p181_207, p181_210, p181_213, p181_214, p181_216, p181_218, p181_219, p181_222, p181_223, p181_226, p181_227, p181_229, p181_230, p181_232, p181_233, p181_234, p181_235, p181_238, p181_239, p181_242, p181_243, p181_244, p181_245, p181_247, p181_249, p181_251, p181_254, p181_255, p181_256, p181_257, p181_260, p181_263, p181_266, p181_269, p181_270, p181_274, p181_275, p181_278, p181_281, p181_282, p181_285, p181_286, p181_287, p181_288, p181_290, p181_293, p181_294, p181_295, p181_296, p181_299, p181_302, p181_305, p181_308, p181_309, h138, h162, hc1, nI_ltI, hp, f1, f2, f3, f4, f5, f6, s1, s2, s3, s4, s5, s6, l_md_ok, l_md_0, l_md_0p, l_md_1, l_md_1p, l_md_2, l_md_2p, l_md_3, l_md_3p, l_md_4, l_md_4p, l_md_5, l_md_6, l_md_7, l_md_8, l_md_9, l_md_10, l_md_11, l_md_12, l_md_13, l_md_14, l_md_15, l_md_16, l_md_17, l_md_17p, l_md_18, l_md_19, l_md_20, l_md_21, l_md_22, l_md_23, l_md_24, l_md_25, l_md_26, l_md_27, l_md_28, l_md_29, l_md_30, l_md_30p, l_md_31, l_md_32, l_md_33, l_md_34, l_md_34p, l_md_35, l_md_35p, l_md_36, l_md_36p, l_md_37, l_md_37p, l_md_38, l_mfolders_ar, l_mfolders_ln, l_mfolders_ia, l_mfolders_is, l_mfolders_e, l_mfolders_ep, zvi_int, zvl_long, zvd_double, zvr_ref, zisI_int, zisR_ref, zgI_int, zgR_ref, zkl_int, zkl_ref, zkl_none, zkl_long, zkl_double, zct_nil, zct_int, zct_ref, zct_long, zct_double, zbk_some, zbk_none, zbk_exc, nI_clamp, nI_add, nI_mul, true_and, and_true, Nat.reduceAdd, Nat.reduceMul, Nat.reduceLeDiff, Nat.reducePow, ↓reduceIte, Nat.zero_add, Nat.add_zero, Nat.reduceLT, Nat.reduceEqDiff, Nat.le_refl, zn10, zn01, zfitB0, zfitB1, znarB0, znarB1, Nat.lt_irrefl, ↓zvi_eq, ↓zvr_eq]
  refine (hf Q).trans ?_
  rw [p181_162]
  simp (disch := omega) only [p181_0, p181_1, p181_2, p181_5, p181_8, p181_9, p181_12, p181_13, p181_14, p181_17, p181_18, p181_19, p181_22, p181_23, p181_24, p181_25, p181_26, p181_29, p181_30, p181_31, p181_32, p181_34, p181_35, p181_37, p181_39, p181_41, p181_44, p181_45, p181_47, p181_48, p181_50, p181_51, p181_54, p181_55, p181_57, p181_58, p181_59, p181_60, p181_63, p181_66, p181_67, p181_69, p181_70, p181_73, p181_74, p181_77, p181_78, p181_79, p181_80, p181_83, p181_84, p181_85, p181_88, p181_89, p181_90, p181_93, p181_94, p181_95, p181_96, p181_97, p181_100, p181_101, p181_102, p181_103, p181_106, p181_107, p181_108, p181_109, p181_110, p181_114, p181_115, p181_118, p181_119, p181_120, p181_123, p181_124, p181_126, p181_128, p181_130, p181_133, p181_134, p181_137, p181_138, p181_139, p181_140, p181_142, p181_144, p181_147, p181_148, p181_149, p181_150, p181_153, p181_156, p181_159, p181_162, p181_163, p181_164, p181_167, p181_169, p181_170, p181_174, p181_175, p181_178, p181_181, p181_182, p181_184, p181_186, p181_187, p181_190, p181_191, p181_194, p181_195, p181_196, p181_197, p181_199, p181_201, p181_204, p181_205, p181_206, p181_207, p181_210, p181_213, p181_214, p181_216, p181_218, p181_219, p181_222, p181_223, p181_226, p181_227, p181_229, p181_230, p181_232, p181_233, p181_234, p181_235, p181_238, p181_239, p181_242, p181_243, p181_244, p181_245, p181_247, p181_249, p181_251, p181_254, p181_255, p181_256, p181_257, p181_260, p181_263, p181_266, p181_269, p181_270, p181_274, p181_275, p181_278, p181_281, p181_282, p181_285, p181_286, p181_287, p181_288, p181_290, p181_293, p181_294, p181_295, p181_296, p181_299, p181_302, p181_305, p181_308, p181_309, h161, nI_ltI, f1, f2, f3, f4, f5, f6, s1, s2, s3, s4, s5, s6, l_md_ok, l_md_0, l_md_0p, l_md_1, l_md_1p, l_md_2, l_md_2p, l_md_3, l_md_3p, l_md_4, l_md_4p, l_md_5, l_md_6, l_md_7, l_md_8, l_md_9, l_md_10, l_md_11, l_md_12, l_md_13, l_md_14, l_md_15, l_md_16, l_md_17, l_md_17p, l_md_18, l_md_19, l_md_20, l_md_21, l_md_22, l_md_23, l_md_24, l_md_25, l_md_26, l_md_27, l_md_28, l_md_29, l_md_30, l_md_30p, l_md_31, l_md_32, l_md_33, l_md_34, l_md_34p, l_md_35, l_md_35p, l_md_36, l_md_36p, l_md_37, l_md_37p, l_md_38, zvi_int, zvl_long, zvd_double, zvr_ref, zisI_int, zisR_ref, zgI_int, zgR_ref, zkl_int, zkl_ref, zkl_none, zkl_long, zkl_double, zct_nil, zct_int, zct_ref, zct_long, zct_double, zbk_some, zbk_none, zbk_exc, nI_clamp, nI_add, nI_mul, true_and, and_true, Nat.reduceAdd, Nat.reduceMul, Nat.reduceLeDiff, Nat.reducePow, ↓reduceIte, Nat.zero_add, Nat.add_zero, Nat.reduceLT, Nat.reduceEqDiff, Nat.le_refl, zn10, zn01, zfitB0, zfitB1, znarB0, znarB1, Nat.lt_irrefl, ↓zvi_eq, ↓zvr_eq]
  refine (hm Q).trans ?_
  refine (c181_q (x := x) (y := y) (E := zEa (zEa E n g1) n g2) (va := va + 1 + 1) (vu := vu + 60 + 60) (by omega) hp hn h60 hqy h20 hB hQ).trans ?_
  exact Iff.rfl
theorem c181 {n qn : Nat} {fc : Nat → Nat} {w : Int32} {adj : Nat → Nat → Nat → Bool} (hn : y 0 0 2 = nI n) (h60 : n ≤ 60) (hqy : y 0 0 4 = nI qn) (h20 : qn ≤ 20) (hB : ∀ p, p < 4 → zBx y p n (fc p)) (hQ : zQs y qn) (hw : y 0 0 8 = w) (hsym : ∀ p a b, adj p a b = adj p b a) (hA : ∀ p m o, o < m → m < n → adj p m o = mBs y w m o) (ha : ∀ j, j < n → y 34 0 j = -1 ∨ ∃ k, k < j ∧ y 34 0 j = nI k) : ∃ E', eX E' E ∧ ∀ Q : zO → zM → Prop, zcl 181 [.ref 409] (zmem x y E) Q ↔ Q (.inl (some (.long (yDg (mTh y 0) n qn fc adj)))) (zmem x (mTh y 0) E') := by
  obtain ⟨l6, h37⟩ := c181_a (x := x) (y := mTh y 0) (E := E) (va := 0) (vu := 0) (d := sMx (sMx (Int64.ofNat 2689) (nI n)) (y 0 0 9)) (A := 0) (by omega)
  obtain ⟨⟨d1, E1, l4, l5, l6'⟩, ⟨h1, hE⟩, h2⟩ := zforR (X := Int64 × zEx × Option Value × Option Value × Option Value) (T := Int64) (n := 4) (f := fun p d => yMb (mTh y 0) (mRo (xKe (mTh y 0) p) (adj p) n) p n qn (fc p) d) (P := fun p s Q => zwp zm_181 (68, [some (.ref 409), some (.long s.1), none, some (.int (nI p)), s.2.2.1, s.2.2.2.1, s.2.2.2.2], [], zmem x (mTh y 0) s.2.1, 2 * p, 120 * p) Q) (R := fun _ t s => s.1 = t ∧ eX s.2.1 E) (fun p t s hp hR => by
    obtain ⟨hR, hE⟩ := hR
    subst hR
    obtain ⟨E', l4', l5', l6', h1, h2⟩ := c181_p (x := x) (y := mTh y 0) (E := s.2.1) (va := 2 * p) (vu := 120 * p) (p := p) (n := n) (qn := qn) (c := fc p) (d := s.1) (w := w) (adj := adj p) (l4 := s.2.2.1) (l5 := s.2.2.2.1) (l6 := s.2.2.2.2) (by omega) hp hn h60 hqy h20 (hB p hp) hQ hw (hsym p) (hA p) ha
    refine ⟨(_, E', l4', l5', l6'), ⟨rfl, eX_trans h1 hE⟩, fun Q => ?_⟩
    rw [show 2 * (p + 1) = 2 * p + 1 + 1 by omega, show 120 * (p + 1) = 120 * p + 60 + 60 by omega]
    exact h2 Q) (zfo (fun a d => sMx d (y 1 0 a)) 10 (sMx (sMx (Int64.ofNat 2689) (nI n)) (y 0 0 9))) (zfo (fun a d => sMx d (y 1 0 a)) 10 (sMx (sMx (Int64.ofNat 2689) (nI n)) (y 0 0 9)), E, some (.int (nI 10)), some (.int (nI 10)), l6) ⟨rfl, eX_refl E⟩ 4 (Nat.le_refl 4)
  dsimp only at h1 hE h2
  refine ⟨E1, hE, fun Q => ?_⟩
  rw [e181]
  simp (disch := omega) only [p181_0, p181_1, p181_2, p181_5, p181_8, p181_9, p181_12, p181_13, p181_14, p181_17, p181_18, p181_19, p181_22, p181_23, p181_24, p181_25, p181_26, p181_29, p181_30, p181_31, p181_32, p181_34, p181_35, p181_39, p181_41, p181_44, p181_45, p181_47, p181_48, p181_50, p181_51, p181_54, p181_55, p181_57, p181_58, p181_59, p181_60, p181_63, p181_66, p181_67, p181_69, p181_70, p181_73, p181_74, p181_77, p181_78, p181_79, p181_80, p181_83, p181_84, p181_85, p181_88, p181_89, p181_90, p181_93, p181_94, p181_95, p181_96, p181_97, p181_100, p181_101, p181_102, p181_103, p181_106, p181_107, p181_108, p181_109, p181_110, p181_112, p181_114, p181_115, p181_118, p181_119, p181_120, p181_123, p181_124, p181_126, p181_128, p181_130, p181_133, p181_134, p181_137, p181_138, p181_139, p181_140, p181_142, p181_144, p181_147, p181_148, p181_149, p181_150, p181_153, p181_156, p181_159, p181_162, p181_163, p181_164, p181_167, p181_169, p181_170, p181_172, p181_174, p181_175, p181_178, p181_181, p181_182, p181_184, p181_186, p181_187, p181_190, p181_191, p181_194, p181_195, p181_196, p181_197, p181_199, p181_201, p181_204, p181_205, p181_206, p181_207, p181_210, p181_213, p181_214, p181_216, p181_218, p181_219, p181_222, p181_223, p181_226, p181_227, p181_229, p181_230, p181_232, p181_233, p181_234, p181_235, p181_238, p181_239, p181_242, p181_243, p181_244, p181_245, p181_247, p181_249, p181_251, p181_254, p181_255, p181_256, p181_257, p181_260, p181_263, p181_266, p181_269, p181_270, p181_272, p181_274, p181_275, p181_278, p181_281, p181_282, p181_285, p181_286, p181_287, p181_288, p181_290, p181_293, p181_294, p181_295, p181_296, p181_299, p181_302, p181_305, p181_308, p181_309, mTh_fold, mTh_o, hn, l_md_ok, l_md_0, l_md_0p, l_md_1, l_md_1p, l_md_2, l_md_2p, l_md_3, l_md_3p, l_md_4, l_md_4p, l_md_5, l_md_6, l_md_7, l_md_8, l_md_9, l_md_10, l_md_11, l_md_12, l_md_13, l_md_14, l_md_15, l_md_16, l_md_17, l_md_17p, l_md_18, l_md_19, l_md_20, l_md_21, l_md_22, l_md_23, l_md_24, l_md_25, l_md_26, l_md_27, l_md_28, l_md_29, l_md_30, l_md_30p, l_md_31, l_md_32, l_md_33, l_md_34, l_md_34p, l_md_35, l_md_35p, l_md_36, l_md_36p, l_md_37, l_md_37p, l_md_38, l_mbounces_ar, l_mbounces_ln, l_mbounces_ia, l_mbounces_is, l_mbounces_e, l_mbounces_ep, zvi_int, zvl_long, zvd_double, zvr_ref, zisI_int, zisR_ref, zgI_int, zgR_ref, zkl_int, zkl_ref, zkl_none, zkl_long, zkl_double, zct_nil, zct_int, zct_ref, zct_long, zct_double, zbk_some, zbk_none, zbk_exc, nI_clamp, nI_add, nI_mul, true_and, and_true, Nat.reduceAdd, Nat.reduceMul, Nat.reduceLeDiff, Nat.reducePow, ↓reduceIte, Nat.zero_add, Nat.add_zero, Nat.reduceLT, Nat.reduceEqDiff, Nat.le_refl, zn10, zn01, zfitB0, zfitB1, znarB0, znarB1, Nat.lt_irrefl, ↓zvi_eq, ↓zvr_eq]
  refine Iff.trans ?_ ((h37 Q).trans ?_)
  · exact Iff.rfl
  refine (h2 Q).trans ?_
  subst h1
  rw [p181_68]
  simp (disch := omega) only [p181_0, p181_1, p181_2, p181_5, p181_8, p181_9, p181_12, p181_13, p181_14, p181_17, p181_18, p181_19, p181_22, p181_23, p181_24, p181_25, p181_26, p181_29, p181_30, p181_31, p181_32, p181_34, p181_35, p181_39, p181_41, p181_44, p181_45, p181_47, p181_48, p181_50, p181_51, p181_54, p181_55, p181_57, p181_58, p181_59, p181_60, p181_63, p181_66, p181_67, p181_69, p181_70, p181_73, p181_74, p181_77, p181_78, p181_79, p181_80, p181_83, p181_84, p181_85, p181_88, p181_89, p181_90, p181_93, p181_94, p181_95, p181_96, p181_97, p181_100, p181_101, p181_102, p181_103, p181_106, p181_107, p181_108, p181_109, p181_110, p181_112, p181_114, p181_115, p181_118, p181_119, p181_120, p181_123, p181_124, p181_126, p181_128, p181_130, p181_133, p181_134, p181_137, p181_138, p181_139, p181_140, p181_142, p181_144, p181_147, p181_148, p181_149, p181_150, p181_153, p181_156, p181_159, p181_162, p181_163, p181_164, p181_167, p181_169, p181_170, p181_172, p181_174, p181_175, p181_178, p181_181, p181_182, p181_184, p181_186, p181_187, p181_190, p181_191, p181_194, p181_195, p181_196, p181_197, p181_199, p181_201, p181_204, p181_205, p181_206, p181_207, p181_210, p181_213, p181_214, p181_216, p181_218, p181_219, p181_222, p181_223, p181_226, p181_227, p181_229, p181_230, p181_232, p181_233, p181_234, p181_235, p181_238, p181_239, p181_242, p181_243, p181_244, p181_245, p181_247, p181_249, p181_251, p181_254, p181_255, p181_256, p181_257, p181_260, p181_263, p181_266, p181_269, p181_270, p181_272, p181_274, p181_275, p181_278, p181_281, p181_282, p181_285, p181_286, p181_287, p181_288, p181_290, p181_293, p181_294, p181_295, p181_296, p181_299, p181_302, p181_305, p181_308, p181_309, nI_ltI, Nat.lt_irrefl, l_md_ok, l_md_0, l_md_0p, l_md_1, l_md_1p, l_md_2, l_md_2p, l_md_3, l_md_3p, l_md_4, l_md_4p, l_md_5, l_md_6, l_md_7, l_md_8, l_md_9, l_md_10, l_md_11, l_md_12, l_md_13, l_md_14, l_md_15, l_md_16, l_md_17, l_md_17p, l_md_18, l_md_19, l_md_20, l_md_21, l_md_22, l_md_23, l_md_24, l_md_25, l_md_26, l_md_27, l_md_28, l_md_29, l_md_30, l_md_30p, l_md_31, l_md_32, l_md_33, l_md_34, l_md_34p, l_md_35, l_md_35p, l_md_36, l_md_36p, l_md_37, l_md_37p, l_md_38, zvi_int, zvl_long, zvd_double, zvr_ref, zisI_int, zisR_ref, zgI_int, zgR_ref, zkl_int, zkl_ref, zkl_none, zkl_long, zkl_double, zct_nil, zct_int, zct_ref, zct_long, zct_double, zbk_some, zbk_none, zbk_exc, nI_clamp, nI_add, nI_mul, true_and, and_true, Nat.reduceAdd, Nat.reduceMul, Nat.reduceLeDiff, Nat.reducePow, ↓reduceIte, Nat.zero_add, Nat.add_zero, Nat.reduceLT, Nat.reduceEqDiff, Nat.le_refl, zn10, zn01, zfitB0, zfitB1, znarB0, znarB1, Nat.lt_irrefl, ↓zvi_eq, ↓zvr_eq]
  exact Iff.rfl
theorem t31 {b : Nat} (h : zInv x y b) : ∃ (x' : zSt) (E' : zEx) (v : Int64), zInv x' (mTh y 0) (b + 2000) ∧ eX E' E ∧ (∀ Q : zO → zM → Prop, zcl 72 [.ref 1] (zmem x y E) Q ↔ Q (.inl (some (.long v))) (zmem x' y E)) ∧ ∀ Q : zO → zM → Prop, zcl 181 [.ref 409] (zmem x' y E) Q ↔ Q (.inl (some (.long v))) (zmem x' (mTh y 0) E') := by
  obtain ⟨n, qn, t, w, l, fc, nr, hSc, hBx, hRu, hLe, hQs, hRl⟩ := id h
  obtain ⟨hn, h60, hq, h20, ht, ht9, hw, hw50, hl, hl100⟩ := id hSc
  have y0 : y 0 = x 0 := iRl_sh hRl iSh_0
  have y1 : y 1 = x 1 := iRl_sh hRl iSh_1
  have y13 : y 13 = x 13 := iRl_sh hRl (iSh_a (by omega) (by omega))
  have y14 : y 14 = x 14 := iRl_sh hRl (iSh_a (by omega) (by omega))
  have y15 : y 15 = x 15 := iRl_sh hRl (iSh_a (by omega) (by omega))
  have y16 : y 16 = x 16 := iRl_sh hRl (iSh_a (by omega) (by omega))
  have y24 : y 24 = x 24 := iRl_sh hRl (iSh_b (by omega) (by omega))
  have y25 : y 25 = x 25 := iRl_sh hRl (iSh_b (by omega) (by omega))
  have y26 : y 26 = x 26 := iRl_sh hRl (iSh_b (by omega) (by omega))
  have y27 : y 27 = x 27 := iRl_sh hRl (iSh_b (by omega) (by omega))
  have y28 : y 28 = x 28 := iRl_sh hRl (iSh_b (by omega) (by omega))
  have y29 : y 29 = x 29 := iRl_sh hRl (iSh_b (by omega) (by omega))
  have y36 : y 36 = x 36 := iRl_sh hRl (iSh_c (by omega) (by omega))
  have y37 : y 37 = x 37 := iRl_sh hRl (iSh_c (by omega) (by omega))
  have y38 : y 38 = x 38 := iRl_sh hRl (iSh_c (by omega) (by omega))
  have hny : y 0 0 2 = nI n := by rw [y0]; exact hn
  have hqy : y 0 0 4 = nI qn := by rw [y0]; exact hq
  have hsym := xAd_sym (w := w) hLe ht9
  have hax : ∀ j, j < 60 → x 34 0 j = -1 ∨ ∃ k, k < 60 ∧ x 34 0 j = nI k := fun j hj => (hLe.1 j hj).imp id (fun ⟨k, hk, e⟩ => ⟨k, by omega, e⟩)
  obtain ⟨x', hx', h72⟩ := c72 (x := x) (y := y) (E := E) (n := n) (qn := qn) (fc := fc) (w := nI w) hn h60 hq h20 (fun p hp => ⟨(hBx p hp).1.1, (hBx p hp).1.2.1⟩) hw hsym hax
  have hA := xAd_mBs (w := w) hLe h60 ht9 hRl
  have hQy : zQs y qn := by unfold zQs; rw [y36, y37]; exact hQs
  have hay : ∀ j, j < n → y 34 0 j = -1 ∨ ∃ k, k < j ∧ y 34 0 j = nI k := fun j hj => by
    rw [hRl.2.1 34 j (by omega) (by omega) hj]; exact hLe.1 j (by omega)
  obtain ⟨E', hE, h181⟩ := c181 (x := x') (y := y) (E := E) (n := n) (qn := qn) (fc := fc) (w := nI w) (adj := fun _ => xAd x n (nI w)) hny h60 hqy h20 (fun p hp => by unfold zBx; rw [y13, y14, y25, y27]; exact (hBx p hp).1) hQy (by rw [y0]; exact hw) (fun _ => hsym) (fun _ => hA) hay
  have hRt : iRl x (mTh y 0) n nr := iRl_th hRl
  have e25 : mTh y 0 25 = x 25 := iRl_sh hRt (iSh_b (by omega) (by omega))
  have e27 : mTh y 0 27 = x 27 := iRl_sh hRt (iSh_b (by omega) (by omega))
  have eq : yDg (mTh y 0) n qn fc (fun _ => xAd x n (nI w)) = sDg x n qn fc (nI w) := by
    unfold yDg sDg
    rw [show mTh y 0 1 = x 1 from iRl_sh hRt iSh_1, show mTh y 0 0 = x 0 from iRl_sh hRt iSh_0]
    refine zfo_ext 4 _ (fun p d hp => ?_)
    have hke : xKe (mTh y 0) p = xKe x p := by unfold xKe; rw [e25]
    have hO := tDr_ok (kept := xKe x p) (seen := xSe x p) (adj := xAd x n (nI w)) h60 hsym n (Nat.le_refl n)
    have hT := tO_lab hO
    have hR := mRo_ok (kept := xKe x p) hsym n
    have htc : tcnt (fun i => decide (mRo (xKe x p) (xAd x n (nI w)) n i = some i)) n = (xDr x p n (nI w)).2.2.2.2 := by
      rw [show (xDr x p n (nI w)).2.2.2.2 = _ from hO.2.2.2.2.2]
      exact tcnt_ext n (fun i hi => by rw [← tLab_uniq hT hR hi])
    unfold yMb sMb
    rw [hke, htc, sSz_ext (show mTh y 0 25 p = x 25 p by rw [e25]) (fun i hi => hRt.2.1 33 i (by omega) (by omega) hi)]
    have ef : ∀ f k, sTf (mTh y 0) p f n (nI k) = sTf x p f n (nI k) := fun f k => sTf_xy hRt p f (nI k)
    simp only [ef]
    have em : ∀ i d, i < n → yMc (mTh y 0) (mRo (xKe x p) (xAd x n (nI w)) n) p n i d = sMc x (sTv (xDr x p n (nI w)) i) p i d := fun i d hi => by
      unfold yMc sMc
      have et : ∀ k, sTc (mTh y 0) p i (nI k) = sTc x p i (nI k) := fun k => by
        unfold sTc
        rw [e25, e27, show mTh y 0 24 = x 24 from iRl_sh hRt (iSh_b (by omega) (by omega)), show mTh y 0 26 = x 26 from iRl_sh hRt (iSh_b (by omega) (by omega)), show mTh y 0 28 = x 28 from iRl_sh hRt (iSh_b (by omega) (by omega))]
      simp only [et]
      rw [e25]
      by_cases hk : x 25 p i = -1
      · rw [if_pos hk, if_pos hk]
      · rw [if_neg hk, if_neg hk]
        have e3 : mTv (mTh y 0) (mRo (xKe x p) (xAd x n (nI w)) n) p n i (nI 3) = nI (sSt (x 25 p) (x 34 0) 60 (x 34 0 i)) := by
          unfold mTv
          rw [if_neg (by decide), if_pos rfl, e25, hRt.2.1 34 i (by omega) (by omega) hi, sSt_ext h60 (fun j hj => hRt.2.1 34 j (by omega) (by omega) hj) (fun j hj => hLe.1 j (by omega)) 60 (x 34 0 i) (by
            rcases hLe.1 i (by omega) with e | ⟨i', hi', e⟩
            · exact Or.inl e
            · exact Or.inr ⟨i', by omega, e⟩)]
        show sMx (zfo (fun k d => sMx d (mTv (mTh y 0) (mRo (xKe x p) (xAd x n (nI w)) n) p n i (nI k))) 3 _) (mTv (mTh y 0) (mRo (xKe x p) (xAd x n (nI w)) n) p n i (nI 3)) = _
        rw [e3]
        congr 1
        exact zfo_ext 3 _ (fun k d hk3 => by rw [sTv_mTv (x := x) (y := mTh y 0) (p := p) (n := n) (w := w) (m := i) (wn := k) h60 hsym hi hk hk3 e25 e27])
    rw [zfo_ext n _ em]
    unfold sMf
    refine zfo_ext qn _ (fun q d hq => ?_)
    have et : tcnt (fun i => sFd (mTh y 0) p i qn (nI q)) n = tcnt (fun i => sFd x p i qn (nI q)) n := tcnt_ext n (fun i hi => sFd_xy hRt p qn (nI q) hi)
    exact congrArg (fun k => sMx d (nI k)) et
  rw [eq] at h181
  exact ⟨x', E', _, zInv_le (zInv_th (zInv_x h (zEqA_of hx'))) (by omega), hE, h72, h181⟩
end ZC
