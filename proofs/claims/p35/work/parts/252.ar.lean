/-! the class's calls: send, mark, empty, query (source: wip/p35/src/252.ar.txt, by expand3.py) -/
section ZA
variable {x y Y : zSt} {E : zEx} {b n qn t w l : Nat} {fc nr : Nat → Nat} {Q : zO → zM → Prop}
def xQu (x : zSt) (qn j a c : Nat) : zSt := su (su (su (su x 36 (u2 (x 36) 0 qn (nI j))) 37 (u2 (x 37) 0 qn (nI a))) 38 (u2 (x 38) 0 qn (nI c))) 0 (u2 (x 0) 0 4 (nI (qn + 1)))
theorem a64 {j a c : Nat} (h : cG n qn t w l fc nr b x y) (hv : sCq (nI qn) (nI j) (nI a) (nI c) = true) (h20' : qn < 20) : zcl 64 [.ref 2, .int (nI j), .int (nI a), .int (nI c)] (zmem x Y E) Q ↔ Q (.inl (some (.int (nI qn)))) (zmem (xQu x qn j a c) Y E) := by
  obtain ⟨hSc, hBx, hRu, hLe, hQs, hRl⟩ := id h
  obtain ⟨hn, h60, hq, h20, ht, ht9, hw, hw50, hl, hl100⟩ := id hSc
  have h88 := fun (Q : zO → zM → Prop) => c88 (x := x) (y := Y) (E := E) (Q := Q) (k := nI j) (a := nI a) (b := nI c) hq
  unfold xQu
  rw [e64]
  simp (disch := omega) only [p64_0, p64_1, p64_2, p64_3, p64_4, p64_7, p64_10, p64_21, p64_22, p64_25, p64_27, p64_30, p64_41, p64_42, p64_45, p64_47, p64_48, p64_51, p64_53, p64_54, p64_55, p64_56, p64_57, p64_60, p64_61, p64_61i, p64_62, p64_65, p64_66, p64_67, p64_70, p64_72, e22, p22_0, p22_1, p22_2, p22_5, p22_6, p22_7, p22_10, p22_11, p22_12, p22_15, nI_ltI, Nat.not_lt_zero, Nat.lt_irrefl, eq_self, hq, hv, h88, h20', su_eq, l_dm_ok, l_dm_0, l_dm_1, l_dm_2, l_dm_2p, l_dm_3, l_dm_4, l_dm_4p, l_dm_5, l_dm_6, l_dm_6p, l_dm_7, l_dm_7p, l_dm_8, l_dm_8p, l_dm_9, l_dm_9p, l_dm_10, l_dm_11, l_dm_12, l_dm_13, l_dm_14, l_qu_ok, l_qu_0, l_qu_0p, l_qu_1, l_qu_1p, l_qu_2, l_qu_2p, l_bxa_ar, l_bxa_ln, l_bxa_ia, l_bxa_e, l_lea_ar, l_lea_ln, l_lea_ia, l_lea_e, l_qua_ar, l_qua_ln, l_qua_ia, l_qua_e, l_bo_ar, l_bo_ln, l_bo_ia, l_bo_is, l_bo_e, l_bo_ep, l_fc_ar, l_fc_ln, l_fc_ia, l_fc_is, l_fc_e, l_fc_ep, zvi_int, zvl_long, zvd_double, zvr_ref, zisI_int, zisR_ref, zgI_int, zgR_ref, zkl_int, zkl_ref, zkl_none, zkl_long, zkl_double, zct_nil, zct_int, zct_ref, zct_long, zct_double, zbk_some, zbk_none, zbk_exc, nI_clamp, nI_add, nI_mul, true_and, and_true, Nat.reduceAdd, Nat.reduceMul, Nat.reduceLeDiff, Nat.reducePow, ↓reduceIte, Nat.zero_add, Nat.add_zero, Nat.reduceLT, Nat.reduceEqDiff, Nat.le_refl, zn10, zn01, zfitB0, zfitB1, znarB0, znarB1, Nat.lt_irrefl, ↓zvi_eq, ↓zvr_eq]
theorem g64 {j a c : Nat} (h : cG n qn t w l fc nr b x y) (hv : sCq (nI qn) (nI j) (nI a) (nI c) = true) (h20' : qn < 20) (hja : ¬ j = 4 ∧ ¬ j = 5) (hj : j < 100) : cG n (qn + 1) t w l fc nr b (xQu x qn j a c) (xQu y qn j a c) := by
  obtain ⟨hSc, hBx, hRu, hLe, hQs, hRl⟩ := id h
  obtain ⟨hn, h60, hq, h20, ht, ht9, hw, hw50, hl, hl100⟩ := id hSc
  have y0 : y 0 = x 0 := iRl_sh hRl iSh_0
  have y36 : y 36 = x 36 := iRl_sh hRl (iSh_c (by omega) (by omega))
  have y37 : y 37 = x 37 := iRl_sh hRl (iSh_c (by omega) (by omega))
  have y38 : y 38 = x 38 := iRl_sh hRl (iSh_c (by omega) (by omega))
  unfold xQu
  rw [y0, y36, y37, y38]
  refine ⟨⟨hn, h60, rfl, by omega, ht, ht9, hw, hw50, hl, hl100⟩, fun q hq => ?_, fun q hq => hRu q hq, hLe, fun q hqq => ?_, iRl_su (iRl_su (iRl_su (iRl_su hRl (iSh_c (by omega) (by omega)) rfl) (iSh_c (by omega) (by omega)) rfl) (iSh_c (by omega) (by omega)) rfl) iSh_0 rfl⟩
  · obtain ⟨b1, b6, b7, b8⟩ := hBx q hq
    exact ⟨b1, b6, iNum_le b7 (by omega), b8⟩
  · show (u2 (x 36) 0 qn (nI j) 0 q = nI 4 → u2 (x 37) 0 qn (nI a) 0 q = nI 0 ∨ u2 (x 37) 0 qn (nI a) 0 q = nI 1) ∧ (u2 (x 36) 0 qn (nI j) 0 q = nI 5 → ∃ a', a' < 8 ∧ u2 (x 37) 0 qn (nI a) 0 q = nI a')
    rw [u2_eq, u2_eq]
    by_cases e : q = qn
    · rw [if_pos ⟨rfl, e⟩, if_pos ⟨rfl, e⟩]
      exact ⟨fun e4 => absurd ((nI_eq (by omega) (by omega)).mp e4) hja.1, fun e5 => absurd ((nI_eq (by omega) (by omega)).mp e5) hja.2⟩
    · rw [if_neg (fun z => e z.2), if_neg (fun z => e z.2)]
      exact hQs q (by omega)
/-- a mark as it is: nothing changes -/
theorem a52a {p m k : Nat} {on : Bool} (h : cG n qn t w l fc nr b x y) (hp : p < 4) (hm : m < n) (hk : ¬ x 25 p m = -1) (hk2 : k < 2) (hon : zbit (x 27 p m) (nI k) = on) : zcl 52 [.ref 2, .int (nI p), .int (nI m), .int (nI k), .int (dI on)] (zmem x Y E) Q ↔ Q (.inl (some (.int (dI on)))) (zmem x Y E) := by
  obtain ⟨hSc, hBx, hRu, hLe, hQs, hRl⟩ := id h
  obtain ⟨hn, h60, hq, h20, ht, ht9, hw, hw50, hl, hl100⟩ := id hSc
  have hkk : k = 0 ∨ k = 1 := by omega
  rw [e52]
  rcases hkk with e | e <;> subst e <;> cases on <;>
    simp (disch := omega) only [p52_0, p52_1, p52_2, p52_5, p52_7, p52_8, p52_10, p52_11, p52_14, p52_15, p52_18, p52_19, p52_20, p52_23, p52_33, p52_35, p52_38, p52_39, p52_40, p52_42, p52_44, p52_45, p52_48, p52_50, p52_52, p52_54, p52_57, p52_59, p52_59i, p52_60, p52_63, p52_64, p52_65, p52_66, p52_67, p52_70, p52_71, p52_73, p52_76, p52_78, e76, p76_0, p76_1, p76_2, p76_5, p76_8, p76_9, p76_12, p76_13, p76_14, p76_17, p76_20, p76_31, c73, c84, c5, c6, c94, nI_ltI, Nat.not_lt_zero, Nat.lt_irrefl, eq_self, hn, hm, hk, hon, nI_eq, dI_f, dI_t, Bool.false_eq_true, l_dm_ok, l_dm_0, l_dm_1, l_dm_2, l_dm_2p, l_dm_3, l_dm_4, l_dm_4p, l_dm_5, l_dm_6, l_dm_6p, l_dm_7, l_dm_7p, l_dm_8, l_dm_8p, l_dm_9, l_dm_9p, l_dm_10, l_dm_11, l_dm_12, l_dm_13, l_dm_14, l_bx_ok, l_bx_0, l_bx_1, l_bx_1p, l_bx_2, l_bx_3, l_bx_3p, l_bx_4, l_bx_5, l_bx_5p, l_co_ok, l_co_0, l_co_0p, l_co_1, l_co_1p, l_co_2, l_co_2p, l_co_3, l_co_3p, l_co_4, l_co_4p, l_co_5, l_co_5p, l_bxa_ar, l_bxa_ln, l_bxa_ia, l_bxa_e, l_lea_ar, l_lea_ln, l_lea_ia, l_lea_e, l_qua_ar, l_qua_ln, l_qua_ia, l_qua_e, l_bo_ar, l_bo_ln, l_bo_ia, l_bo_is, l_bo_e, l_bo_ep, l_fc_ar, l_fc_ln, l_fc_ia, l_fc_is, l_fc_e, l_fc_ep, l_sha_ar, l_sha_ln, l_sha_ia, l_sha_e, l_rua_ar, l_rua_ln, l_rua_ia, l_rua_e, l_rua_ep, l_rua_e2, l_coa_ar, l_coa_ln, l_coa_ia, l_coa_e, zvi_int, zvl_long, zvd_double, zvr_ref, zisI_int, zisR_ref, zgI_int, zgR_ref, zkl_int, zkl_ref, zkl_none, zkl_long, zkl_double, zct_nil, zct_int, zct_ref, zct_long, zct_double, zbk_some, zbk_none, zbk_exc, nI_clamp, nI_add, nI_mul, true_and, and_true, Nat.reduceAdd, Nat.reduceMul, Nat.reduceLeDiff, Nat.reducePow, ↓reduceIte, Nat.zero_add, Nat.add_zero, Nat.reduceLT, Nat.reduceEqDiff, Nat.le_refl, zn10, zn01, zfitB0, zfitB1, znarB0, znarB1, Nat.lt_irrefl, ↓zvi_eq, ↓zvr_eq]
/-- a mark that changes -/
theorem a52b {p m k mk mx : Nat} {on : Bool} (h : cG n qn t w l fc nr b x y) (hp : p < 4) (hm : m < n) (hk : ¬ x 25 p m = -1) (hk2 : k < 2) (em : x 27 p m = nI mk) (hon : zbit (nI mk) (nI k) = on) (ex : nI mk ^^^ (nI 1 <<< (nI k &&& 31)) = nI mx) : zcl 52 [.ref 2, .int (nI p), .int (nI m), .int (nI k), .int (dI (!on))] (zmem x Y E) Q ↔ Q (.inl (some (.int (dI on)))) (zmem (sRe (su x 27 (u2 (x 27) p m (nI mx))) p m) Y E) := by
  obtain ⟨hSc, hBx, hRu, hLe, hQs, hRl⟩ := id h
  obtain ⟨hn, h60, hq, h20, ht, ht9, hw, hw50, hl, hl100⟩ := id hSc
  have hkk : k = 0 ∨ k = 1 := by omega
  rw [e52]
  rcases hkk with e | e <;> subst e <;> cases on <;> simp only [Bool.not_true, Bool.not_false] <;>
    simp (disch := omega) only [p52_0, p52_1, p52_2, p52_5, p52_7, p52_8, p52_10, p52_11, p52_14, p52_15, p52_18, p52_19, p52_20, p52_23, p52_33, p52_35, p52_38, p52_39, p52_40, p52_42, p52_44, p52_45, p52_48, p52_50, p52_52, p52_54, p52_57, p52_59, p52_59i, p52_60, p52_63, p52_64, p52_65, p52_66, p52_67, p52_70, p52_71, p52_73, p52_76, p52_78, e76, p76_0, p76_1, p76_2, p76_5, p76_8, p76_9, p76_12, p76_13, p76_14, p76_17, p76_20, p76_31, c73, c84, c5, c6, c94, nI_ltI, Nat.not_lt_zero, Nat.lt_irrefl, eq_self, hn, hm, hk, em, hon, ex, nI_eq, dI_f, dI_t, Bool.false_eq_true, l_dm_ok, l_dm_0, l_dm_1, l_dm_2, l_dm_2p, l_dm_3, l_dm_4, l_dm_4p, l_dm_5, l_dm_6, l_dm_6p, l_dm_7, l_dm_7p, l_dm_8, l_dm_8p, l_dm_9, l_dm_9p, l_dm_10, l_dm_11, l_dm_12, l_dm_13, l_dm_14, l_bx_ok, l_bx_0, l_bx_1, l_bx_1p, l_bx_2, l_bx_3, l_bx_3p, l_bx_4, l_bx_5, l_bx_5p, l_co_ok, l_co_0, l_co_0p, l_co_1, l_co_1p, l_co_2, l_co_2p, l_co_3, l_co_3p, l_co_4, l_co_4p, l_co_5, l_co_5p, l_bxa_ar, l_bxa_ln, l_bxa_ia, l_bxa_e, l_lea_ar, l_lea_ln, l_lea_ia, l_lea_e, l_qua_ar, l_qua_ln, l_qua_ia, l_qua_e, l_bo_ar, l_bo_ln, l_bo_ia, l_bo_is, l_bo_e, l_bo_ep, l_fc_ar, l_fc_ln, l_fc_ia, l_fc_is, l_fc_e, l_fc_ep, l_sha_ar, l_sha_ln, l_sha_ia, l_sha_e, l_rua_ar, l_rua_ln, l_rua_ia, l_rua_e, l_rua_ep, l_rua_e2, l_coa_ar, l_coa_ln, l_coa_ia, l_coa_e, zvi_int, zvl_long, zvd_double, zvr_ref, zisI_int, zisR_ref, zgI_int, zgR_ref, zkl_int, zkl_ref, zkl_none, zkl_long, zkl_double, zct_nil, zct_int, zct_ref, zct_long, zct_double, zbk_some, zbk_none, zbk_exc, nI_clamp, nI_add, nI_mul, true_and, and_true, Nat.reduceAdd, Nat.reduceMul, Nat.reduceLeDiff, Nat.reducePow, ↓reduceIte, Nat.zero_add, Nat.add_zero, Nat.reduceLT, Nat.reduceEqDiff, Nat.le_refl, zn10, zn01, zfitB0, zfitB1, znarB0, znarB1, Nat.lt_irrefl, ↓zvi_eq, ↓zvr_eq]
theorem a54b {p : Nat} (h : cG n qn t w l fc nr b x y) (hp : p < 4) : zcl 54 [.ref 2, .int (nI p), .int (nI 1)] (zmem x Y E) Q ↔ Q (.inl (some (.int (sClr (fun x i => decide (x 25 p i = nI 1)) p n x).2))) (zmem (sClr (fun x i => decide (x 25 p i = nI 1)) p n x).1 Y E) := by
  obtain ⟨hSc, hBx, hRu, hLe, hQs, hRl⟩ := id h
  obtain ⟨hn, h60, hq, h20, ht, ht9, hw, hw50, hl, hl100⟩ := id hSc
  obtain ⟨⟨hc1, hc8, hF, hK, hM⟩, hc2, hN, hC⟩ := id (hBx p hp)
  have h1c : 1 < fc p := by omega
  have h95 := fun (Q : zO → zM → Prop) => c95 (x := x) (y := Y) (E := E) (Q := Q) hp hn h60
  rw [e54]
  simp (disch := omega) only [p54_0, p54_1, p54_2, p54_5, p54_6, p54_7, p54_8, p54_11, p54_12, p54_13, p54_16, p54_17, p54_18, p54_21, p54_24, p54_25, p54_26, p54_27, p54_30, e74, p74_0, p74_1, p74_2, p74_5, p74_8, p74_19, c73, c32, nI_ltI, Nat.not_lt_zero, Nat.lt_irrefl, eq_self, hc1, h1c, h95, l_dm_ok, l_dm_0, l_dm_1, l_dm_2, l_dm_2p, l_dm_3, l_dm_4, l_dm_4p, l_dm_5, l_dm_6, l_dm_6p, l_dm_7, l_dm_7p, l_dm_8, l_dm_8p, l_dm_9, l_dm_9p, l_dm_10, l_dm_11, l_dm_12, l_dm_13, l_dm_14, l_bx_ok, l_bx_0, l_bx_1, l_bx_1p, l_bx_2, l_bx_3, l_bx_3p, l_bx_4, l_bx_5, l_bx_5p, l_bxa_ar, l_bxa_ln, l_bxa_ia, l_bxa_e, l_lea_ar, l_lea_ln, l_lea_ia, l_lea_e, l_qua_ar, l_qua_ln, l_qua_ia, l_qua_e, l_bo_ar, l_bo_ln, l_bo_ia, l_bo_is, l_bo_e, l_bo_ep, l_fc_ar, l_fc_ln, l_fc_ia, l_fc_is, l_fc_e, l_fc_ep, l_sha_ar, l_sha_ln, l_sha_ia, l_sha_e, l_rua_ar, l_rua_ln, l_rua_ia, l_rua_e, l_rua_ep, l_rua_e2, l_coa_ar, l_coa_ln, l_coa_ia, l_coa_e, zvi_int, zvl_long, zvd_double, zvr_ref, zisI_int, zisR_ref, zgI_int, zgR_ref, zkl_int, zkl_ref, zkl_none, zkl_long, zkl_double, zct_nil, zct_int, zct_ref, zct_long, zct_double, zbk_some, zbk_none, zbk_exc, nI_clamp, nI_add, nI_mul, true_and, and_true, Nat.reduceAdd, Nat.reduceMul, Nat.reduceLeDiff, Nat.reducePow, ↓reduceIte, Nat.zero_add, Nat.add_zero, Nat.reduceLT, Nat.reduceEqDiff, Nat.le_refl, zn10, zn01, zfitB0, zfitB1, znarB0, znarB1, Nat.lt_irrefl, ↓zvi_eq, ↓zvr_eq]
theorem a54a {p f : Nat} (h : cG n qn t w l fc nr b x y) (hp : p < 4) (hf : f < fc p) (hf1 : ¬ f = 1) : zcl 54 [.ref 2, .int (nI p), .int (nI f)] (zmem x Y E) Q ↔ Q (.inl (some (.int (nI (sWk (fun x i => sLay x p i 1) p (nI f) 60 x (sNm x p (nI f) (nI 0))).2)))) (zmem (sWk (fun x i => sLay x p i 1) p (nI f) 60 x (sNm x p (nI f) (nI 0))).1 Y E) := by
  obtain ⟨hSc, hBx, hRu, hLe, hQs, hRl⟩ := id h
  obtain ⟨hn, h60, hq, h20, ht, ht9, hw, hw50, hl, hl100⟩ := id hSc
  obtain ⟨⟨hc1, hc8, hF, hK, hM⟩, hc2, hN, hC⟩ := id (hBx p hp)
  have h96 := fun (Q : zO → zM → Prop) => c96 (x := x) (y := Y) (E := E) (Q := Q) (f := nI f) hp
  rw [e54]
  simp (disch := omega) only [p54_0, p54_1, p54_2, p54_5, p54_6, p54_7, p54_8, p54_11, p54_12, p54_13, p54_16, p54_17, p54_18, p54_21, p54_24, p54_25, p54_26, p54_27, p54_30, e74, p74_0, p74_1, p74_2, p74_5, p74_8, p74_19, c73, c32, nI_ltI, Nat.not_lt_zero, Nat.lt_irrefl, eq_self, hc1, hf, hf1, nI_eq, h96, l_dm_ok, l_dm_0, l_dm_1, l_dm_2, l_dm_2p, l_dm_3, l_dm_4, l_dm_4p, l_dm_5, l_dm_6, l_dm_6p, l_dm_7, l_dm_7p, l_dm_8, l_dm_8p, l_dm_9, l_dm_9p, l_dm_10, l_dm_11, l_dm_12, l_dm_13, l_dm_14, l_bx_ok, l_bx_0, l_bx_1, l_bx_1p, l_bx_2, l_bx_3, l_bx_3p, l_bx_4, l_bx_5, l_bx_5p, l_bxa_ar, l_bxa_ln, l_bxa_ia, l_bxa_e, l_lea_ar, l_lea_ln, l_lea_ia, l_lea_e, l_qua_ar, l_qua_ln, l_qua_ia, l_qua_e, l_bo_ar, l_bo_ln, l_bo_ia, l_bo_is, l_bo_e, l_bo_ep, l_fc_ar, l_fc_ln, l_fc_ia, l_fc_is, l_fc_e, l_fc_ep, l_sha_ar, l_sha_ln, l_sha_ia, l_sha_e, l_rua_ar, l_rua_ln, l_rua_ia, l_rua_e, l_rua_ep, l_rua_e2, l_coa_ar, l_coa_ln, l_coa_ia, l_coa_e, zvi_int, zvl_long, zvd_double, zvr_ref, zisI_int, zisR_ref, zgI_int, zgR_ref, zkl_int, zkl_ref, zkl_none, zkl_long, zkl_double, zct_nil, zct_int, zct_ref, zct_long, zct_double, zbk_some, zbk_none, zbk_exc, nI_clamp, nI_add, nI_mul, true_and, and_true, Nat.reduceAdd, Nat.reduceMul, Nat.reduceLeDiff, Nat.reducePow, ↓reduceIte, Nat.zero_add, Nat.add_zero, Nat.reduceLT, Nat.reduceEqDiff, Nat.le_refl, zn10, zn01, zfitB0, zfitB1, znarB0, znarB1, Nat.lt_irrefl, ↓zvi_eq, ↓zvr_eq]
/-- send: the route -/
theorem a50 {to tt : Nat} {f s w' z a : Int32} (hb : b < 700000000) (h : cG n qn t w l fc nr b x y) (h60' : n < 60) (htt : to < 16) (hL : lOK f s w' z = true) (ha : a = -1 ∨ ∃ m, m < n ∧ a = nI m) : ∃ (X : zSt) (ll : List Nat) (J : Nat → zJ) (X1 : zSt),
    X1 = su (wLe x n f s w' z a (nI t)) 0 (u2 (x 0) 0 2 (nI (n + 1))) ∧ (∀ p, J p = sJd (xRu X1 p) (sLf X1 n) (-1) (nr p) 0 zJ0) ∧ (∀ p, p < 4 → jOK (fc p) (J p)) ∧ ll = rLp (xGo X1 n nr) 4 0 (rIni (nI to) 4) ∧ ll.Nodup ∧ (∀ p, p ∈ ll → p < 4) ∧ cG (n + 1) qn t w l fc nr (b + ll.length) X (mBu n (ll.foldl (fun Y p => mKp (pM Y (J p)) p n n) (wLe (mTh y 0) n f s w' z a (nI t)))) ∧
    ∀ Q : zO → zM → Prop, zcl 50 [.ref 2, .int f, .int (nI to), .int s, .int w', .int z, .int a] (zmem x Y E) Q ↔ Q (.inl (some (.int (nI n)))) (zmem X Y E) := by
  obtain ⟨hSc, hBx, hRu, hLe, hQs, hRl⟩ := id h
  obtain ⟨hn, h60, hq, h20, ht, ht9, hw, hw50, hl, hl100⟩ := id hSc
  have hg : a = -1 ∨ (¬ a = -1 ∧ ¬ a < nI 0 ∧ a < nI n) := by
    rcases ha with e | ⟨m, hm, e⟩
    · exact Or.inl e
    · subst e
      exact Or.inr ⟨nI_m1 (by omega), (by rw [nI_ltI (by omega) (by omega)]; omega), (by rw [nI_ltI (by omega) (by omega)]; exact hm)⟩
  have ht15 : ¬ 15 < to := by omega
  have hX1d : ∃ X1 : zSt, X1 = su (wLe x n f s w' z a (nI t)) 0 (u2 (x 0) 0 2 (nI (n + 1))) := ⟨_, rfl⟩
  obtain ⟨X1, hX1⟩ := hX1d
  have hY0d : ∃ Y0 : zSt, Y0 = wLe (mTh y 0) n f s w' z a (nI t) := ⟨_, rfl⟩
  obtain ⟨Y0, hY0⟩ := hY0d
  have hcN : cG (n + 1) qn t w l fc nr b X1 (mBu n Y0) := by
    rw [hX1, hY0]; exact cG_new h60' ⟨hSc, hBx, hRu, hLe, hQs, hRl⟩ hL ha
  obtain ⟨cS, cB, cR, cL, cQ, cRl⟩ := id hcN
  have hfc : ∀ p, p < 4 → 0 < fc p := fun p hp => by have := (hBx p hp).2.1; omega
  have hjo := fun (p : Nat) (hp : p < 4) => iRu_jd (lf := sLf X1 n) (w := -1) (hfc p hp) (cR p hp)
  have hX4 : ∀ p, p < 4 → ∀ k, k ∈ xGo X1 n nr p → k < 4 := fun p hp k hk => by
    obtain ⟨v, hv, e⟩ := List.mem_map.mp hk
    obtain ⟨j, hj, e'⟩ := (hjo p hp).2.2.2 v hv
    rw [e', nI_clamp (by omega)] at e
    omega
  obtain ⟨hri, hri4⟩ := rIni_ok (nI to) 4 (Nat.le_refl 4)
  obtain ⟨hlld, hll4⟩ := rLp_ok hX4 4 0 (rIni (nI to) 4) hri hri4
  obtain ⟨x2, hx2, h89'⟩ := c89 (x := X1) (y := Y) (E := E) (to := nI to) (i := n) (nr := nr) (by omega) (fun p hp => (cR p hp).1) (fun p hp => (hjo p hp).2.2.2)
  generalize hll : rLp (xGo X1 n nr) 4 0 (rIni (nI to) 4) = ll at h89' hlld hll4
  have hlen := tpig 4 ll hlld hll4
  have hjk : ∀ p, p < 4 → ∃ k, k < 8 ∧ (sJd (xRu X1 p) (sLf X1 n) (-1) (nr p) 0 zJ0).2.1 = nI k := fun p hp => by
    obtain ⟨k, hk, e⟩ := (hjo p hp).2.1
    have := (hBx p hp).1.2.1
    exact ⟨k, by omega, e⟩
  have hzE : zEq (pR x2 ll) X1 := zEq_trans (zEq_pR x2 ll) hx2
  have hlp := fun (va vu : Nat) (hv : va ≤ 7 ∧ vu ≤ 42) (Q : zO → zM → Prop) => c50L (x1 := X1) (x0 := pR x2 ll) (y := Y) (E := E) (Q := Q) (n := n) (f := f) (to := nI to) (s := s) (w' := w') (z := z) (a := a) (nr := nr) (ll := ll) (va := va) (vu := vu) h60' (Or.inr hzE) (by rw [hzE 0 (by omega)]; exact cS.1) hll4 hlen (fun p hp => (cR p hp).1) hjk (cL.2.1 n (by omega)).1 rfl (fun i hi => by rw [pR_6, if_pos ⟨rfl, hi⟩]) hv ll.length 0 (pR x2 ll) (Nat.zero_add _) (aH_refl _)
  rw [List.drop_zero] at hlp
  have hcG := cG_all (J := fun p => sJd (xRu X1 p) (sLf X1 n) (-1) (nr p) 0 zJ0) h60' hjo ll b (pR x2 ll) Y0 (by omega) hlld hll4 (fun p hp => by
    rw [hzE 25 (by omega), hX1]
    rcases (hBx p (hll4 p hp)).1.2.2.2.1 n h60' with e | ⟨e, -⟩
    · exact e
    · omega) (cG_x hcN hzE)
  generalize ll.foldl (fun X p => sArr X p n (n + 1) (sJd (xRu X1 p) (sLf X1 n) (-1) (nr p) 0 zJ0)) (pR x2 ll) = X at hlp hcG
  have h2 : ∀ Q : zO → zM → Prop, zcl 2 [.ref (aLe n), .int f, .int s, .int w', .int z, .int a, .int (nI t)] (zmem x Y E) Q ↔ Q (.inl none) (zmem (wLe x n f s w' z a (nI t)) Y E) := fun Q => c2 (i := n) (by omega)
  have w0 : wLe x n f s w' z a (nI t) 0 = x 0 := rfl
  have h89 : ∀ Q : zO → zM → Prop, zcl 89 [.ref 2, .int (nI to), .ref (aLe n)] (zmem (su (wLe x n f s w' z a (nI t)) 0 (u2 (x 0) 0 2 (nI (n + 1)))) Y E) Q ↔ Q (.inl none) (zmem (pR x2 ll) Y E) := by rw [hX1] at h89'; exact h89'
  refine ⟨X, ll, fun p => sJd (xRu X1 p) (sLf X1 n) (-1) (nr p) 0 zJ0, X1, hX1, fun _ => rfl, hjo, hll.symm, hlld, hll4, by rw [← hY0]; exact hcG, fun Q => ?_⟩
  rw [e50]
  rcases hg with e | ⟨e, g0, g1⟩
  · subst e
    simp (disch := omega) only [p50_0, p50_2, p50_3, p50_6, p50_7, p50_9, p50_12, p50_15, p50_25, p50_26, p50_29, p50_30, p50_31, p50_33, p50_35, p50_38, p50_39, p50_42, p50_44, p50_47, p50_57, p50_58, p50_61, p50_63, p50_64, p50_67, p50_69, p50_70, p50_71, p50_72, p50_74, p50_76, p50_78, p50_79, p50_82, p50_85, p50_86, p50_86i, p50_87, p50_90, p50_91, p50_92, p50_95, p50_96, p50_97, p50_98, p50_101, p50_103, p50_104, p50_107, p50_108, p50_112, p50_113, p50_116, p50_119, p50_122, p50_123, p50_124, p50_127, p50_128, p50_131, p50_134, p50_136, p50_137, p50_138, p50_140, p50_143, p50_146, p50_149, p50_151, e84, p84_0, p84_1, p84_4, p84_5, p84_6, p84_9, p84_12, p84_13, p84_16, p84_17, e80, p80_0, p80_1, p80_2, p80_4, p80_7, e78, p78_0, p78_1, p78_2, p78_3, p78_6, p78_9, p78_20, e82, p82_0, p82_1, p82_2, p82_5, p82_6, p82_7, p82_10, p82_11, p82_14, p82_15, c81, nI_ltI, Nat.not_lt_zero, Nat.lt_irrefl, eq_self, hn, ht, ht15, hL, h2, w0, h60', h89, l_dm_ok, l_dm_0, l_dm_1, l_dm_2, l_dm_2p, l_dm_3, l_dm_4, l_dm_4p, l_dm_5, l_dm_6, l_dm_6p, l_dm_7, l_dm_7p, l_dm_8, l_dm_8p, l_dm_9, l_dm_9p, l_dm_10, l_dm_11, l_dm_12, l_dm_13, l_dm_14, l_ro_ok, l_ro_0, l_ro_1, l_ro_1p, l_ro_2, l_ro_2p, l_le_ok, l_le_0, l_le_0p, l_le_1, l_le_1p, l_le_2, l_le_2p, l_le_3, l_le_3p, l_le_4, l_le_4p, l_le_5, l_le_5p, l_bxa_ar, l_bxa_ln, l_bxa_ia, l_bxa_e, l_lea_ar, l_lea_ln, l_lea_ia, l_lea_e, l_qua_ar, l_qua_ln, l_qua_ia, l_qua_e, l_bo_ar, l_bo_ln, l_bo_ia, l_bo_is, l_bo_e, l_bo_ep, l_pe_ar, l_pe_ln, l_pe_ia, l_pe_is, l_pe_e, l_pe_ep, l_fc_ar, l_fc_ln, l_fc_ia, l_fc_is, l_fc_e, l_fc_ep, zvi_int, zvl_long, zvd_double, zvr_ref, zisI_int, zisR_ref, zgI_int, zgR_ref, zkl_int, zkl_ref, zkl_none, zkl_long, zkl_double, zct_nil, zct_int, zct_ref, zct_long, zct_double, zbk_some, zbk_none, zbk_exc, nI_clamp, nI_add, nI_mul, true_and, and_true, Nat.reduceAdd, Nat.reduceMul, Nat.reduceLeDiff, Nat.reducePow, ↓reduceIte, Nat.zero_add, Nat.add_zero, Nat.reduceLT, Nat.reduceEqDiff, Nat.le_refl, zn10, zn01, zfitB0, zfitB1, znarB0, znarB1, Nat.lt_irrefl, ↓zvi_eq, ↓zvr_eq]
    rw [hlp 5 30 (by omega)]
  · simp (disch := omega) only [p50_0, p50_2, p50_3, p50_6, p50_7, p50_9, p50_12, p50_15, p50_25, p50_26, p50_29, p50_30, p50_31, p50_33, p50_35, p50_38, p50_39, p50_42, p50_44, p50_47, p50_57, p50_58, p50_61, p50_63, p50_64, p50_67, p50_69, p50_70, p50_71, p50_72, p50_74, p50_76, p50_78, p50_79, p50_82, p50_85, p50_86, p50_86i, p50_87, p50_90, p50_91, p50_92, p50_95, p50_96, p50_97, p50_98, p50_101, p50_103, p50_104, p50_107, p50_108, p50_112, p50_113, p50_116, p50_119, p50_122, p50_123, p50_124, p50_127, p50_128, p50_131, p50_134, p50_136, p50_137, p50_138, p50_140, p50_143, p50_146, p50_149, p50_151, e84, p84_0, p84_1, p84_4, p84_5, p84_6, p84_9, p84_12, p84_13, p84_16, p84_17, e80, p80_0, p80_1, p80_2, p80_4, p80_7, e78, p78_0, p78_1, p78_2, p78_3, p78_6, p78_9, p78_20, e82, p82_0, p82_1, p82_2, p82_5, p82_6, p82_7, p82_10, p82_11, p82_14, p82_15, c81, nI_ltI, Nat.not_lt_zero, Nat.lt_irrefl, eq_self, e, g0, g1, hn, ht, ht15, hL, h2, w0, h60', h89, l_dm_ok, l_dm_0, l_dm_1, l_dm_2, l_dm_2p, l_dm_3, l_dm_4, l_dm_4p, l_dm_5, l_dm_6, l_dm_6p, l_dm_7, l_dm_7p, l_dm_8, l_dm_8p, l_dm_9, l_dm_9p, l_dm_10, l_dm_11, l_dm_12, l_dm_13, l_dm_14, l_ro_ok, l_ro_0, l_ro_1, l_ro_1p, l_ro_2, l_ro_2p, l_le_ok, l_le_0, l_le_0p, l_le_1, l_le_1p, l_le_2, l_le_2p, l_le_3, l_le_3p, l_le_4, l_le_4p, l_le_5, l_le_5p, l_bxa_ar, l_bxa_ln, l_bxa_ia, l_bxa_e, l_lea_ar, l_lea_ln, l_lea_ia, l_lea_e, l_qua_ar, l_qua_ln, l_qua_ia, l_qua_e, l_bo_ar, l_bo_ln, l_bo_ia, l_bo_is, l_bo_e, l_bo_ep, l_pe_ar, l_pe_ln, l_pe_ia, l_pe_is, l_pe_e, l_pe_ep, l_fc_ar, l_fc_ln, l_fc_ia, l_fc_is, l_fc_e, l_fc_ep, zvi_int, zvl_long, zvd_double, zvr_ref, zisI_int, zisR_ref, zgI_int, zgR_ref, zkl_int, zkl_ref, zkl_none, zkl_long, zkl_double, zct_nil, zct_int, zct_ref, zct_long, zct_double, zbk_some, zbk_none, zbk_exc, nI_clamp, nI_add, nI_mul, true_and, and_true, Nat.reduceAdd, Nat.reduceMul, Nat.reduceLeDiff, Nat.reducePow, ↓reduceIte, Nat.zero_add, Nat.add_zero, Nat.reduceLT, Nat.reduceEqDiff, Nat.le_refl, zn10, zn01, zfitB0, zfitB1, znarB0, znarB1, Nat.lt_irrefl, ↓zvi_eq, ↓zvr_eq]
    rw [hlp 5 30 (by omega)]
end ZA
