/-! the calls, one by one: a rule taken away (source: wip/whole/src/228.t7.txt, by expand2.py) -/
theorem nI_sub {a b : Nat} (h : b ≤ a) : nI a - nI b = nI (a - b) := by
  have e : nI (a - b) + nI b = nI a := by rw [nI_add, Nat.sub_add_cancel h]
  rw [← e]
  exact Int32.add_sub_cancel _ _
/-- a row moved up in part -/
def sSf (g : Nat → Nat → Int32) (p k n : Nat) : Nat → Nat → Int32 := fun q i => if q = p ∧ k ≤ i ∧ i + 1 < n then g p (i + 1) else g q i
theorem zcp {x y : zSt} {E : zEx} {A cc p k n : Nat} (hA : 1 ≤ A ∧ A ≤ 439 ∧ zdk A = (20, 24)) (hf : ∀ q, q < 4 → ∀ i, i < 6 → zdc A (q * 6 + i) = (1, cc, q, i)) (hp : p < 4) (hk : k < n) (h6 : n ≤ 6) : zcopy (zmem x y E) A (p * 6 + k + 1) A (p * 6 + k) (n - k - 1) = zmem x (su y cc (sSf (y cc) p k n)) E := by
  have hz : ∀ q, q < 4 → ∀ i, i < 6 → zin A (q * 6 + i) := fun q hq i hi => ⟨hA.1, hA.2.1, by rw [hA.2.2]; show q * 6 + i < 24; omega⟩
  refine zM_ext rfl rfl (fun b j => ?_)
  show (if b = A ∧ p * 6 + k ≤ j ∧ j < p * 6 + k + (n - k - 1) then (if zin A (p * 6 + k + 1 + (j - (p * 6 + k))) then zlay x y E A (p * 6 + k + 1 + (j - (p * 6 + k))) else E.2.2.1 A (p * 6 + k + 1 + (j - (p * 6 + k)))) else (if zin b j then zlay x y E b j else E.2.2.1 b j)) = (if zin b j then zlay x (su y cc (sSf (y cc) p k n)) E b j else E.2.2.1 b j)
  by_cases h : b = A ∧ p * 6 + k ≤ j ∧ j < p * 6 + k + (n - k - 1)
  · obtain ⟨rfl, h1, h2⟩ := h
    obtain ⟨i, rfl⟩ : ∃ i, j = p * 6 + i := ⟨j - p * 6, by omega⟩
    rw [if_pos ⟨rfl, h1, h2⟩, show p * 6 + k + 1 + (p * 6 + i - (p * 6 + k)) = p * 6 + (i + 1) by omega, if_pos (hz p hp (i + 1) (by omega)), if_pos (hz p hp i (by omega)), zlay1 (hf p hp (i + 1) (by omega)), zlay1 (hf p hp i (by omega)), su_eq, if_pos rfl]
    unfold sSf
    rw [if_pos ⟨rfl, by omega, by omega⟩]
  · rw [if_neg h]
    by_cases hzb : zin b j
    · rw [if_pos hzb, if_pos hzb]
      obtain ⟨⟨t, c', q', i'⟩, hq⟩ : ∃ q, zdc b j = q := ⟨_, rfl⟩
      by_cases h0 : t = 0
      · subst h0; rw [zlay0 hq, zlay0 hq]
      by_cases h1 : t = 1
      · subst h1
        rw [zlay1 hq, zlay1 hq, su_eq]
        by_cases hc : c' = cc
        · subst hc
          rw [if_pos rfl]
          unfold sSf
          rw [if_neg]
          rintro ⟨rfl, g1, g2⟩
          obtain ⟨e1, e2⟩ := zdc_inj (Or.inr (Or.inl rfl)) (hz q' hp i' (by omega)) hzb (hf q' hp i' (by omega)) hq
          exact h ⟨e1, by omega, by omega⟩
        · rw [if_neg hc]
      by_cases h3 : t = 3
      · subst h3; rw [zlay3 hq, zlay3 hq]
      exact zlayo hq h0 h1 h3
    · rw [if_neg hzb, if_neg hzb]
theorem zcp_ok {x y : zSt} {E : zEx} {A p k n : Nat} (hA : 1 ≤ A ∧ A ≤ 439 ∧ zdk A = (20, 24)) (hp : p < 4) (hk : k < n) (h6 : n ≤ 6) : zacp (zmem x y E) A A (nI (p * 6 + k + 1)) (nI (p * 6 + k)) (nI (n - k - 1)) = True := by
  refine eq_true ?_
  unfold zacp
  rw [zmem_al hA.1 hA.2.1, zmem_kd hA.1 hA.2.1, hA.2.2, nI_clamp (by omega), nI_clamp (by omega), nI_clamp (by omega)]
  refine ⟨⟨rfl, rfl, rfl, rfl⟩, ⟨nI_pos' (by omega), nI_pos' (by omega), nI_pos' (by omega)⟩, ?_, ?_⟩
  · show p * 6 + k + 1 + (n - k - 1) ≤ 24; omega
  · show p * 6 + k + (n - k - 1) ≤ 24; omega
section ZC
variable {x y : zSt} {E : zEx} {Q : zO → zM → Prop}
theorem c131 {A cc p k n : Nat} (hA : 1 ≤ A ∧ A ≤ 439 ∧ zdk A = (20, 24)) (hf : ∀ q, q < 4 → ∀ i, i < 6 → zdc A (q * 6 + i) = (1, cc, q, i)) (hp : p < 4) (hk : k < n) (h6 : n ≤ 6) : zcl 131 [.ref A, .int (nI (p * 6 + k)), .int (nI (p * 6 + n))] (zmem x y E) Q ↔ Q (.inl none) (zmem x (su y cc (sSf (y cc) p k n)) E) := by
  have e1 : nI (p * 6 + n) - nI (p * 6 + k) - nI 1 = nI (n - k - 1) := by
    rw [nI_sub (by omega), nI_sub (by omega)]
    congr 1
    omega
  have hok := zcp_ok (x := x) (y := y) (E := E) hA hp hk h6
  have hcp := zcp (x := x) (y := y) (E := E) hA hf hp hk h6
  rw [e131]
  simp (disch := omega) only [p131_0, p131_1, p131_2, p131_3, p131_4, p131_5, p131_6, p131_7, p131_8, p131_9, p131_10, p131_11, p131_14, e1, hok, hcp, zvi_int, zvl_long, zvd_double, zvr_ref, zisI_int, zisR_ref, zgI_int, zgR_ref, zkl_int, zkl_ref, zkl_none, zkl_long, zkl_double, zct_nil, zct_int, zct_ref, zct_long, zct_double, zbk_some, zbk_none, zbk_exc, nI_clamp, nI_add, nI_mul, true_and, and_true, Nat.reduceAdd, Nat.reduceMul, Nat.reduceLeDiff, Nat.reducePow, ↓reduceIte, Nat.zero_add, Nat.add_zero, Nat.reduceLT, Nat.reduceEqDiff, Nat.le_refl, zn10, zn01, zfitB0, zfitB1, znarB0, znarB1, Nat.lt_irrefl, ↓zvi_eq, ↓zvr_eq]
theorem f_mk : zdk 417 = (20, 24) ∧ zdk 418 = (20, 24) ∧ zdk 419 = (20, 24) ∧ zdk 420 = (20, 24) ∧ zdk 421 = (20, 24) := by decide +kernel
theorem c131_1 {p k n : Nat} (hp : p < 4) (hk : k < n) (h6 : n ≤ 6) : zcl 131 [.ref 417, .int (nI (p * 6 + k)), .int (nI (p * 6 + n))] (zmem x y E) Q ↔ Q (.inl none) (zmem x (su y 18 (sSf (y 18) p k n)) E) := c131 ⟨by decide, by decide, f_mk.1⟩ (fun q hq i hi => (f_masks_e q hq i hi).2) hp hk h6
theorem c131_2 {p k n : Nat} (hp : p < 4) (hk : k < n) (h6 : n ≤ 6) : zcl 131 [.ref 418, .int (nI (p * 6 + k)), .int (nI (p * 6 + n))] (zmem x y E) Q ↔ Q (.inl none) (zmem x (su y 19 (sSf (y 19) p k n)) E) := c131 ⟨by decide, by decide, f_mk.2.1⟩ (fun q hq i hi => (f_mruleA_e q hq i hi).2) hp hk h6
theorem c131_3 {p k n : Nat} (hp : p < 4) (hk : k < n) (h6 : n ≤ 6) : zcl 131 [.ref 419, .int (nI (p * 6 + k)), .int (nI (p * 6 + n))] (zmem x y E) Q ↔ Q (.inl none) (zmem x (su y 21 (sSf (y 21) p k n)) E) := c131 ⟨by decide, by decide, f_mk.2.2.1⟩ (fun q hq i hi => (f_mdoes_e q hq i hi).2) hp hk h6
theorem c131_4 {p k n : Nat} (hp : p < 4) (hk : k < n) (h6 : n ≤ 6) : zcl 131 [.ref 420, .int (nI (p * 6 + k)), .int (nI (p * 6 + n))] (zmem x y E) Q ↔ Q (.inl none) (zmem x (su y 22 (sSf (y 22) p k n)) E) := c131 ⟨by decide, by decide, f_mk.2.2.2.1⟩ (fun q hq i hi => (f_mruleB_e q hq i hi).2) hp hk h6
theorem c131_5 {p k n : Nat} (hp : p < 4) (hk : k < n) (h6 : n ≤ 6) : zcl 131 [.ref 421, .int (nI (p * 6 + k)), .int (nI (p * 6 + n))] (zmem x y E) Q ↔ Q (.inl none) (zmem x (su y 20 (sSf (y 20) p k n)) E) := c131 ⟨by decide, by decide, f_mk.2.2.2.2⟩ (fun q hq i hi => (f_mflags_e q hq i hi).2) hp hk h6
end ZC
def mRr (y : zSt) (p k n : Nat) : zSt := su (su (su (su (su (su y 18 (sSf (y 18) p k n)) 19 (sSf (y 19) p k n)) 21 (sSf (y 21) p k n)) 22 (sSf (y 22) p k n)) 20 (sSf (y 20) p k n)) 13 (u2 (y 13) p 3 (nI (n - 1)))
/-- where a rule stood before -/
def sgm (k n i : Nat) : Nat := if k ≤ i ∧ i + 1 < n then i + 1 else if i + 1 = n then k else i
theorem zInv_rr {x y : zSt} {b p k n qn t w l : Nat} {fc nr : Nat → Nat} (hp : p < 4) (hSc : iSc x n qn t w l) (hBx : ∀ p, p < 4 → iBx x p n (fc p) b) (hRu : ∀ p, p < 4 → iRu x p (fc p) (nr p)) (hLe : iLe x n t) (hQs : zQs x qn) (hRl : iRl x y n nr) (hk : k < nr p) : zInv (sRr x p k (nr p)) (mRr (mTh y 0) p k (nr p)) (b + 2000) := by
  have y13 : y 13 = x 13 := iRl_sh hRl (iSh_a (by omega) (by omega))
  have r17 : ∀ i, sRr x p k (nr p) 17 p i = x 17 p (sgm k (nr p) i) := fun i => by
    show (if p = p ∧ k ≤ i ∧ i + 1 < nr p then x 17 p (i + 1) else if p = p ∧ i + 1 = nr p then x 17 p k else x 17 p i) = _
    unfold sgm
    simp only [true_and]
    (repeat' split) <;> rfl
  have r17o : ∀ q i, ¬ q = p → sRr x p k (nr p) 17 q i = x 17 q i := fun q i hq => by
    show (if q = p ∧ k ≤ i ∧ i + 1 < nr p then x 17 p (i + 1) else if q = p ∧ i + 1 = nr p then x 17 p k else x 17 q i) = _
    rw [if_neg (fun e => hq e.1), if_neg (fun e => hq e.1)]
  have ro : ∀ c, ¬ c = 13 → ¬ c = 17 → sRr x p k (nr p) c = x c := fun c h1 h2 => by unfold sRr; rw [su_eq, if_neg h2, su_eq, if_neg h1]
  have r13 : ∀ q i, sRr x p k (nr p) 13 q i = if q = p ∧ i = 3 then nI (nr p - 1) else x 13 q i := fun q i => rfl
  have hsg : ∀ r, r < 6 → sgm k (nr p) r < 6 := fun r hr => by
    have := (hRu p hp).1.2.1
    unfold sgm; (repeat' split) <;> omega
  have hsg2 : ∀ r, r < nr p - 1 → sgm k (nr p) r < nr p := fun r hr => by unfold sgm; (repeat' split) <;> omega
  refine ⟨n, qn, t, w, l, fc, fun q => if q = p then nr p - 1 else nr q, hSc, fun q hq => ?_, fun q hq => ?_, hLe, hQs, ?_⟩
  · obtain ⟨⟨b1, b2, b3, b4, b5⟩, b6, b7, b8⟩ := hBx q hq
    refine ⟨⟨?_, b2, b3, b4, b5⟩, b6, iNum_le b7 (by omega), b8⟩
    rw [r13, if_neg (by omega)]; exact b1
  · obtain ⟨⟨h1, h2, h3, h4⟩, h5, h6⟩ := hRu q hq
    by_cases e : q = p
    · subst e
      dsimp only
      rw [if_pos rfl]
      refine ⟨⟨?_, by omega, fun r hr => ?_, h4⟩, fun r s hr hs he => ?_, fun r hr => ?_⟩
      · rw [r13, if_pos ⟨rfl, rfl⟩]
      · rw [r17]; exact h3 _ (hsg r hr)
      · rw [r17, r17] at he
        have := h5 _ _ (hsg r hr) (hsg s hs) he
        unfold sgm at this
        (repeat' split at this) <;> omega
      · rw [r17]
        exact h6 _ (hsg2 r hr)
    · dsimp only
      rw [if_neg e]
      refine ⟨⟨?_, h2, fun r hr => ?_, h4⟩, fun r s hr hs he => ?_, fun r hr => ?_⟩
      · rw [r13, if_neg (fun z => e z.1)]; exact h1
      · rw [r17o q r e]; exact h3 r hr
      · rw [r17o q r e, r17o q s e] at he; exact h5 r s hr hs he
      · rw [r17o q r e]; exact h6 r hr
  · obtain ⟨h6, h7, h8⟩ := hRl
    have mo : ∀ c, ¬ c = 2 → ¬ c = 13 → ¬ (18 ≤ c ∧ c ≤ 22) → mRr (mTh y 0) p k (nr p) c = y c := fun c h2 h13 h18 => by
      unfold mRr
      simp only [su_eq]
      rw [if_neg h13, if_neg (by omega), if_neg (by omega), if_neg (by omega), if_neg (by omega), if_neg (by omega), mTh_o y 0 h2]
    have sf : ∀ (g : Nat → Nat → Int32) r, r < nr p - 1 → sSf g p k (nr p) p r = g p (sgm k (nr p) r) := fun g r hr => by
      unfold sSf sgm
      simp only [true_and]
      by_cases h : k ≤ r ∧ r + 1 < nr p
      · rw [if_pos h, if_pos h]
      · rw [if_neg h, if_neg h, if_neg (by omega)]
    have sfo : ∀ (g : Nat → Nat → Int32) q r, ¬ q = p → sSf g p k (nr p) q r = g q r := fun g q r hq => by
      unfold sSf
      rw [if_neg (fun e => hq e.1)]
    refine ⟨fun c hc => ?_, fun c i a1 a2 hi => ?_, fun q r hq hr => ?_⟩
    · by_cases e13 : c = 13
      · subst e13
        show u2 (y 13) p 3 (nI (nr p - 1)) = u2 (x 13) p 3 (nI (nr p - 1))
        rw [y13]
      · have hc' := hc
        unfold iSh at hc'
        rw [mo c (by omega) e13 (by omega), ro c e13 (by omega)]
        exact h6 c hc
    · rw [mo c (by omega) (by omega) (by omega), ro c (by omega) (by omega)]
      exact h7 c i a1 a2 hi
    · have m18 : mRr (mTh y 0) p k (nr p) 18 = sSf (y 18) p k (nr p) := rfl
      have m19 : mRr (mTh y 0) p k (nr p) 19 = sSf (y 19) p k (nr p) := rfl
      have m20 : mRr (mTh y 0) p k (nr p) 20 = sSf (y 20) p k (nr p) := rfl
      have m21 : mRr (mTh y 0) p k (nr p) 21 = sSf (y 21) p k (nr p) := rfl
      have m22 : mRr (mTh y 0) p k (nr p) 22 = sSf (y 22) p k (nr p) := rfl
      unfold iRr iFl
      rw [m18, m19, m20, m21, m22, ro 18 (by omega) (by omega), ro 19 (by omega) (by omega), ro 20 (by omega) (by omega), ro 21 (by omega) (by omega), ro 22 (by omega) (by omega), ro 23 (by omega) (by omega)]
      dsimp only at hr
      by_cases e : q = p
      · subst e
        rw [if_pos rfl] at hr
        rw [r17, sf _ r hr, sf _ r hr, sf _ r hr, sf _ r hr, sf _ r hr]
        exact h8 q _ hq (hsg2 r hr)
      · rw [if_neg e] at hr
        rw [r17o q r e, sfo _ q r e, sfo _ q r e, sfo _ q r e, sfo _ q r e, sfo _ q r e]
        exact h8 q r hq hr
section ZT
variable {x y : zSt} {E : zEx} {b : Nat}
theorem t6 (h : zInv x y b) (v k : Int32) : zOK 188 132 [.ref 1, .int v, .int k, .ref 438] [.ref 409, .int v, .int k] x y E b := by
  rcases zper v with h0 | ⟨h0, h4, h3⟩ | ⟨p, hp, rfl⟩
  · refine zOK_no (c := 1) (r := nI 0) h (by omega) (fun Q => ?_) (fun Q => ?_)
    · rw [e188]
      simp (disch := omega) only [p188_0, p188_1, p188_2, p188_3, p188_4, p188_5, p188_8, p188_9, p188_10, p188_15, p188_16, p188_17, p188_18, x188_12, e47, p47_0, p47_1, p47_2, p47_5, p47_6, p47_7, p47_8, p47_11, p47_12, p47_13, p47_16, p47_17, p47_20, x47, e75, p75_0, p75_1, p75_4, p75_5, p75_6, p75_9, p75_12, p75_23, x75, c73, c73_a, c73_b, nI_ltI, Nat.not_lt_zero, Nat.lt_irrefl, zo_ia, zo_ep, eq_self, h0, l_dm_ok, l_dm_0, l_dm_1, l_dm_2, l_dm_2p, l_dm_3, l_dm_4, l_dm_4p, l_dm_5, l_dm_6, l_dm_6p, l_dm_7, l_dm_7p, l_dm_8, l_dm_8p, l_dm_9, l_dm_9p, l_dm_10, l_dm_11, l_dm_12, l_dm_13, l_dm_14, l_bx_ok, l_bx_0, l_bx_1, l_bx_1p, l_bx_2, l_bx_3, l_bx_3p, l_bx_4, l_bx_5, l_bx_5p, l_bxa_ar, l_bxa_ln, l_bxa_ia, l_bxa_e, l_lea_ar, l_lea_ln, l_lea_ia, l_lea_e, l_qua_ar, l_qua_ln, l_qua_ia, l_qua_e, l_bo_ar, l_bo_ln, l_bo_ia, l_bo_is, l_bo_e, l_bo_ep, l_fc_ar, l_fc_ln, l_fc_ia, l_fc_is, l_fc_e, l_fc_ep, l_sha_ar, l_sha_ln, l_sha_ia, l_sha_e, l_rua_ar, l_rua_ln, l_rua_ia, l_rua_e, l_rua_ep, l_rua_e2, l_coa_ar, l_coa_ln, l_coa_ia, l_coa_e, zvi_int, zvl_long, zvd_double, zvr_ref, zisI_int, zisR_ref, zgI_int, zgR_ref, zkl_int, zkl_ref, zkl_none, zkl_long, zkl_double, zct_nil, zct_int, zct_ref, zct_long, zct_double, zbk_some, zbk_none, zbk_exc, nI_clamp, nI_add, nI_mul, true_and, and_true, Nat.reduceAdd, Nat.reduceMul, Nat.reduceLeDiff, Nat.reducePow, ↓reduceIte, Nat.zero_add, Nat.add_zero, Nat.reduceLT, Nat.reduceEqDiff, Nat.le_refl, zn10, zn01, zfitB0, zfitB1, znarB0, znarB1, Nat.lt_irrefl, ↓zvi_eq, ↓zvr_eq]
    · rw [e132]
      simp (disch := omega) only [p132_0, p132_1, p132_2, p132_5, p132_6, p132_9, p132_12, p132_13, p132_14, p132_15, p132_18, p132_19, p132_20, p132_21, p132_22, p132_25, p132_28, p132_29, p132_30, p132_33, p132_34, p132_35, p132_37, p132_38, p132_39, p132_40, p132_41, p132_42, p132_44, p132_45, p132_46, p132_49, p132_50, p132_51, p132_52, p132_54, p132_55, p132_58, p132_59, p132_61, p132_64, p132_65, p132_68, p132_69, p132_71, p132_74, p132_75, p132_78, p132_79, p132_81, p132_84, p132_85, p132_88, p132_89, p132_91, p132_94, p132_95, p132_98, p132_99, p132_101, p132_104, p132_105, p132_108, p132_109, p132_110, p132_111, p132_112, p132_113, p132_114, p132_115, e119, p119_0, p119_1, p119_2, p119_3, p119_6, e118, p118_0, p118_1, p118_2, p118_5, p118_6, p118_7, p118_10, p118_11, p118_14, p118_15, e116, p116_0, p116_1, p116_2, p116_5, p116_6, mTh_fold, mTh_mTh, mTh_o, mTh_th, nI_ltI, Nat.not_lt_zero, Nat.lt_irrefl, eq_self, h0, l_md_ok, l_md_0, l_md_0p, l_md_1, l_md_1p, l_md_2, l_md_2p, l_md_3, l_md_3p, l_md_4, l_md_4p, l_md_5, l_md_6, l_md_7, l_md_8, l_md_9, l_md_10, l_md_11, l_md_12, l_md_13, l_md_14, l_md_15, l_md_16, l_md_17, l_md_17p, l_md_18, l_md_19, l_md_20, l_md_21, l_md_22, l_md_23, l_md_24, l_md_25, l_md_26, l_md_27, l_md_28, l_md_29, l_md_30, l_md_30p, l_md_31, l_md_32, l_md_33, l_md_34, l_md_34p, l_md_35, l_md_35p, l_md_36, l_md_36p, l_md_37, l_md_37p, l_md_38, l_mrules_ar, l_mrules_ln, l_mrules_ia, l_mrules_is, l_mrules_e, l_mrules_ep, zvi_int, zvl_long, zvd_double, zvr_ref, zisI_int, zisR_ref, zgI_int, zgR_ref, zkl_int, zkl_ref, zkl_none, zkl_long, zkl_double, zct_nil, zct_int, zct_ref, zct_long, zct_double, zbk_some, zbk_none, zbk_exc, nI_clamp, nI_add, nI_mul, true_and, and_true, Nat.reduceAdd, Nat.reduceMul, Nat.reduceLeDiff, Nat.reducePow, ↓reduceIte, Nat.zero_add, Nat.add_zero, Nat.reduceLT, Nat.reduceEqDiff, Nat.le_refl, zn10, zn01, zfitB0, zfitB1, znarB0, znarB1, Nat.lt_irrefl, ↓zvi_eq, ↓zvr_eq]
  · refine zOK_no (c := 1) (r := nI 0) h (by omega) (fun Q => ?_) (fun Q => ?_)
    · rw [e188]
      simp (disch := omega) only [p188_0, p188_1, p188_2, p188_3, p188_4, p188_5, p188_8, p188_9, p188_10, p188_15, p188_16, p188_17, p188_18, x188_12, e47, p47_0, p47_1, p47_2, p47_5, p47_6, p47_7, p47_8, p47_11, p47_12, p47_13, p47_16, p47_17, p47_20, x47, e75, p75_0, p75_1, p75_4, p75_5, p75_6, p75_9, p75_12, p75_23, x75, c73, c73_a, c73_b, nI_ltI, Nat.not_lt_zero, Nat.lt_irrefl, zo_ia, zo_ep, eq_self, h0, h4, h3, l_dm_ok, l_dm_0, l_dm_1, l_dm_2, l_dm_2p, l_dm_3, l_dm_4, l_dm_4p, l_dm_5, l_dm_6, l_dm_6p, l_dm_7, l_dm_7p, l_dm_8, l_dm_8p, l_dm_9, l_dm_9p, l_dm_10, l_dm_11, l_dm_12, l_dm_13, l_dm_14, l_bx_ok, l_bx_0, l_bx_1, l_bx_1p, l_bx_2, l_bx_3, l_bx_3p, l_bx_4, l_bx_5, l_bx_5p, l_bxa_ar, l_bxa_ln, l_bxa_ia, l_bxa_e, l_lea_ar, l_lea_ln, l_lea_ia, l_lea_e, l_qua_ar, l_qua_ln, l_qua_ia, l_qua_e, l_bo_ar, l_bo_ln, l_bo_ia, l_bo_is, l_bo_e, l_bo_ep, l_fc_ar, l_fc_ln, l_fc_ia, l_fc_is, l_fc_e, l_fc_ep, l_sha_ar, l_sha_ln, l_sha_ia, l_sha_e, l_rua_ar, l_rua_ln, l_rua_ia, l_rua_e, l_rua_ep, l_rua_e2, l_coa_ar, l_coa_ln, l_coa_ia, l_coa_e, zvi_int, zvl_long, zvd_double, zvr_ref, zisI_int, zisR_ref, zgI_int, zgR_ref, zkl_int, zkl_ref, zkl_none, zkl_long, zkl_double, zct_nil, zct_int, zct_ref, zct_long, zct_double, zbk_some, zbk_none, zbk_exc, nI_clamp, nI_add, nI_mul, true_and, and_true, Nat.reduceAdd, Nat.reduceMul, Nat.reduceLeDiff, Nat.reducePow, ↓reduceIte, Nat.zero_add, Nat.add_zero, Nat.reduceLT, Nat.reduceEqDiff, Nat.le_refl, zn10, zn01, zfitB0, zfitB1, znarB0, znarB1, Nat.lt_irrefl, ↓zvi_eq, ↓zvr_eq]
    · rw [e132]
      simp (disch := omega) only [p132_0, p132_1, p132_2, p132_5, p132_6, p132_9, p132_12, p132_13, p132_14, p132_15, p132_18, p132_19, p132_20, p132_21, p132_22, p132_25, p132_28, p132_29, p132_30, p132_33, p132_34, p132_35, p132_37, p132_38, p132_39, p132_40, p132_41, p132_42, p132_44, p132_45, p132_46, p132_49, p132_50, p132_51, p132_52, p132_54, p132_55, p132_58, p132_59, p132_61, p132_64, p132_65, p132_68, p132_69, p132_71, p132_74, p132_75, p132_78, p132_79, p132_81, p132_84, p132_85, p132_88, p132_89, p132_91, p132_94, p132_95, p132_98, p132_99, p132_101, p132_104, p132_105, p132_108, p132_109, p132_110, p132_111, p132_112, p132_113, p132_114, p132_115, e119, p119_0, p119_1, p119_2, p119_3, p119_6, e118, p118_0, p118_1, p118_2, p118_5, p118_6, p118_7, p118_10, p118_11, p118_14, p118_15, e116, p116_0, p116_1, p116_2, p116_5, p116_6, mTh_fold, mTh_mTh, mTh_o, mTh_th, nI_ltI, Nat.not_lt_zero, Nat.lt_irrefl, eq_self, h0, h4, h3, l_md_ok, l_md_0, l_md_0p, l_md_1, l_md_1p, l_md_2, l_md_2p, l_md_3, l_md_3p, l_md_4, l_md_4p, l_md_5, l_md_6, l_md_7, l_md_8, l_md_9, l_md_10, l_md_11, l_md_12, l_md_13, l_md_14, l_md_15, l_md_16, l_md_17, l_md_17p, l_md_18, l_md_19, l_md_20, l_md_21, l_md_22, l_md_23, l_md_24, l_md_25, l_md_26, l_md_27, l_md_28, l_md_29, l_md_30, l_md_30p, l_md_31, l_md_32, l_md_33, l_md_34, l_md_34p, l_md_35, l_md_35p, l_md_36, l_md_36p, l_md_37, l_md_37p, l_md_38, l_mrules_ar, l_mrules_ln, l_mrules_ia, l_mrules_is, l_mrules_e, l_mrules_ep, zvi_int, zvl_long, zvd_double, zvr_ref, zisI_int, zisR_ref, zgI_int, zgR_ref, zkl_int, zkl_ref, zkl_none, zkl_long, zkl_double, zct_nil, zct_int, zct_ref, zct_long, zct_double, zbk_some, zbk_none, zbk_exc, nI_clamp, nI_add, nI_mul, true_and, and_true, Nat.reduceAdd, Nat.reduceMul, Nat.reduceLeDiff, Nat.reducePow, ↓reduceIte, Nat.zero_add, Nat.add_zero, Nat.reduceLT, Nat.reduceEqDiff, Nat.le_refl, zn10, zn01, zfitB0, zfitB1, znarB0, znarB1, Nat.lt_irrefl, ↓zvi_eq, ↓zvr_eq]
  obtain ⟨n, qn, t, w, l, fc, nr, hSc, hBx, hRu, hLe, hQs, hRl⟩ := id h
  obtain ⟨hn, h60, hq, h20, ht, ht9, hw, hw50, hl, hl100⟩ := id hSc
  have y0 : y 0 = x 0 := iRl_sh hRl iSh_0
  have y1 : y 1 = x 1 := iRl_sh hRl iSh_1
  have y13 : y 13 = x 13 := iRl_sh hRl (iSh_a (by omega) (by omega))
  have y14 : y 14 = x 14 := iRl_sh hRl (iSh_a (by omega) (by omega))
  have y15 : y 15 = x 15 := iRl_sh hRl (iSh_a (by omega) (by omega))
  have y16 : y 16 = x 16 := iRl_sh hRl (iSh_a (by omega) (by omega))
  have y24 : y 24 = x 24 := iRl_sh hRl (iSh_b (by omega) (by omega))
  have y25 : y 25 = x 25 := iRl_sh hRl (iSh_b (by omega) (by omega))
  have y26 : y 26 = x 26 := iRl_sh hRl (iSh_b (by omega) (by omega))
  have y27 : y 27 = x 27 := iRl_sh hRl (iSh_b (by omega) (by omega))
  have y28 : y 28 = x 28 := iRl_sh hRl (iSh_b (by omega) (by omega))
  have y29 : y 29 = x 29 := iRl_sh hRl (iSh_b (by omega) (by omega))
  have y36 : y 36 = x 36 := iRl_sh hRl (iSh_c (by omega) (by omega))
  have y37 : y 37 = x 37 := iRl_sh hRl (iSh_c (by omega) (by omega))
  have y38 : y 38 = x 38 := iRl_sh hRl (iSh_c (by omega) (by omega))
  have hny : y 0 0 2 = nI n := by rw [y0]; exact hn
  have hqy : y 0 0 4 = nI qn := by rw [y0]; exact hq
  have hp3 : ¬ 3 < p := by omega
  obtain ⟨⟨hc1, hc8, hF, hK, hM⟩, hc2, hN, hC⟩ := id (hBx p hp)
  have hcy : y 13 p 1 = nI (fc p) := by rw [y13]; exact hc1
  have hBy : zBx y p n (fc p) := by unfold zBx; rw [y13, y14, y25, y27]; exact (hBx p hp).1
  obtain ⟨⟨hr1, hr6, hr3, hr4⟩, hinj, hro⟩ := id (hRu p hp)
  have hry : y 13 p 3 = nI (nr p) := by rw [y13]; exact hr1
  rcases zrn k (n := nr p) (by omega) with g0 | ⟨g0, g1, g2⟩ | ⟨k, hk, rfl, hk'⟩
  · refine zOK_no (c := 1) (r := nI 0) h (by omega) (fun Q => ?_) (fun Q => ?_)
    · rw [e188]
      simp (disch := omega) only [p188_0, p188_1, p188_2, p188_3, p188_4, p188_5, p188_8, p188_9, p188_10, p188_15, p188_16, p188_17, p188_18, x188_12, e47, p47_0, p47_1, p47_2, p47_5, p47_6, p47_7, p47_8, p47_11, p47_12, p47_13, p47_16, p47_17, p47_20, x47, e75, p75_0, p75_1, p75_4, p75_5, p75_6, p75_9, p75_12, p75_23, x75, c73, c73_a, c73_b, nI_ltI, Nat.not_lt_zero, Nat.lt_irrefl, zo_ia, zo_ep, eq_self, hp3, hr1, hry, g0, l_dm_ok, l_dm_0, l_dm_1, l_dm_2, l_dm_2p, l_dm_3, l_dm_4, l_dm_4p, l_dm_5, l_dm_6, l_dm_6p, l_dm_7, l_dm_7p, l_dm_8, l_dm_8p, l_dm_9, l_dm_9p, l_dm_10, l_dm_11, l_dm_12, l_dm_13, l_dm_14, l_bx_ok, l_bx_0, l_bx_1, l_bx_1p, l_bx_2, l_bx_3, l_bx_3p, l_bx_4, l_bx_5, l_bx_5p, l_bxa_ar, l_bxa_ln, l_bxa_ia, l_bxa_e, l_lea_ar, l_lea_ln, l_lea_ia, l_lea_e, l_qua_ar, l_qua_ln, l_qua_ia, l_qua_e, l_bo_ar, l_bo_ln, l_bo_ia, l_bo_is, l_bo_e, l_bo_ep, l_fc_ar, l_fc_ln, l_fc_ia, l_fc_is, l_fc_e, l_fc_ep, l_sha_ar, l_sha_ln, l_sha_ia, l_sha_e, l_rua_ar, l_rua_ln, l_rua_ia, l_rua_e, l_rua_ep, l_rua_e2, l_coa_ar, l_coa_ln, l_coa_ia, l_coa_e, zvi_int, zvl_long, zvd_double, zvr_ref, zisI_int, zisR_ref, zgI_int, zgR_ref, zkl_int, zkl_ref, zkl_none, zkl_long, zkl_double, zct_nil, zct_int, zct_ref, zct_long, zct_double, zbk_some, zbk_none, zbk_exc, nI_clamp, nI_add, nI_mul, true_and, and_true, Nat.reduceAdd, Nat.reduceMul, Nat.reduceLeDiff, Nat.reducePow, ↓reduceIte, Nat.zero_add, Nat.add_zero, Nat.reduceLT, Nat.reduceEqDiff, Nat.le_refl, zn10, zn01, zfitB0, zfitB1, znarB0, znarB1, Nat.lt_irrefl, ↓zvi_eq, ↓zvr_eq]
    · rw [e132]
      simp (disch := omega) only [p132_0, p132_1, p132_2, p132_5, p132_6, p132_9, p132_12, p132_13, p132_14, p132_15, p132_18, p132_19, p132_20, p132_21, p132_22, p132_25, p132_28, p132_29, p132_30, p132_33, p132_34, p132_35, p132_37, p132_38, p132_39, p132_40, p132_41, p132_42, p132_44, p132_45, p132_46, p132_49, p132_50, p132_51, p132_52, p132_54, p132_55, p132_58, p132_59, p132_61, p132_64, p132_65, p132_68, p132_69, p132_71, p132_74, p132_75, p132_78, p132_79, p132_81, p132_84, p132_85, p132_88, p132_89, p132_91, p132_94, p132_95, p132_98, p132_99, p132_101, p132_104, p132_105, p132_108, p132_109, p132_110, p132_111, p132_112, p132_113, p132_114, p132_115, e119, p119_0, p119_1, p119_2, p119_3, p119_6, e118, p118_0, p118_1, p118_2, p118_5, p118_6, p118_7, p118_10, p118_11, p118_14, p118_15, e116, p116_0, p116_1, p116_2, p116_5, p116_6, mTh_fold, mTh_mTh, mTh_o, mTh_th, nI_ltI, Nat.not_lt_zero, Nat.lt_irrefl, eq_self, hp3, hr1, hry, g0, l_md_ok, l_md_0, l_md_0p, l_md_1, l_md_1p, l_md_2, l_md_2p, l_md_3, l_md_3p, l_md_4, l_md_4p, l_md_5, l_md_6, l_md_7, l_md_8, l_md_9, l_md_10, l_md_11, l_md_12, l_md_13, l_md_14, l_md_15, l_md_16, l_md_17, l_md_17p, l_md_18, l_md_19, l_md_20, l_md_21, l_md_22, l_md_23, l_md_24, l_md_25, l_md_26, l_md_27, l_md_28, l_md_29, l_md_30, l_md_30p, l_md_31, l_md_32, l_md_33, l_md_34, l_md_34p, l_md_35, l_md_35p, l_md_36, l_md_36p, l_md_37, l_md_37p, l_md_38, l_mrules_ar, l_mrules_ln, l_mrules_ia, l_mrules_is, l_mrules_e, l_mrules_ep, zvi_int, zvl_long, zvd_double, zvr_ref, zisI_int, zisR_ref, zgI_int, zgR_ref, zkl_int, zkl_ref, zkl_none, zkl_long, zkl_double, zct_nil, zct_int, zct_ref, zct_long, zct_double, zbk_some, zbk_none, zbk_exc, nI_clamp, nI_add, nI_mul, true_and, and_true, Nat.reduceAdd, Nat.reduceMul, Nat.reduceLeDiff, Nat.reducePow, ↓reduceIte, Nat.zero_add, Nat.add_zero, Nat.reduceLT, Nat.reduceEqDiff, Nat.le_refl, zn10, zn01, zfitB0, zfitB1, znarB0, znarB1, Nat.lt_irrefl, ↓zvi_eq, ↓zvr_eq]
  · refine zOK_no (c := 1) (r := nI 0) h (by omega) (fun Q => ?_) (fun Q => ?_)
    · rw [e188]
      simp (disch := omega) only [p188_0, p188_1, p188_2, p188_3, p188_4, p188_5, p188_8, p188_9, p188_10, p188_15, p188_16, p188_17, p188_18, x188_12, e47, p47_0, p47_1, p47_2, p47_5, p47_6, p47_7, p47_8, p47_11, p47_12, p47_13, p47_16, p47_17, p47_20, x47, e75, p75_0, p75_1, p75_4, p75_5, p75_6, p75_9, p75_12, p75_23, x75, c73, c73_a, c73_b, nI_ltI, Nat.not_lt_zero, Nat.lt_irrefl, zo_ia, zo_ep, eq_self, hp3, hr1, hry, g0, g1, g2, l_dm_ok, l_dm_0, l_dm_1, l_dm_2, l_dm_2p, l_dm_3, l_dm_4, l_dm_4p, l_dm_5, l_dm_6, l_dm_6p, l_dm_7, l_dm_7p, l_dm_8, l_dm_8p, l_dm_9, l_dm_9p, l_dm_10, l_dm_11, l_dm_12, l_dm_13, l_dm_14, l_bx_ok, l_bx_0, l_bx_1, l_bx_1p, l_bx_2, l_bx_3, l_bx_3p, l_bx_4, l_bx_5, l_bx_5p, l_bxa_ar, l_bxa_ln, l_bxa_ia, l_bxa_e, l_lea_ar, l_lea_ln, l_lea_ia, l_lea_e, l_qua_ar, l_qua_ln, l_qua_ia, l_qua_e, l_bo_ar, l_bo_ln, l_bo_ia, l_bo_is, l_bo_e, l_bo_ep, l_fc_ar, l_fc_ln, l_fc_ia, l_fc_is, l_fc_e, l_fc_ep, l_sha_ar, l_sha_ln, l_sha_ia, l_sha_e, l_rua_ar, l_rua_ln, l_rua_ia, l_rua_e, l_rua_ep, l_rua_e2, l_coa_ar, l_coa_ln, l_coa_ia, l_coa_e, zvi_int, zvl_long, zvd_double, zvr_ref, zisI_int, zisR_ref, zgI_int, zgR_ref, zkl_int, zkl_ref, zkl_none, zkl_long, zkl_double, zct_nil, zct_int, zct_ref, zct_long, zct_double, zbk_some, zbk_none, zbk_exc, nI_clamp, nI_add, nI_mul, true_and, and_true, Nat.reduceAdd, Nat.reduceMul, Nat.reduceLeDiff, Nat.reducePow, ↓reduceIte, Nat.zero_add, Nat.add_zero, Nat.reduceLT, Nat.reduceEqDiff, Nat.le_refl, zn10, zn01, zfitB0, zfitB1, znarB0, znarB1, Nat.lt_irrefl, ↓zvi_eq, ↓zvr_eq]
    · rw [e132]
      simp (disch := omega) only [p132_0, p132_1, p132_2, p132_5, p132_6, p132_9, p132_12, p132_13, p132_14, p132_15, p132_18, p132_19, p132_20, p132_21, p132_22, p132_25, p132_28, p132_29, p132_30, p132_33, p132_34, p132_35, p132_37, p132_38, p132_39, p132_40, p132_41, p132_42, p132_44, p132_45, p132_46, p132_49, p132_50, p132_51, p132_52, p132_54, p132_55, p132_58, p132_59, p132_61, p132_64, p132_65, p132_68, p132_69, p132_71, p132_74, p132_75, p132_78, p132_79, p132_81, p132_84, p132_85, p132_88, p132_89, p132_91, p132_94, p132_95, p132_98, p132_99, p132_101, p132_104, p132_105, p132_108, p132_109, p132_110, p132_111, p132_112, p132_113, p132_114, p132_115, e119, p119_0, p119_1, p119_2, p119_3, p119_6, e118, p118_0, p118_1, p118_2, p118_5, p118_6, p118_7, p118_10, p118_11, p118_14, p118_15, e116, p116_0, p116_1, p116_2, p116_5, p116_6, mTh_fold, mTh_mTh, mTh_o, mTh_th, nI_ltI, Nat.not_lt_zero, Nat.lt_irrefl, eq_self, hp3, hr1, hry, g0, g1, g2, l_md_ok, l_md_0, l_md_0p, l_md_1, l_md_1p, l_md_2, l_md_2p, l_md_3, l_md_3p, l_md_4, l_md_4p, l_md_5, l_md_6, l_md_7, l_md_8, l_md_9, l_md_10, l_md_11, l_md_12, l_md_13, l_md_14, l_md_15, l_md_16, l_md_17, l_md_17p, l_md_18, l_md_19, l_md_20, l_md_21, l_md_22, l_md_23, l_md_24, l_md_25, l_md_26, l_md_27, l_md_28, l_md_29, l_md_30, l_md_30p, l_md_31, l_md_32, l_md_33, l_md_34, l_md_34p, l_md_35, l_md_35p, l_md_36, l_md_36p, l_md_37, l_md_37p, l_md_38, l_mrules_ar, l_mrules_ln, l_mrules_ia, l_mrules_is, l_mrules_e, l_mrules_ep, zvi_int, zvl_long, zvd_double, zvr_ref, zisI_int, zisR_ref, zgI_int, zgR_ref, zkl_int, zkl_ref, zkl_none, zkl_long, zkl_double, zct_nil, zct_int, zct_ref, zct_long, zct_double, zbk_some, zbk_none, zbk_exc, nI_clamp, nI_add, nI_mul, true_and, and_true, Nat.reduceAdd, Nat.reduceMul, Nat.reduceLeDiff, Nat.reducePow, ↓reduceIte, Nat.zero_add, Nat.add_zero, Nat.reduceLT, Nat.reduceEqDiff, Nat.le_refl, zn10, zn01, zfitB0, zfitB1, znarB0, znarB1, Nat.lt_irrefl, ↓zvi_eq, ↓zvr_eq]
  have h38 := fun (Q : zO → zM → Prop) => c38 (x := x) (y := y) (E := E) (Q := Q) (p := p) (k := k) hp hk hr6 hr1 hr3
  refine ⟨sRr x p k (nr p), mRr (mTh y 0) p k (nr p), 0, (nI (nr p - 1)).toInt64, nI (nr p - 1), zLo E (nI (nr p - 1)).toInt64, zInv_rr hp hSc hBx hRu hLe hQs hRl hk, ⟨rfl, fun _ => rfl, rfl⟩, fun Q => ?_, fun Q => ?_, by omega, mTh_th y 0, fun _ => rfl⟩
  · have e13 : sRr x p k (nr p) 13 p 3 = nI (nr p - 1) := by
      show u2 (x 13) p 3 (nI (nr p - 1)) p 3 = _
      rw [u2_eq, if_pos ⟨rfl, rfl⟩]
    rw [e188]
    simp (disch := omega) only [p188_0, p188_1, p188_2, p188_3, p188_4, p188_5, p188_8, p188_9, p188_10, p188_15, p188_16, p188_17, p188_18, x188_12, e47, p47_0, p47_1, p47_2, p47_5, p47_6, p47_7, p47_8, p47_11, p47_12, p47_13, p47_16, p47_17, p47_20, x47, e75, p75_0, p75_1, p75_4, p75_5, p75_6, p75_9, p75_12, p75_23, x75, c73, c73_a, c73_b, nI_ltI, Nat.not_lt_zero, Nat.lt_irrefl, zo_ia, zo_ep, eq_self, hp3, hr1, hk, h38, e13, l_dm_ok, l_dm_0, l_dm_1, l_dm_2, l_dm_2p, l_dm_3, l_dm_4, l_dm_4p, l_dm_5, l_dm_6, l_dm_6p, l_dm_7, l_dm_7p, l_dm_8, l_dm_8p, l_dm_9, l_dm_9p, l_dm_10, l_dm_11, l_dm_12, l_dm_13, l_dm_14, l_bx_ok, l_bx_0, l_bx_1, l_bx_1p, l_bx_2, l_bx_3, l_bx_3p, l_bx_4, l_bx_5, l_bx_5p, l_bxa_ar, l_bxa_ln, l_bxa_ia, l_bxa_e, l_lea_ar, l_lea_ln, l_lea_ia, l_lea_e, l_qua_ar, l_qua_ln, l_qua_ia, l_qua_e, l_bo_ar, l_bo_ln, l_bo_ia, l_bo_is, l_bo_e, l_bo_ep, l_fc_ar, l_fc_ln, l_fc_ia, l_fc_is, l_fc_e, l_fc_ep, l_sha_ar, l_sha_ln, l_sha_ia, l_sha_e, l_rua_ar, l_rua_ln, l_rua_ia, l_rua_e, l_rua_ep, l_rua_e2, l_coa_ar, l_coa_ln, l_coa_ia, l_coa_e, zvi_int, zvl_long, zvd_double, zvr_ref, zisI_int, zisR_ref, zgI_int, zgR_ref, zkl_int, zkl_ref, zkl_none, zkl_long, zkl_double, zct_nil, zct_int, zct_ref, zct_long, zct_double, zbk_some, zbk_none, zbk_exc, nI_clamp, nI_add, nI_mul, true_and, and_true, Nat.reduceAdd, Nat.reduceMul, Nat.reduceLeDiff, Nat.reducePow, ↓reduceIte, Nat.zero_add, Nat.add_zero, Nat.reduceLT, Nat.reduceEqDiff, Nat.le_refl, zn10, zn01, zfitB0, zfitB1, znarB0, znarB1, Nat.lt_irrefl, ↓zvi_eq, ↓zvr_eq]
  · unfold mRr
    have hk3 : ¬ nr p - 1 < k := by omega
    have hpr : nI (nr p) - nI 1 = nI (nr p - 1) := zprd (by omega)
    rw [e132]
    simp (disch := omega) only [p132_0, p132_1, p132_2, p132_5, p132_6, p132_9, p132_12, p132_13, p132_14, p132_15, p132_18, p132_19, p132_20, p132_21, p132_22, p132_25, p132_28, p132_29, p132_30, p132_33, p132_34, p132_35, p132_37, p132_38, p132_39, p132_40, p132_41, p132_42, p132_44, p132_45, p132_46, p132_49, p132_50, p132_51, p132_52, p132_54, p132_55, p132_58, p132_59, p132_61, p132_64, p132_65, p132_68, p132_69, p132_71, p132_74, p132_75, p132_78, p132_79, p132_81, p132_84, p132_85, p132_88, p132_89, p132_91, p132_94, p132_95, p132_98, p132_99, p132_101, p132_104, p132_105, p132_108, p132_109, p132_110, p132_111, p132_112, p132_113, p132_114, p132_115, e119, p119_0, p119_1, p119_2, p119_3, p119_6, e118, p118_0, p118_1, p118_2, p118_5, p118_6, p118_7, p118_10, p118_11, p118_14, p118_15, e116, p116_0, p116_1, p116_2, p116_5, p116_6, mTh_fold, mTh_mTh, mTh_o, mTh_th, nI_ltI, Nat.not_lt_zero, Nat.lt_irrefl, eq_self, hp3, hry, hk', hk, c131_1, c131_2, c131_3, c131_4, c131_5, su_eq, hpr, hk3, l_md_ok, l_md_0, l_md_0p, l_md_1, l_md_1p, l_md_2, l_md_2p, l_md_3, l_md_3p, l_md_4, l_md_4p, l_md_5, l_md_6, l_md_7, l_md_8, l_md_9, l_md_10, l_md_11, l_md_12, l_md_13, l_md_14, l_md_15, l_md_16, l_md_17, l_md_17p, l_md_18, l_md_19, l_md_20, l_md_21, l_md_22, l_md_23, l_md_24, l_md_25, l_md_26, l_md_27, l_md_28, l_md_29, l_md_30, l_md_30p, l_md_31, l_md_32, l_md_33, l_md_34, l_md_34p, l_md_35, l_md_35p, l_md_36, l_md_36p, l_md_37, l_md_37p, l_md_38, l_mrules_ar, l_mrules_ln, l_mrules_ia, l_mrules_is, l_mrules_e, l_mrules_ep, zvi_int, zvl_long, zvd_double, zvr_ref, zisI_int, zisR_ref, zgI_int, zgR_ref, zkl_int, zkl_ref, zkl_none, zkl_long, zkl_double, zct_nil, zct_int, zct_ref, zct_long, zct_double, zbk_some, zbk_none, zbk_exc, nI_clamp, nI_add, nI_mul, true_and, and_true, Nat.reduceAdd, Nat.reduceMul, Nat.reduceLeDiff, Nat.reducePow, ↓reduceIte, Nat.zero_add, Nat.add_zero, Nat.reduceLT, Nat.reduceEqDiff, Nat.le_refl, zn10, zn01, zfitB0, zfitB1, znarB0, znarB1, Nat.lt_irrefl, ↓zvi_eq, ↓zvr_eq]
end ZT
