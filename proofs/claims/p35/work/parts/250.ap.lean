/-! the class's calls, their arguments as they should be; what holds behind them (source: wip/p35/src/250.ap.txt, by expand3.py) -/
theorem cG_ar {x y : zSt} {b p n qn t w l : Nat} {fc nr : Nat → Nat} {k a d bb : Int32} {no la : Bool} (hp : p < 4) (hSc : iSc x n qn t w l) (hBx : ∀ p, p < 4 → iBx x p n (fc p) b) (hRu : ∀ p, p < 4 → iRu x p (fc p) (nr p)) (hLe : iLe x n t) (hQs : zQs x qn) (hRl : iRl x y n nr) (hr6 : nr p < 6) {j : Nat} (hj : j < 6) (ej : x 17 p (nr p) = nI j) (hv : sCd p (fc p) d bb = true) : cG n qn t w l fc (fun q => if q = p then nr p + 1 else nr q) b (sAr x p j (nr p) k a (dI no) d bb (dI la)) (mAr y p (nr p) k a (fI no la) d bb) := by
  have y13 : y 13 = x 13 := iRl_sh hRl (iSh_a (by omega) (by omega))
  have r18 : ∀ q i, sAr x p j (nr p) k a (dI no) d bb (dI la) 18 q i = if q = p ∧ i = j then k else x 18 q i := fun q i => rfl
  have r19 : ∀ q i, sAr x p j (nr p) k a (dI no) d bb (dI la) 19 q i = if q = p ∧ i = j then a else x 19 q i := fun q i => rfl
  have r20 : ∀ q i, sAr x p j (nr p) k a (dI no) d bb (dI la) 20 q i = if q = p ∧ i = j then dI no else x 20 q i := fun q i => rfl
  have r21 : ∀ q i, sAr x p j (nr p) k a (dI no) d bb (dI la) 21 q i = if q = p ∧ i = j then d else x 21 q i := fun q i => rfl
  have r22 : ∀ q i, sAr x p j (nr p) k a (dI no) d bb (dI la) 22 q i = if q = p ∧ i = j then bb else x 22 q i := fun q i => rfl
  have r23 : ∀ q i, sAr x p j (nr p) k a (dI no) d bb (dI la) 23 q i = if q = p ∧ i = j then dI la else x 23 q i := fun q i => rfl
  have r17 : sAr x p j (nr p) k a (dI no) d bb (dI la) 17 = x 17 := rfl
  have r13 : ∀ q i, sAr x p j (nr p) k a (dI no) d bb (dI la) 13 q i = if q = p ∧ i = 3 then nI (nr p + 1) else x 13 q i := fun q i => rfl
  have m18 : ∀ q i, mAr y p (nr p) k a (fI no la) d bb 18 q i = if q = p ∧ i = nr p then k else y 18 q i := fun q i => rfl
  have m19 : ∀ q i, mAr y p (nr p) k a (fI no la) d bb 19 q i = if q = p ∧ i = nr p then a else y 19 q i := fun q i => rfl
  have m20 : ∀ q i, mAr y p (nr p) k a (fI no la) d bb 20 q i = if q = p ∧ i = nr p then fI no la else y 20 q i := fun q i => rfl
  have m21 : ∀ q i, mAr y p (nr p) k a (fI no la) d bb 21 q i = if q = p ∧ i = nr p then d else y 21 q i := fun q i => rfl
  have m22 : ∀ q i, mAr y p (nr p) k a (fI no la) d bb 22 q i = if q = p ∧ i = nr p then bb else y 22 q i := fun q i => rfl
  refine ⟨hSc, fun q hq => ?_, fun q hq => ?_, hLe, hQs, ?_⟩
  · obtain ⟨⟨b1, b2, b3, b4, b5⟩, b6, b7, b8⟩ := hBx q hq
    refine ⟨⟨?_, b2, b3, b4, b5⟩, b6, iNum_le b7 (by omega), b8⟩
    rw [r13, if_neg (by omega)]; exact b1
  · obtain ⟨⟨h1, h2, h3, h4⟩, h5, h6⟩ := hRu q hq
    refine ⟨⟨?_, ?_, h3, fun i hi => ?_⟩, h5, fun r hr => ?_⟩
    · rw [r13]
      by_cases e : q = p
      · subst e; rw [if_pos ⟨rfl, rfl⟩]; dsimp only; rw [if_pos rfl]
      · rw [if_neg (fun z => e z.1)]; dsimp only; rw [if_neg e]; exact h1
    · dsimp only
      split
      · omega
      · exact h2
    · rw [r20, r23]
      refine ⟨?_, ?_⟩
      · split
        · exact dI_bl no
        · exact (h4 i hi).1
      · split
        · exact dI_bl la
        · exact (h4 i hi).2
    · unfold iRo
      rw [r17, r21, r22]
      dsimp only at hr
      by_cases e : q = p
      · subst e
        rw [if_pos rfl] at hr
        by_cases er : r = nr q
        · subst er
          rw [ej, nI_clamp (by omega), if_pos ⟨rfl, rfl⟩, if_pos ⟨rfl, rfl⟩]
          refine ⟨?_, fun e0 => ?_, fun e3 => ?_⟩
          · obtain ⟨z, hz, e⟩ := sCd_in hv
            exact ⟨z, hz, e⟩
          · rw [e0] at hv
            have hv' : isQ (nI (fc q)) bb = true := hv
            unfold isQ at hv'
            rw [Bool.and_eq_true, Bool.not_eq_true', decide_eq_false_iff_not, decide_eq_true_eq] at hv'
            have h8 := (hBx q hq).1.2.1
            rcases zrng bb (n := fc q) (by have := (hBx q hq).2.1; omega) with g0 | ⟨g0, g1, -⟩ | ⟨z, hz, e⟩
            · exact absurd g0 hv'.1
            · exact absurd hv'.2 g1
            · exact ⟨z, hz, e⟩
          · rw [e3] at hv
            have hv' : (rg bb (nI 0) (nI 3) && !decide (bb = nI q)) = true := hv
            unfold rg at hv'
            simp only [Bool.and_eq_true, Bool.not_eq_true', decide_eq_false_iff_not] at hv'
            obtain ⟨z, -, hz, e⟩ := zrg (by omega) hv'.1.1 hv'.1.2 (by omega)
            exact ⟨z, by omega, e⟩
        · obtain ⟨z, hz, ez⟩ := h3 r (by omega)
          have hzj : ¬ z = j := fun q' => by
            subst q'
            exact er (h5 r (nr q) (by omega) (by omega) (ez.trans ej.symm))
          have := h6 r (by omega)
          unfold iRo at this
          rw [ez, nI_clamp (by omega)] at this ⊢
          rw [if_neg (fun w => hzj w.2), if_neg (fun w => hzj w.2)]
          exact this
      · rw [if_neg e] at hr
        rw [if_neg (fun w => e w.1), if_neg (fun w => e w.1)]
        exact h6 r hr
  · obtain ⟨h6, h7, h8⟩ := hRl
    refine ⟨fun c hc => ?_, fun c i a1 a2 hi => ?_, fun q r hq hr => ?_⟩
    · by_cases e13 : c = 13
      · subst e13
        show u2 (y 13) p 3 (nI (nr p + 1)) = u2 (x 13) p 3 (nI (nr p + 1))
        rw [y13]
      · unfold iSh at hc
        unfold sAr mAr
        simp only [su_eq]
        rw [if_neg e13, if_neg e13, if_neg (by omega), if_neg (by omega), if_neg (by omega), if_neg (by omega), if_neg (by omega), if_neg (by omega), if_neg (by omega), if_neg (by omega), if_neg (by omega), if_neg (by omega), if_neg (by omega)]
        exact h6 c (by unfold iSh; omega)
    · unfold sAr mAr
      simp only [su_eq]
      rw [if_neg (by omega), if_neg (by omega), if_neg (by omega), if_neg (by omega), if_neg (by omega), if_neg (by omega), if_neg (by omega), if_neg (by omega), if_neg (by omega), if_neg (by omega), if_neg (by omega), if_neg (by omega), if_neg (by omega)]
      exact h7 c i a1 a2 hi
    · unfold iRr iFl
      rw [r17, m18, m19, m20, m21, m22, r18, r19, r20, r21, r22, r23]
      dsimp only at hr
      obtain ⟨⟨k1, k2, k3, k4⟩, k5, k6⟩ := hRu q hq
      by_cases e : q = p
      · subst e
        rw [if_pos rfl] at hr
        by_cases er : r = nr q
        · subst er
          rw [ej, nI_clamp (by omega)]
          simp only [and_self, true_and, and_true, reduceIte]
          cases no <;> cases la <;> decide
        · obtain ⟨z, hz, ez⟩ := k3 r (by omega)
          have hzj : ¬ z = j := fun q' => by
            subst q'
            exact er (k5 r (nr q) (by omega) (by omega) (ez.trans ej.symm))
          have := h8 q r hq (by omega)
          unfold iRr iFl at this
          rw [ez, nI_clamp (by omega)] at this ⊢
          simp only [hzj, er, and_false, reduceIte]
          exact this
      · rw [if_neg e] at hr
        have := h8 q r hq hr
        unfold iRr iFl at this
        simp only [e, false_and, reduceIte]
        exact this
theorem cG_rr {x y : zSt} {b p k n qn t w l : Nat} {fc nr : Nat → Nat} (hp : p < 4) (hSc : iSc x n qn t w l) (hBx : ∀ p, p < 4 → iBx x p n (fc p) b) (hRu : ∀ p, p < 4 → iRu x p (fc p) (nr p)) (hLe : iLe x n t) (hQs : zQs x qn) (hRl : iRl x y n nr) (hk : k < nr p) : cG n qn t w l fc (fun q => if q = p then nr p - 1 else nr q) b (sRr x p k (nr p)) (mRr y p k (nr p)) := by
  have y13 : y 13 = x 13 := iRl_sh hRl (iSh_a (by omega) (by omega))
  have r17 : ∀ i, sRr x p k (nr p) 17 p i = x 17 p (sgm k (nr p) i) := fun i => by
    show (if p = p ∧ k ≤ i ∧ i + 1 < nr p then x 17 p (i + 1) else if p = p ∧ i + 1 = nr p then x 17 p k else x 17 p i) = _
    unfold sgm
    simp only [true_and]
    (repeat' split) <;> rfl
  have r17o : ∀ q i, ¬ q = p → sRr x p k (nr p) 17 q i = x 17 q i := fun q i hq => by
    show (if q = p ∧ k ≤ i ∧ i + 1 < nr p then x 17 p (i + 1) else if q = p ∧ i + 1 = nr p then x 17 p k else x 17 q i) = _
    rw [if_neg (fun e => hq e.1), if_neg (fun e => hq e.1)]
  have ro : ∀ c, ¬ c = 13 → ¬ c = 17 → sRr x p k (nr p) c = x c := fun c h1 h2 => by unfold sRr; rw [su_eq, if_neg h2, su_eq, if_neg h1]
  have r13 : ∀ q i, sRr x p k (nr p) 13 q i = if q = p ∧ i = 3 then nI (nr p - 1) else x 13 q i := fun q i => rfl
  have hsg : ∀ r, r < 6 → sgm k (nr p) r < 6 := fun r hr => by
    have := (hRu p hp).1.2.1
    unfold sgm; (repeat' split) <;> omega
  have hsg2 : ∀ r, r < nr p - 1 → sgm k (nr p) r < nr p := fun r hr => by unfold sgm; (repeat' split) <;> omega
  refine ⟨hSc, fun q hq => ?_, fun q hq => ?_, hLe, hQs, ?_⟩
  · obtain ⟨⟨b1, b2, b3, b4, b5⟩, b6, b7, b8⟩ := hBx q hq
    refine ⟨⟨?_, b2, b3, b4, b5⟩, b6, iNum_le b7 (by omega), b8⟩
    rw [r13, if_neg (by omega)]; exact b1
  · obtain ⟨⟨h1, h2, h3, h4⟩, h5, h6⟩ := hRu q hq
    by_cases e : q = p
    · subst e
      dsimp only
      rw [if_pos rfl]
      refine ⟨⟨?_, by omega, fun r hr => ?_, h4⟩, fun r s hr hs he => ?_, fun r hr => ?_⟩
      · rw [r13, if_pos ⟨rfl, rfl⟩]
      · rw [r17]; exact h3 _ (hsg r hr)
      · rw [r17, r17] at he
        have := h5 _ _ (hsg r hr) (hsg s hs) he
        unfold sgm at this
        (repeat' split at this) <;> omega
      · rw [r17]
        exact h6 _ (hsg2 r hr)
    · dsimp only
      rw [if_neg e]
      refine ⟨⟨?_, h2, fun r hr => ?_, h4⟩, fun r s hr hs he => ?_, fun r hr => ?_⟩
      · rw [r13, if_neg (fun z => e z.1)]; exact h1
      · rw [r17o q r e]; exact h3 r hr
      · rw [r17o q r e, r17o q s e] at he; exact h5 r s hr hs he
      · rw [r17o q r e]; exact h6 r hr
  · obtain ⟨h6, h7, h8⟩ := hRl
    have mo : ∀ c, ¬ c = 2 → ¬ c = 13 → ¬ (18 ≤ c ∧ c ≤ 22) → mRr y p k (nr p) c = y c := fun c h2 h13 h18 => by
      unfold mRr
      simp only [su_eq]
      rw [if_neg h13, if_neg (by omega), if_neg (by omega), if_neg (by omega), if_neg (by omega), if_neg (by omega)]
    have sf : ∀ (g : Nat → Nat → Int32) r, r < nr p - 1 → sSf g p k (nr p) p r = g p (sgm k (nr p) r) := fun g r hr => by
      unfold sSf sgm
      simp only [true_and]
      by_cases h : k ≤ r ∧ r + 1 < nr p
      · rw [if_pos h, if_pos h]
      · rw [if_neg h, if_neg h, if_neg (by omega)]
    have sfo : ∀ (g : Nat → Nat → Int32) q r, ¬ q = p → sSf g p k (nr p) q r = g q r := fun g q r hq => by
      unfold sSf
      rw [if_neg (fun e => hq e.1)]
    refine ⟨fun c hc => ?_, fun c i a1 a2 hi => ?_, fun q r hq hr => ?_⟩
    · by_cases e13 : c = 13
      · subst e13
        show u2 (y 13) p 3 (nI (nr p - 1)) = u2 (x 13) p 3 (nI (nr p - 1))
        rw [y13]
      · have hc' := hc
        unfold iSh at hc'
        rw [mo c (by omega) e13 (by omega), ro c e13 (by omega)]
        exact h6 c hc
    · rw [mo c (by omega) (by omega) (by omega), ro c (by omega) (by omega)]
      exact h7 c i a1 a2 hi
    · have m18 : mRr y p k (nr p) 18 = sSf (y 18) p k (nr p) := rfl
      have m19 : mRr y p k (nr p) 19 = sSf (y 19) p k (nr p) := rfl
      have m20 : mRr y p k (nr p) 20 = sSf (y 20) p k (nr p) := rfl
      have m21 : mRr y p k (nr p) 21 = sSf (y 21) p k (nr p) := rfl
      have m22 : mRr y p k (nr p) 22 = sSf (y 22) p k (nr p) := rfl
      unfold iRr iFl
      rw [m18, m19, m20, m21, m22, ro 18 (by omega) (by omega), ro 19 (by omega) (by omega), ro 20 (by omega) (by omega), ro 21 (by omega) (by omega), ro 22 (by omega) (by omega), ro 23 (by omega) (by omega)]
      dsimp only at hr
      by_cases e : q = p
      · subst e
        rw [if_pos rfl] at hr
        rw [r17, sf _ r hr, sf _ r hr, sf _ r hr, sf _ r hr, sf _ r hr]
        exact h8 q _ hq (hsg2 r hr)
      · rw [if_neg e] at hr
        rw [r17o q r e, sfo _ q r e, sfo _ q r e, sfo _ q r e, sfo _ q r e, sfo _ q r e]
        exact h8 q r hq hr
theorem cG_mark {x y : zSt} {b n qn t w l p m mx : Nat} {fc nr : Nat → Nat} (h : cG n qn t w l fc nr b x y) (hp : p < 4) (hmx : mx < 4) (hm : m < 60) : cG n qn t w l fc nr b (sRe (su x 27 (u2 (x 27) p m (nI mx))) p m) (sRe (su y 27 (u2 (x 27) p m (nI mx))) p m) := by
  obtain ⟨hSc, hBx, hRu, hLe, hQs, hRl⟩ := id h
  obtain ⟨hn, h60, hq, h20, ht, ht9, hw, hw50, hl, hl100⟩ := id hSc
  have y0 : y 0 = x 0 := iRl_sh hRl iSh_0
  have y28 : y 28 = x 28 := iRl_sh hRl (iSh_b (by omega) (by omega))
  refine ⟨hSc, fun q hq => ?_, fun q hq => hRu q hq, hLe, hQs, ?_⟩
  · obtain ⟨⟨b1, b2, b3, b4, b5⟩, b6, b7, b8⟩ := hBx q hq
    refine ⟨⟨b1, b2, b3, b4, fun i hi => ?_⟩, b6, iNum_le b7 (by omega), b8⟩
    show ∃ k, k < 4 ∧ u2 (x 27) p m (nI mx) q i = nI k
    rw [u2_eq]
    split
    · exact ⟨mx, hmx, rfl⟩
    · exact b5 i hi
  · unfold sRe
    refine iRl_su (iRl_su (iRl_su hRl (iSh_b (by omega) (by omega)) rfl) iSh_0 ?_) (iSh_b (by omega) (by omega)) ?_
    · show u2 (y 0) 0 9 (y 0 0 9 + nI 1) = u2 (x 0) 0 9 (x 0 0 9 + nI 1)
      rw [y0]
    · show u2 (y 28) p m (y 0 0 9 + nI 1) = u2 (x 28) p m (x 0 0 9 + nI 1)
      rw [y0, y28]
section ZA
variable {x y Y : zSt} {E : zEx} {b n qn t w l : Nat} {fc nr : Nat → Nat} {Q : zO → zM → Prop}
def xFo (x : zSt) (p c f : Nat) : zSt := su (su x 14 (u2 (x 14) p c (nI f))) 13 (u2 (x 13) p 1 (nI (c + 1)))
theorem a41 {p f : Nat} (h : cG n qn t w l fc nr b x y) (hp : p < 4) (hf : f < fc p) (h1 : ¬ f = 1) (h8 : fc p < 8) : zcl 41 [.ref 2, .int (nI p), .int (nI f)] (zmem x Y E) Q ↔ Q (.inl (some (.int (nI (fc p))))) (zmem (xFo x p (fc p) f) Y E) := by
  obtain ⟨hSc, hBx, hRu, hLe, hQs, hRl⟩ := id h
  obtain ⟨hn, h60, hq, h20, ht, ht9, hw, hw50, hl, hl100⟩ := id hSc
  obtain ⟨⟨hc1, hc8, hF, hK, hM⟩, hc2, hN, hC⟩ := id (hBx p hp)
  unfold xFo
  rw [e41]
  simp (disch := omega) only [p41_0, p41_1, p41_2, p41_5, p41_6, p41_7, p41_8, p41_11, p41_12, p41_13, p41_16, p41_26, p41_27, p41_30, p41_32, p41_35, p41_45, p41_46, p41_49, p41_51, p41_52, p41_55, p41_57, p41_58, p41_59, p41_62, p41_63, p41_63i, p41_64, p41_67, p41_68, p41_69, p41_72, p41_74, e74, p74_0, p74_1, p74_2, p74_5, p74_8, p74_19, c73, c32, nI_ltI, Nat.not_lt_zero, Nat.lt_irrefl, eq_self, hc1, hf, h1, nI_eq, h8, su_eq, l_dm_ok, l_dm_0, l_dm_1, l_dm_2, l_dm_2p, l_dm_3, l_dm_4, l_dm_4p, l_dm_5, l_dm_6, l_dm_6p, l_dm_7, l_dm_7p, l_dm_8, l_dm_8p, l_dm_9, l_dm_9p, l_dm_10, l_dm_11, l_dm_12, l_dm_13, l_dm_14, l_bx_ok, l_bx_0, l_bx_1, l_bx_1p, l_bx_2, l_bx_3, l_bx_3p, l_bx_4, l_bx_5, l_bx_5p, l_sh_ok, l_sh_0, l_sh_0p, l_sh_1, l_sh_1p, l_sh_2, l_sh_2p, l_bxa_ar, l_bxa_ln, l_bxa_ia, l_bxa_e, l_lea_ar, l_lea_ln, l_lea_ia, l_lea_e, l_qua_ar, l_qua_ln, l_qua_ia, l_qua_e, l_bo_ar, l_bo_ln, l_bo_ia, l_bo_is, l_bo_e, l_bo_ep, l_fc_ar, l_fc_ln, l_fc_ia, l_fc_is, l_fc_e, l_fc_ep, l_sha_ar, l_sha_ln, l_sha_ia, l_sha_e, l_rua_ar, l_rua_ln, l_rua_ia, l_rua_e, l_rua_ep, l_rua_e2, l_coa_ar, l_coa_ln, l_coa_ia, l_coa_e, zvi_int, zvl_long, zvd_double, zvr_ref, zisI_int, zisR_ref, zgI_int, zgR_ref, zkl_int, zkl_ref, zkl_none, zkl_long, zkl_double, zct_nil, zct_int, zct_ref, zct_long, zct_double, zbk_some, zbk_none, zbk_exc, nI_clamp, nI_add, nI_mul, true_and, and_true, Nat.reduceAdd, Nat.reduceMul, Nat.reduceLeDiff, Nat.reducePow, ↓reduceIte, Nat.zero_add, Nat.add_zero, Nat.reduceLT, Nat.reduceEqDiff, Nat.le_refl, zn10, zn01, zfitB0, zfitB1, znarB0, znarB1, Nat.lt_irrefl, ↓zvi_eq, ↓zvr_eq]
theorem g41 {p f : Nat} (h : cG n qn t w l fc nr b x y) (hp : p < 4) (hf : f < fc p) (h8 : fc p < 8) : cG n qn t w l (fun q => if q = p then fc p + 1 else fc q) nr b (xFo x p (fc p) f) (xFo y p (fc p) f) := by
  obtain ⟨hSc, hBx, hRu, hLe, hQs, hRl⟩ := id h
  obtain ⟨hn, h60, hq, h20, ht, ht9, hw, hw50, hl, hl100⟩ := id hSc
  obtain ⟨⟨hc1, hc8, hF, hK, hM⟩, hc2, hN, hC⟩ := id (hBx p hp)
  have e13 : y 13 = x 13 := iRl_sh hRl (iSh_a (by omega) (by omega))
  have e14 : y 14 = x 14 := iRl_sh hRl (iSh_a (by omega) (by omega))
  unfold xFo
  rw [e13, e14]
  refine ⟨hSc, fun q hq => ?_, fun q hq => ?_, hLe, hQs, iRl_su (iRl_su hRl (iSh_a (by omega) (by omega)) rfl) (iSh_a (by omega) (by omega)) rfl⟩
  · obtain ⟨⟨b1, b2, b3, b4, b5⟩, b6, b7, b8⟩ := hBx q hq
    by_cases e : q = p
    · subst e
      dsimp only
      rw [if_pos rfl]
      refine ⟨⟨?_, by omega, ?_, fun i hi => ?_, hM⟩, by omega, iNum_le b7 (by omega), b8⟩
      · show u2 (x 13) q 1 (nI (fc q + 1)) q 1 = _
        rw [u2_eq, if_pos ⟨rfl, rfl⟩]
      · show zFor (u2 (x 14) q (fc q) (nI f) q) _
        rw [u2_row]
        exact zFor_new hF h8 hf
      · rcases hK i hi with e | ⟨e1, g, e2, e3⟩
        · exact Or.inl e
        · exact Or.inr ⟨e1, g, by omega, e3⟩
    · dsimp only
      rw [if_neg e]
      refine ⟨⟨?_, b2, ?_, b4, b5⟩, b6, iNum_le b7 (by omega), b8⟩
      · show u2 (x 13) p 1 (nI (fc p + 1)) q 1 = _
        rw [u2_other _ _ _ _ e]; exact b1
      · show zFor (u2 (x 14) p (fc p) (nI f) q) _
        rw [u2_other _ _ _ _ e]; exact b3
  · obtain ⟨⟨r1, r2, r3, r4⟩, r5, r6⟩ := hRu q hq
    refine ⟨⟨?_, r2, r3, r4⟩, r5, fun r hr => ?_⟩
    · show u2 (x 13) p 1 (nI (fc p + 1)) q 3 = _
      rw [u2_eq, if_neg (by omega)]; exact r1
    · obtain ⟨s1, s2, s3⟩ := r6 r hr
      refine ⟨s1, fun e => ?_, s3⟩
      obtain ⟨g, hg, e'⟩ := s2 e
      refine ⟨g, ?_, e'⟩
      dsimp only
      split
      · next eq => subst eq; omega
      · exact hg
theorem a42 {p f g : Nat} (h : cG n qn t w l fc nr b x y) (hp : p < 4) (hf : f < fc p) (hg : g < fc p) (hf1 : 1 < f) (hg1 : ¬ g = 1) (hwi : sWi (nI (fc p)) (x 14 p) (nI f) 8 (nI g) = false) : zcl 42 [.ref 2, .int (nI p), .int (nI f), .int (nI g)] (zmem x Y E) Q ↔ Q (.inl (some (.int (x 14 p f)))) (zmem (su x 14 (u2 (x 14) p f (nI g))) Y E) := by
  obtain ⟨hSc, hBx, hRu, hLe, hQs, hRl⟩ := id h
  obtain ⟨hn, h60, hq, h20, ht, ht9, hw, hw50, hl, hl100⟩ := id hSc
  obtain ⟨⟨hc1, hc8, hF, hK, hM⟩, hc2, hN, hC⟩ := id (hBx p hp)
  have h33 := fun (Q : zO → zM → Prop) => c33 (x := x) (y := Y) (E := E) (Q := Q) (p := p) (f := nI g) (t := nI f) hp ⟨fc p, hc8, hc1⟩
  rw [hc1] at h33
  have hfa : ¬ f = 0 := by omega
  have hfb : ¬ f = 1 := by omega
  rw [e42]
  simp (disch := omega) only [p42_0, p42_1, p42_2, p42_5, p42_7, p42_9, p42_10, p42_13, p42_15, p42_16, p42_19, p42_20, p42_23, p42_24, p42_25, p42_28, p42_38, p42_39, p42_40, p42_43, p42_45, p42_46, p42_47, p42_50, p42_53, p42_63, p42_65, p42_68, p42_69, p42_70, p42_73, p42_75, p42_77, p42_80, p42_81, p42_82, p42_83, p42_86, p42_88, e74, p74_0, p74_1, p74_2, p74_5, p74_8, p74_19, c73, c32, nI_ltI, Nat.not_lt_zero, Nat.lt_irrefl, eq_self, hc1, hf, hg, hf1, hfa, hfb, hg1, h33, hwi, nI_eq, Bool.false_eq_true, l_dm_ok, l_dm_0, l_dm_1, l_dm_2, l_dm_2p, l_dm_3, l_dm_4, l_dm_4p, l_dm_5, l_dm_6, l_dm_6p, l_dm_7, l_dm_7p, l_dm_8, l_dm_8p, l_dm_9, l_dm_9p, l_dm_10, l_dm_11, l_dm_12, l_dm_13, l_dm_14, l_bx_ok, l_bx_0, l_bx_1, l_bx_1p, l_bx_2, l_bx_3, l_bx_3p, l_bx_4, l_bx_5, l_bx_5p, l_sh_ok, l_sh_0, l_sh_0p, l_sh_1, l_sh_1p, l_sh_2, l_sh_2p, l_bxa_ar, l_bxa_ln, l_bxa_ia, l_bxa_e, l_lea_ar, l_lea_ln, l_lea_ia, l_lea_e, l_qua_ar, l_qua_ln, l_qua_ia, l_qua_e, l_bo_ar, l_bo_ln, l_bo_ia, l_bo_is, l_bo_e, l_bo_ep, l_fc_ar, l_fc_ln, l_fc_ia, l_fc_is, l_fc_e, l_fc_ep, l_sha_ar, l_sha_ln, l_sha_ia, l_sha_e, l_rua_ar, l_rua_ln, l_rua_ia, l_rua_e, l_rua_ep, l_rua_e2, l_coa_ar, l_coa_ln, l_coa_ia, l_coa_e, zvi_int, zvl_long, zvd_double, zvr_ref, zisI_int, zisR_ref, zgI_int, zgR_ref, zkl_int, zkl_ref, zkl_none, zkl_long, zkl_double, zct_nil, zct_int, zct_ref, zct_long, zct_double, zbk_some, zbk_none, zbk_exc, nI_clamp, nI_add, nI_mul, true_and, and_true, Nat.reduceAdd, Nat.reduceMul, Nat.reduceLeDiff, Nat.reducePow, ↓reduceIte, Nat.zero_add, Nat.add_zero, Nat.reduceLT, Nat.reduceEqDiff, Nat.le_refl, zn10, zn01, zfitB0, zfitB1, znarB0, znarB1, Nat.lt_irrefl, ↓zvi_eq, ↓zvr_eq]
theorem g42 {p f g : Nat} (h : cG n qn t w l fc nr b x y) (hp : p < 4) (hf : f < fc p) (hg : g < fc p) (hwi : sWi (nI (fc p)) (x 14 p) (nI f) 8 (nI g) = false) : cG n qn t w l fc nr b (su x 14 (u2 (x 14) p f (nI g))) (su y 14 (u2 (y 14) p f (nI g))) := by
  obtain ⟨hSc, hBx, hRu, hLe, hQs, hRl⟩ := id h
  obtain ⟨hn, h60, hq, h20, ht, ht9, hw, hw50, hl, hl100⟩ := id hSc
  obtain ⟨⟨hc1, hc8, hF, hK, hM⟩, hc2, hN, hC⟩ := id (hBx p hp)
  have e14 : y 14 = x 14 := iRl_sh hRl (iSh_a (by omega) (by omega))
  rw [e14]
  refine ⟨hSc, fun q hq => ?_, fun q hq => hRu q hq, hLe, hQs, iRl_su hRl (iSh_a (by omega) (by omega)) rfl⟩
  obtain ⟨⟨b1, b2, b3, b4, b5⟩, b6, b7, b8⟩ := hBx q hq
  refine ⟨⟨b1, b2, ?_, b4, b5⟩, b6, iNum_le b7 (by omega), b8⟩
  show zFor (u2 (x 14) p f (nI g) q) _
  by_cases e : q = p
  · subst e
    rw [u2_row]
    exact zFor_nest hF hc8 hg hf (by rw [hwi]; decide)
  · rw [u2_other _ _ _ _ e]; exact b3
theorem a43 {p f a : Nat} (h : cG n qn t w l fc nr b x y) (hp : p < 4) (hf : f < fc p) (ha : a ≤ 200) : zcl 43 [.ref 2, .int (nI p), .int (nI f), .int (nI a)] (zmem x Y E) Q ↔ Q (.inl (some (.int (x 15 p f)))) (zmem (su x 15 (u2 (x 15) p f (nI a))) Y E) := by
  obtain ⟨hSc, hBx, hRu, hLe, hQs, hRl⟩ := id h
  obtain ⟨hn, h60, hq, h20, ht, ht9, hw, hw50, hl, hl100⟩ := id hSc
  obtain ⟨⟨hc1, hc8, hF, hK, hM⟩, hc2, hN, hC⟩ := id (hBx p hp)
  have ha' : ¬ 200 < a := by omega
  rw [e43]
  simp (disch := omega) only [p43_0, p43_1, p43_2, p43_5, p43_7, p43_9, p43_10, p43_13, p43_14, p43_15, p43_18, p43_21, p43_23, p43_26, p43_27, p43_28, p43_31, p43_33, p43_35, p43_38, p43_39, p43_40, p43_41, p43_44, p43_46, e74, p74_0, p74_1, p74_2, p74_5, p74_8, p74_19, e78, p78_0, p78_1, p78_2, p78_3, p78_6, p78_9, p78_20, e82, p82_0, p82_1, p82_2, p82_5, p82_6, p82_7, p82_10, p82_11, p82_14, p82_15, c73, c32, nI_ltI, Nat.not_lt_zero, Nat.lt_irrefl, eq_self, hc1, hf, ha', l_dm_ok, l_dm_0, l_dm_1, l_dm_2, l_dm_2p, l_dm_3, l_dm_4, l_dm_4p, l_dm_5, l_dm_6, l_dm_6p, l_dm_7, l_dm_7p, l_dm_8, l_dm_8p, l_dm_9, l_dm_9p, l_dm_10, l_dm_11, l_dm_12, l_dm_13, l_dm_14, l_bx_ok, l_bx_0, l_bx_1, l_bx_1p, l_bx_2, l_bx_3, l_bx_3p, l_bx_4, l_bx_5, l_bx_5p, l_sh_ok, l_sh_0, l_sh_0p, l_sh_1, l_sh_1p, l_sh_2, l_sh_2p, l_bxa_ar, l_bxa_ln, l_bxa_ia, l_bxa_e, l_lea_ar, l_lea_ln, l_lea_ia, l_lea_e, l_qua_ar, l_qua_ln, l_qua_ia, l_qua_e, l_bo_ar, l_bo_ln, l_bo_ia, l_bo_is, l_bo_e, l_bo_ep, l_fc_ar, l_fc_ln, l_fc_ia, l_fc_is, l_fc_e, l_fc_ep, l_sha_ar, l_sha_ln, l_sha_ia, l_sha_e, l_rua_ar, l_rua_ln, l_rua_ia, l_rua_e, l_rua_ep, l_rua_e2, l_coa_ar, l_coa_ln, l_coa_ia, l_coa_e, zvi_int, zvl_long, zvd_double, zvr_ref, zisI_int, zisR_ref, zgI_int, zgR_ref, zkl_int, zkl_ref, zkl_none, zkl_long, zkl_double, zct_nil, zct_int, zct_ref, zct_long, zct_double, zbk_some, zbk_none, zbk_exc, nI_clamp, nI_add, nI_mul, true_and, and_true, Nat.reduceAdd, Nat.reduceMul, Nat.reduceLeDiff, Nat.reducePow, ↓reduceIte, Nat.zero_add, Nat.add_zero, Nat.reduceLT, Nat.reduceEqDiff, Nat.le_refl, zn10, zn01, zfitB0, zfitB1, znarB0, znarB1, Nat.lt_irrefl, ↓zvi_eq, ↓zvr_eq]
theorem g43 {p f a : Nat} (h : cG n qn t w l fc nr b x y) (hp : p < 4) (ha : a ≤ 200) : cG n qn t w l fc nr b (su x 15 (u2 (x 15) p f (nI a))) (su y 15 (u2 (y 15) p f (nI a))) := by
  obtain ⟨hSc, hBx, hRu, hLe, hQs, hRl⟩ := id h
  obtain ⟨hn, h60, hq, h20, ht, ht9, hw, hw50, hl, hl100⟩ := id hSc
  have e15 : y 15 = x 15 := iRl_sh hRl (iSh_a (by omega) (by omega))
  rw [e15]
  refine ⟨hSc, fun q hq => ?_, fun q hq => hRu q hq, hLe, hQs, iRl_su hRl (iSh_a (by omega) (by omega)) rfl⟩
  obtain ⟨b1, b6, b7, c1, c2, c3⟩ := hBx q hq
  refine ⟨b1, b6, iNum_le b7 (by omega), c1, c2, fun k hk => ?_⟩
  show ∃ a', a' ≤ 200 ∧ u2 (x 15) p f (nI a) q k = nI a'
  rw [u2_eq]
  split
  · exact ⟨a, ha, rfl⟩
  · exact c3 k hk
theorem a44 {p a : Nat} (hp : p < 4) (h1 : 1 ≤ a) (ha : a ≤ 2000) : zcl 44 [.ref 2, .int (nI p), .int (nI a)] (zmem x Y E) Q ↔ Q (.inl (some (.int (x 13 p 5)))) (zmem (su x 13 (u2 (x 13) p 5 (nI a))) Y E) := by
  have h1' : ¬ a < 1 := by omega
  have ha' : ¬ 2000 < a := by omega
  rw [e44]
  simp (disch := omega) only [p44_0, p44_1, p44_2, p44_5, p44_6, p44_7, p44_8, p44_11, p44_14, p44_15, p44_18, p44_20, p44_21, p44_22, p44_25, p44_27, e78, p78_0, p78_1, p78_2, p78_3, p78_6, p78_9, p78_20, e82, p82_0, p82_1, p82_2, p82_5, p82_6, p82_7, p82_10, p82_11, p82_14, p82_15, c73, nI_ltI, Nat.not_lt_zero, Nat.lt_irrefl, eq_self, h1', ha', l_dm_ok, l_dm_0, l_dm_1, l_dm_2, l_dm_2p, l_dm_3, l_dm_4, l_dm_4p, l_dm_5, l_dm_6, l_dm_6p, l_dm_7, l_dm_7p, l_dm_8, l_dm_8p, l_dm_9, l_dm_9p, l_dm_10, l_dm_11, l_dm_12, l_dm_13, l_dm_14, l_bx_ok, l_bx_0, l_bx_1, l_bx_1p, l_bx_2, l_bx_3, l_bx_3p, l_bx_4, l_bx_5, l_bx_5p, l_bxa_ar, l_bxa_ln, l_bxa_ia, l_bxa_e, l_lea_ar, l_lea_ln, l_lea_ia, l_lea_e, l_qua_ar, l_qua_ln, l_qua_ia, l_qua_e, l_bo_ar, l_bo_ln, l_bo_ia, l_bo_is, l_bo_e, l_bo_ep, l_fc_ar, l_fc_ln, l_fc_ia, l_fc_is, l_fc_e, l_fc_ep, l_sha_ar, l_sha_ln, l_sha_ia, l_sha_e, l_rua_ar, l_rua_ln, l_rua_ia, l_rua_e, l_rua_ep, l_rua_e2, l_coa_ar, l_coa_ln, l_coa_ia, l_coa_e, zvi_int, zvl_long, zvd_double, zvr_ref, zisI_int, zisR_ref, zgI_int, zgR_ref, zkl_int, zkl_ref, zkl_none, zkl_long, zkl_double, zct_nil, zct_int, zct_ref, zct_long, zct_double, zbk_some, zbk_none, zbk_exc, nI_clamp, nI_add, nI_mul, true_and, and_true, Nat.reduceAdd, Nat.reduceMul, Nat.reduceLeDiff, Nat.reducePow, ↓reduceIte, Nat.zero_add, Nat.add_zero, Nat.reduceLT, Nat.reduceEqDiff, Nat.le_refl, zn10, zn01, zfitB0, zfitB1, znarB0, znarB1, Nat.lt_irrefl, ↓zvi_eq, ↓zvr_eq]
theorem g44 {p : Nat} {a : Int32} (h : cG n qn t w l fc nr b x y) (hp : p < 4) : cG n qn t w l fc nr b (su x 13 (u2 (x 13) p 5 a)) (su y 13 (u2 (y 13) p 5 a)) := by
  obtain ⟨hSc, hBx, hRu, hLe, hQs, hRl⟩ := id h
  obtain ⟨hn, h60, hq, h20, ht, ht9, hw, hw50, hl, hl100⟩ := id hSc
  have e13 : y 13 = x 13 := iRl_sh hRl (iSh_a (by omega) (by omega))
  rw [e13]
  refine ⟨hSc, fun q hq => ?_, fun q hq => ?_, hLe, hQs, iRl_su hRl (iSh_a (by omega) (by omega)) rfl⟩
  · obtain ⟨⟨b1, b2, b3, b4, b5⟩, b6, b7, b8⟩ := hBx q hq
    refine ⟨⟨?_, b2, b3, b4, b5⟩, b6, iNum_le b7 (by omega), b8⟩
    show u2 (x 13) p 5 a q 1 = _
    rw [u2_eq, if_neg (by omega)]; exact b1
  · obtain ⟨⟨r1, r2, r3, r4⟩, r5, r6⟩ := hRu q hq
    refine ⟨⟨?_, r2, r3, r4⟩, r5, r6⟩
    show u2 (x 13) p 5 a q 3 = _
    rw [u2_eq, if_neg (by omega)]; exact r1
def xLi (x : zSt) (v a : Nat) : zSt := su (su x 0 (u2 (x 0) 0 7 (nI v))) 0 (u2 (u2 (x 0) 0 7 (nI v)) 0 8 (nI a))
theorem a45 {v a : Nat} (h1 : 1 ≤ v) (hv : v ≤ 100) (ha : a ≤ 50) : zcl 45 [.ref 2, .int (nI v), .int (nI a)] (zmem x Y E) Q ↔ Q (.inl (some (.int (x 0 0 7)))) (zmem (xLi x v a) Y E) := by
  have h1' : ¬ v < 1 := by omega
  have hv' : ¬ 100 < v := by omega
  have ha' : ¬ 50 < a := by omega
  unfold xLi
  rw [e45]
  simp (disch := omega) only [p45_0, p45_1, p45_2, p45_4, p45_7, p45_8, p45_9, p45_11, p45_14, p45_15, p45_18, p45_19, p45_20, p45_21, p45_24, p45_25, p45_26, p45_29, p45_30, e78, p78_0, p78_1, p78_2, p78_3, p78_6, p78_9, p78_20, e82, p82_0, p82_1, p82_2, p82_5, p82_6, p82_7, p82_10, p82_11, p82_14, p82_15, nI_ltI, Nat.not_lt_zero, Nat.lt_irrefl, eq_self, su_eq, h1', hv', ha', l_dm_ok, l_dm_0, l_dm_1, l_dm_2, l_dm_2p, l_dm_3, l_dm_4, l_dm_4p, l_dm_5, l_dm_6, l_dm_6p, l_dm_7, l_dm_7p, l_dm_8, l_dm_8p, l_dm_9, l_dm_9p, l_dm_10, l_dm_11, l_dm_12, l_dm_13, l_dm_14, l_bxa_ar, l_bxa_ln, l_bxa_ia, l_bxa_e, l_lea_ar, l_lea_ln, l_lea_ia, l_lea_e, l_qua_ar, l_qua_ln, l_qua_ia, l_qua_e, l_bo_ar, l_bo_ln, l_bo_ia, l_bo_is, l_bo_e, l_bo_ep, l_fc_ar, l_fc_ln, l_fc_ia, l_fc_is, l_fc_e, l_fc_ep, zvi_int, zvl_long, zvd_double, zvr_ref, zisI_int, zisR_ref, zgI_int, zgR_ref, zkl_int, zkl_ref, zkl_none, zkl_long, zkl_double, zct_nil, zct_int, zct_ref, zct_long, zct_double, zbk_some, zbk_none, zbk_exc, nI_clamp, nI_add, nI_mul, true_and, and_true, Nat.reduceAdd, Nat.reduceMul, Nat.reduceLeDiff, Nat.reducePow, ↓reduceIte, Nat.zero_add, Nat.add_zero, Nat.reduceLT, Nat.reduceEqDiff, Nat.le_refl, zn10, zn01, zfitB0, zfitB1, znarB0, znarB1, Nat.lt_irrefl, ↓zvi_eq, ↓zvr_eq]
theorem g45 {v a : Nat} (h : cG n qn t w l fc nr b x y) (hv : v ≤ 100) (ha : a ≤ 50) : cG n qn t a v fc nr b (xLi x v a) (xLi y v a) := by
  obtain ⟨hSc, hBx, hRu, hLe, hQs, hRl⟩ := id h
  obtain ⟨hn, h60, hq, h20, ht, ht9, hw, hw50, hl, hl100⟩ := id hSc
  have e0 : y 0 = x 0 := iRl_sh hRl iSh_0
  unfold xLi
  rw [e0]
  refine ⟨⟨hn, h60, hq, h20, ht, ht9, rfl, ha, rfl, hv⟩, fun q hq => ?_, fun q hq => hRu q hq, hLe, hQs, iRl_su (iRl_su hRl iSh_0 rfl) iSh_0 rfl⟩
  obtain ⟨b1, b6, b7, b8⟩ := hBx q hq
  exact ⟨b1, b6, iNum_le b7 (by omega), b8⟩
end ZA
