/-! the calls, one by one: sending (source: wip/p35/src/237.tg.txt, by expand2.py) -/
section ZG
variable {n qn t w l b : Nat} {fc nr : Nat → Nat} {x y : zSt}
theorem iRl_new {f s w' z a v : Int32} {Y : zSt} (h0 : y 0 = x 0) (h : iRl x Y n nr) (hY : ∀ c, ¬ c = 2 → Y c = y c) (hY' : Y 0 = y 0) : iRl (su (wLe x n f s w' z a v) 0 (u2 (x 0) 0 2 (nI (n + 1)))) (mBu n (wLe Y n f s w' z a v)) (n + 1) nr := by
  obtain ⟨h6, h7, h8⟩ := h
  have rx : ∀ c, ¬ c = 0 → su (wLe x n f s w' z a v) 0 (u2 (x 0) 0 2 (nI (n + 1))) c = wLe x n f s w' z a v c := fun c hc => by rw [su_eq, if_neg hc]
  refine ⟨fun c hs => ?_, fun c i a1 a2 hi => ?_, fun p r hp hr => ?_⟩
  · by_cases h : c = 0
    · subst h
      show u2 (wLe Y n f s w' z a v 0) 0 2 (nI (n + 1)) = u2 (x 0) 0 2 (nI (n + 1))
      rw [wLe_o _ _ _ _ _ _ _ _ (by omega), hY', h0]
    · rw [rx c h, mBu_o n _ h, wLe_o _ _ _ _ _ _ _ _ (by unfold iSh at hs; omega), wLe_o _ _ _ _ _ _ _ _ (by unfold iSh at hs; omega)]
      exact h6 c hs
  · rw [rx c (by omega), mBu_o n _ (by omega)]
    by_cases e : i = n
    · subst e
      have := wLe_lf x Y i i f s w' z a v (c - 30) (by omega)
      unfold sLf at this
      rw [show 30 + (c - 30) = c by omega] at this
      exact this
    · rw [wLe_q _ _ _ _ _ _ _ _ _ _ _ (by omega), wLe_q _ _ _ _ _ _ _ _ _ _ _ (by omega)]
      exact h7 c i a1 a2 (by omega)
  · have := h8 p r hp hr
    exact this
theorem cG_new {f s w' z a : Int32} (h60 : n < 60) (h : cG n qn t w l fc nr b x y) (hL : lOK f s w' z = true) (ha : a = -1 ∨ ∃ m, m < n ∧ a = nI m) : cG (n + 1) qn t w l fc nr b (su (wLe x n f s w' z a (nI t)) 0 (u2 (x 0) 0 2 (nI (n + 1)))) (mBu n (wLe (mTh y 0) n f s w' z a (nI t))) := by
  obtain ⟨h1, h2, h3, h4, h5, h6⟩ := h
  obtain ⟨hn, -, hq, h20, ht, ht9, hw, hw50, hl, hl100⟩ := h1
  obtain ⟨l1, l2, tm, l3, l4⟩ := h4
  obtain ⟨hf, z', hz1, hz2, hz⟩ := lOK_in hL
  obtain ⟨r0, r1, r2, r3, r4, r5⟩ := wLe_r x n f s w' z a (nI t)
  have v30 : ∀ i, wLe x n f s w' z a (nI t) 30 0 i = if i = n then f else x 30 0 i := fun i => by rw [r0, u2_row]
  have v33 : ∀ i, wLe x n f s w' z a (nI t) 33 0 i = if i = n then z else x 33 0 i := fun i => by rw [r3, u2_row]
  have v34 : ∀ i, wLe x n f s w' z a (nI t) 34 0 i = if i = n then a else x 34 0 i := fun i => by rw [r4, u2_row]
  have v35 : ∀ i, wLe x n f s w' z a (nI t) 35 0 i = if i = n then nI t else x 35 0 i := fun i => by rw [r5, u2_row]
  refine ⟨⟨rfl, by omega, hq, h20, ht, ht9, hw, hw50, hl, hl100⟩, fun p hp => ?_, fun p hp => h3 p hp, ⟨fun i hi => ?_, fun i hi => ?_, fun i => if i = n then t else tm i, fun i hi => ?_, fun i j hij hj => ?_⟩, h5, iRl_new (iRl_sh h6 iSh_0) (iRl_th h6) (fun c h => mTh_o y 0 h) rfl⟩
  · obtain ⟨⟨b1, b2, b3, b4, b5⟩, b6⟩ := h2 p hp
    exact ⟨⟨b1, b2, b3, fun i hi => (b4 i hi).imp id (fun q => ⟨by omega, q.2⟩), b5⟩, b6⟩
  · show wLe x n f s w' z a (nI t) 34 0 i = -1 ∨ ∃ k, k < i ∧ wLe x n f s w' z a (nI t) 34 0 i = nI k
    rw [v34]
    split
    · next e => subst e; exact ha
    · exact l1 i hi
  · show (∃ k, k < 10 ∧ wLe x n f s w' z a (nI t) 30 0 i = nI k) ∧ ∃ k, k ≤ 50 ∧ wLe x n f s w' z a (nI t) 33 0 i = nI k
    rw [v30, v33]
    split
    · exact ⟨hf, z', hz2, hz⟩
    · exact l2 i (by omega)
  · show wLe x n f s w' z a (nI t) 35 0 i = _ ∧ _
    rw [v35]
    dsimp only
    split
    · exact ⟨rfl, Nat.le_refl t⟩
    · exact l3 i (by omega)
  · dsimp only
    rw [if_neg (by omega : ¬ i = n)]
    split
    · exact (l3 i (by omega)).2
    · exact l4 i j hij (by omega)
/-- all arrivals -/
theorem cG_all {J : Nat → zJ} (h60 : n < 60) (hJ : ∀ p, p < 4 → jOK (fc p) (J p)) : ∀ (ll : List Nat) (b : Nat) (x y : zSt), b + ll.length < 900000000 → ll.Nodup → (∀ p, p ∈ ll → p < 4) → (∀ p, p ∈ ll → x 25 p n = -1) → cG (n + 1) qn t w l fc nr b x (mBu n y) → cG (n + 1) qn t w l fc nr (b + ll.length) (ll.foldl (fun X p => sArr X p n (n + 1) (J p)) x) (mBu n (ll.foldl (fun Y p => mKp (pM Y (J p)) p n n) y))
  | [], b, x, y, hb, hd, hl, h25, h => h
  | p :: ll, b, x, y, hb, hd, hl, h25, h => by
    rw [List.length_cons] at hb
    obtain ⟨hd1, hd2⟩ := List.nodup_cons.mp hd
    have hp := hl p List.mem_cons_self
    have h1 : cG (n + 1) qn t w l fc nr b x (mBu n (pM y (J p))) := cG_y h (fun c c2 c4 => by
      by_cases e : c = 0
      · subst e; rfl
      · rw [mBu_o n _ e, mBu_o n _ e, pM_o _ _ c2 c4])
    have h2 := cG_arr (by omega) hp h60 h1 (hJ p hp) (h25 p List.mem_cons_self) rfl rfl rfl
    rw [List.foldl_cons, List.foldl_cons, List.length_cons]
    have h3 := cG_all h60 hJ ll (b + 1) (sArr x p n (n + 1) (J p)) (mKp (pM y (J p)) p n n) (by omega) hd2 (fun q hq => hl q (List.mem_cons_of_mem _ hq)) (fun q hq => by
      rw [sArr_25 (fun e => hd1 (by rw [← e]; exact hq))]
      exact h25 q (List.mem_cons_of_mem _ hq)) h2
    rw [show b + (ll.length + 1) = b + 1 + ll.length by omega]
    exact h3
end ZG
theorem mKp_th (y : zSt) (p i n : Nat) : mKp y p i n 2 = y 2 := by
  unfold mKp
  split
  · split
    · rfl
    · rfl
  · rfl
section ZC
variable {x y : zSt} {E : zEx} {b : Nat}
theorem c50L {n : Nat} {f to s w' z a : Int32} {nr : Nat → Nat} {x1 x0 : zSt} {ll : List Nat} {va vu : Nat} {Q : zO → zM → Prop} (h60 : n < 60) (h01 : aH x0 x1 ∨ zEq x0 x1) (hn : x0 0 0 2 = nI (n + 1)) (hl : ∀ p, p ∈ ll → p < 4) (h4 : ll.length ≤ 4) (hR : ∀ p, p < 4 → zRul x1 p (nr p)) (hJ : ∀ p, p < 4 → ∃ k, k < 8 ∧ (sJd (xRu x1 p) (sLf x1 n) (-1) (nr p) 0 zJ0).2.1 = nI k) (hf : ∃ a, a < 10 ∧ x1 30 0 n = nI a) (h5 : x0 5 0 1 = nI ll.length) (h6 : ∀ i, i < ll.length → x0 6 0 i = nI (ll.getD i 0)) (hv : va ≤ 7 ∧ vu ≤ 42) : ∀ (k j : Nat) (X : zSt), j + k = ll.length → aH X x0 → (zwp zm_50 (110, [some (.ref 2), some (.int f), some (.int to), some (.int s), some (.int w'), some (.int z), some (.int a), some (.int (nI n)), some (.int (nI j))], [], zmem X y E, va, vu) Q ↔ Q (.inl (some (.int (nI n)))) (zmem ((ll.drop j).foldl (fun X p => sArr X p n (n + 1) (sJd (xRu x1 p) (sLf x1 n) (-1) (nr p) 0 zJ0)) X) y E)) := by
  have e0 : ∀ p m, sJd (xRu x0 p) (sLf x0 n) (-1) m 0 zJ0 = sJd (xRu x1 p) (sLf x1 n) (-1) m 0 zJ0 := fun p m => by
    rcases h01 with h | h
    · exact aH_J h p n m
    · rw [zEq_xRu h, zEq_sLf h]
  have e1 : ∀ p m, zRul x1 p m → zRul x0 p m := fun p m hz => by
    rcases h01 with h | h
    · exact aH_zRul h hz
    · exact zEq_zRul h hz
  have e2 : x0 30 = x1 30 := by
    rcases h01 with h | h
    · exact h.1 30 (by omega)
    · exact h 30 (by omega)
  intro k
  induction k with
  | zero =>
    intro j X hj hX
    have : j = ll.length := by omega
    subst this
    have g5 : X 5 0 1 = nI ll.length := by rw [hX.1 5 (by omega)]; exact h5
    rw [p50_110]
    simp (disch := omega) only [p50_0, p50_2, p50_3, p50_6, p50_7, p50_9, p50_12, p50_15, p50_25, p50_26, p50_29, p50_30, p50_31, p50_33, p50_35, p50_38, p50_39, p50_42, p50_44, p50_47, p50_57, p50_58, p50_61, p50_63, p50_64, p50_67, p50_69, p50_70, p50_71, p50_72, p50_74, p50_76, p50_78, p50_79, p50_82, p50_85, p50_86, p50_86i, p50_87, p50_90, p50_91, p50_92, p50_95, p50_96, p50_97, p50_98, p50_101, p50_103, p50_104, p50_107, p50_108, p50_112, p50_113, p50_116, p50_119, p50_122, p50_123, p50_124, p50_127, p50_128, p50_131, p50_134, p50_136, p50_137, p50_138, p50_140, p50_143, p50_146, p50_149, p50_151, g5, nI_ltI, Nat.lt_irrefl, hv.1, hv.2, l_dm_ok, l_dm_0, l_dm_1, l_dm_2, l_dm_2p, l_dm_3, l_dm_4, l_dm_4p, l_dm_5, l_dm_6, l_dm_6p, l_dm_7, l_dm_7p, l_dm_8, l_dm_8p, l_dm_9, l_dm_9p, l_dm_10, l_dm_11, l_dm_12, l_dm_13, l_dm_14, l_ro_ok, l_ro_0, l_ro_1, l_ro_1p, l_ro_2, l_ro_2p, l_le_ok, l_le_0, l_le_0p, l_le_1, l_le_1p, l_le_2, l_le_2p, l_le_3, l_le_3p, l_le_4, l_le_4p, l_le_5, l_le_5p, l_bxa_ar, l_bxa_ln, l_bxa_ia, l_bxa_e, l_lea_ar, l_lea_ln, l_lea_ia, l_lea_e, l_qua_ar, l_qua_ln, l_qua_ia, l_qua_e, l_bo_ar, l_bo_ln, l_bo_ia, l_bo_is, l_bo_e, l_bo_ep, l_pe_ar, l_pe_ln, l_pe_ia, l_pe_is, l_pe_e, l_pe_ep, l_fc_ar, l_fc_ln, l_fc_ia, l_fc_is, l_fc_e, l_fc_ep, zvi_int, zvl_long, zvd_double, zvr_ref, zisI_int, zisR_ref, zgI_int, zgR_ref, zkl_int, zkl_ref, zkl_none, zkl_long, zkl_double, zct_nil, zct_int, zct_ref, zct_long, zct_double, zbk_some, zbk_none, zbk_exc, nI_clamp, nI_add, nI_mul, true_and, and_true, Nat.reduceAdd, Nat.reduceMul, Nat.reduceLeDiff, Nat.reducePow, ↓reduceIte, Nat.zero_add, Nat.add_zero, Nat.reduceLT, Nat.reduceEqDiff, Nat.le_refl, zn10, zn01, zfitB0, zfitB1, znarB0, znarB1, Nat.lt_irrefl, ↓zvi_eq, ↓zvr_eq]
    rw [List.drop_eq_nil_of_le (Nat.le_refl _)]
    rfl
  | succ k ih =>
    intro j X hj hX
    have h9 : j < ll.length := by omega
    have hm : ll.getD j 0 ∈ ll := by
      rw [List.getD_eq_getElem?_getD, List.getElem?_eq_getElem h9, Option.getD_some]
      exact List.getElem_mem h9
    have hp := hl _ hm
    have g5 : X 5 0 1 = nI ll.length := by rw [hX.1 5 (by omega)]; exact h5
    have g6 : X 6 0 j = nI (ll.getD j 0) := by rw [hX.1 6 (by omega)]; exact h6 j h9
    have h90 := fun (Q : zO → zM → Prop) => c90 (x := X) (y := y) (E := E) (Q := Q) (p := ll.getD j 0) (i := n) (n := n + 1) (m := nr (ll.getD j 0)) hp h60 (hX.2.trans hn) (by omega) (aH_zRul hX (e1 _ _ (hR _ hp))) (by rw [aH_J hX, e0]; exact hJ _ hp) (by rw [hX.1 30 (by omega), e2]; exact hf)
    rw [aH_J hX, e0] at h90
    have e3 : ll.drop j = ll.getD j 0 :: ll.drop (j + 1) := by
      rw [List.drop_eq_getElem_cons h9, List.getD_eq_getElem?_getD, List.getElem?_eq_getElem h9, Option.getD_some]
    rw [e3, List.foldl_cons, ← ih (j + 1) _ (by omega) (aH_trans (aH_arr X (ll.getD j 0) n (n + 1) _) hX), p50_110]
    have hj4 : j < 4 := by omega
    simp (disch := omega) only [p50_0, p50_2, p50_3, p50_6, p50_7, p50_9, p50_12, p50_15, p50_25, p50_26, p50_29, p50_30, p50_31, p50_33, p50_35, p50_38, p50_39, p50_42, p50_44, p50_47, p50_57, p50_58, p50_61, p50_63, p50_64, p50_67, p50_69, p50_70, p50_71, p50_72, p50_74, p50_76, p50_78, p50_79, p50_82, p50_85, p50_86, p50_86i, p50_87, p50_90, p50_91, p50_92, p50_95, p50_96, p50_97, p50_98, p50_101, p50_103, p50_104, p50_107, p50_108, p50_112, p50_113, p50_116, p50_119, p50_122, p50_123, p50_124, p50_127, p50_128, p50_131, p50_134, p50_136, p50_137, p50_138, p50_140, p50_143, p50_146, p50_149, p50_151, g5, g6, h90, nI_ltI, h9, hp, hj4, hv.1, hv.2, l_dm_ok, l_dm_0, l_dm_1, l_dm_2, l_dm_2p, l_dm_3, l_dm_4, l_dm_4p, l_dm_5, l_dm_6, l_dm_6p, l_dm_7, l_dm_7p, l_dm_8, l_dm_8p, l_dm_9, l_dm_9p, l_dm_10, l_dm_11, l_dm_12, l_dm_13, l_dm_14, l_ro_ok, l_ro_0, l_ro_1, l_ro_1p, l_ro_2, l_ro_2p, l_le_ok, l_le_0, l_le_0p, l_le_1, l_le_1p, l_le_2, l_le_2p, l_le_3, l_le_3p, l_le_4, l_le_4p, l_le_5, l_le_5p, l_bxa_ar, l_bxa_ln, l_bxa_ia, l_bxa_e, l_lea_ar, l_lea_ln, l_lea_ia, l_lea_e, l_qua_ar, l_qua_ln, l_qua_ia, l_qua_e, l_bo_ar, l_bo_ln, l_bo_ia, l_bo_is, l_bo_e, l_bo_ep, l_pe_ar, l_pe_ln, l_pe_ia, l_pe_is, l_pe_e, l_pe_ep, l_fc_ar, l_fc_ln, l_fc_ia, l_fc_is, l_fc_e, l_fc_ep, zvi_int, zvl_long, zvd_double, zvr_ref, zisI_int, zisR_ref, zgI_int, zgR_ref, zkl_int, zkl_ref, zkl_none, zkl_long, zkl_double, zct_nil, zct_int, zct_ref, zct_long, zct_double, zbk_some, zbk_none, zbk_exc, nI_clamp, nI_add, nI_mul, true_and, and_true, Nat.reduceAdd, Nat.reduceMul, Nat.reduceLeDiff, Nat.reducePow, ↓reduceIte, Nat.zero_add, Nat.add_zero, Nat.reduceLT, Nat.reduceEqDiff, Nat.le_refl, zn10, zn01, zfitB0, zfitB1, znarB0, znarB1, Nat.lt_irrefl, ↓zvi_eq, ↓zvr_eq]
end ZC
