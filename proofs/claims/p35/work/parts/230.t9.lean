/-! the clock set (source: wip/p35/src/230.t9.txt, by expand2.py) -/
def kV (n : Nat) (fc : Nat → Nat) (x : zSt) : Prop := x 0 0 2 = nI n ∧ ∀ p, p < 4 → zShs x p ∧ x 13 p 1 = nI (fc p)
theorem kV_va {n : Nat} {fc : Nat → Nat} {x : zSt} {p i : Nat} (h : kV n fc x) : kV n fc (sVa x p i) := by
  refine ⟨h.1, fun q hq => ⟨fun j hj => ?_, (h.2 q hq).2⟩⟩
  rw [sVa_eq]
  split
  · exact Or.inl rfl
  · exact (h.2 q hq).1 j hj
theorem kV_lay {n : Nat} {fc : Nat → Nat} {x : zSt} {p i k : Nat} (hk : k < 8) (h : kV n fc x) : kV n fc (sLay x p i k) := by
  refine ⟨h.1, fun q hq => ⟨fun j hj => ?_, (h.2 q hq).2⟩⟩
  rw [(sLay_c x p i k).1, u2_eq]
  split
  · exact Or.inr ⟨k, hk, rfl⟩
  · exact (h.2 q hq).1 j hj
theorem kV_clr {n : Nat} {fc : Nat → Nat} {h : zSt → Nat → Bool} {x : zSt} {p : Nat} (hv : kV n fc x) : ∀ k, kV n fc (sClr h p k x).1
  | 0 => hv
  | k + 1 => by
    have e : sClr h p (k + 1) x = if h (sClr h p k x).1 k = true then (sVa (sClr h p k x).1 p k, (sClr h p k x).2 + nI 1) else sClr h p k x := rfl
    rw [e]
    split
    · exact kV_va (kV_clr hv k)
    · exact kV_clr hv k
theorem kV_ags {n : Nat} {fc : Nat → Nat} {x : zSt} {p i : Nat} {now : Int32} (h : kV n fc x) : kV n fc (sAgS p now x i) := by
  unfold sAgS
  split
  · exact kV_lay (by omega) h
  · exact h
theorem kV_ab {n : Nat} {fc : Nat → Nat} {x : zSt} {p : Nat} (h : kV n fc x) : ∀ k, kV n fc (sAb p k x)
  | 0 => h
  | k + 1 => by
    show kV n fc (sWk (sAgS p (sAb p k x 0 0 6)) p (nI k) 60 (sAb p k x) (sNm (sAb p k x) p (nI k) (nI 0))).1
    exact sWk_inv (I := kV n fc) (fun x j _ hx => kV_ags hx) 60 _ _ (sNx_in _ _ _ _ _) (kV_ab h k)
def sCp (n : Nat) (fc : Nat → Nat) (p : Nat) (s : zSt × Int32) : zSt × Int32 := (sAb p (fc p) (sClr (fun x i => sLi x p i (x 0 0 6)) p n s.1).1, s.2 + (sClr (fun x i => sLi x p i (x 0 0 6)) p n s.1).2)
section ZC
variable {x y : zSt} {E : zEx} {Q : zO → zM → Prop}
theorem c51v {v : Int32} {n : Nat} {fc : Nat → Nat} (hv : kV n fc x) (h60 : n ≤ 60) (hc8 : ∀ p, p < 4 → fc p ≤ 8) (h1 : x 0 0 6 < v) (h2 : ¬ nI 9999 < v) : zcl 51 [.ref 2, .int v] (zmem x y E) Q ↔ Q (.inl (some (.int (zfo (sCp n fc) 4 (su x 0 (u2 (x 0) 0 6 v), nI 0)).2))) (zmem (zfo (sCp n fc) 4 (su x 0 (u2 (x 0) 0 6 v), nI 0)).1 y E) := by
  have hv' : kV n fc (su x 0 (u2 (x 0) 0 6 v)) := hv
  obtain ⟨hV, hl⟩ := zforI (n := 4) (f := sCp n fc) (P := fun p (s : zSt × Int32) => zwp zm_51 (14, [some (.ref 2), some (.int v), some (.int s.2), some (.int (nI p))], [], zmem s.1 y E, 1, 6) Q) (V := fun p s => kV n fc s.1) (fun p s hp hs => by
    have hs1 := kV_clr (h := fun x i => sLi x p i (x 0 0 6)) (p := p) hs n
    refine ⟨kV_ab hs1 (fc p), ?_⟩
    have h97 := fun (Q : zO → zM → Prop) => c97 (x := s.1) (y := y) (E := E) (Q := Q) (p := p) hp hs.1 h60
    have h98 := fun (Q : zO → zM → Prop) => c98 (x := (sClr (fun x i => sLi x p i (x 0 0 6)) p n s.1).1) (y := y) (E := E) (Q := Q) (p := p) hp (hs1.2 p hp).1 (hs1.2 p hp).2 (hc8 p hp)
    rw [p51_14]
    simp (disch := omega) only [p51_0, p51_1, p51_2, p51_5, p51_6, p51_7, p51_10, p51_11, p51_12, p51_13, p51_15, p51_16, p51_19, p51_20, p51_23, p51_24, p51_25, p51_26, p51_29, p51_30, p51_31, p51_34, p51_35, p51_36, p51_37, p51_38, p51_41, p51_42, p51_43, p51_46, p51_49, p51_52, p51_53, h97, h98, nI_ltI, hp, l_dm_ok, l_dm_0, l_dm_1, l_dm_2, l_dm_2p, l_dm_3, l_dm_4, l_dm_4p, l_dm_5, l_dm_6, l_dm_6p, l_dm_7, l_dm_7p, l_dm_8, l_dm_8p, l_dm_9, l_dm_9p, l_dm_10, l_dm_11, l_dm_12, l_dm_13, l_dm_14, l_bxa_ar, l_bxa_ln, l_bxa_ia, l_bxa_e, l_lea_ar, l_lea_ln, l_lea_ia, l_lea_e, l_qua_ar, l_qua_ln, l_qua_ia, l_qua_e, l_bo_ar, l_bo_ln, l_bo_ia, l_bo_is, l_bo_e, l_bo_ep, l_fc_ar, l_fc_ln, l_fc_ia, l_fc_is, l_fc_e, l_fc_ep, zvi_int, zvl_long, zvd_double, zvr_ref, zisI_int, zisR_ref, zgI_int, zgR_ref, zkl_int, zkl_ref, zkl_none, zkl_long, zkl_double, zct_nil, zct_int, zct_ref, zct_long, zct_double, zbk_some, zbk_none, zbk_exc, nI_clamp, nI_add, nI_mul, true_and, and_true, Nat.reduceAdd, Nat.reduceMul, Nat.reduceLeDiff, Nat.reducePow, ↓reduceIte, Nat.zero_add, Nat.add_zero, Nat.reduceLT, Nat.reduceEqDiff, Nat.le_refl, zn10, zn01, zfitB0, zfitB1, znarB0, znarB1, Nat.lt_irrefl, ↓zvi_eq, ↓zvr_eq]
    rfl) (su x 0 (u2 (x 0) 0 6 v), nI 0) hv' 4 (Nat.le_refl 4)
  have h2' : ¬ nI 9999 < v := h2
  rw [e51]
  simp (disch := omega) only [p51_0, p51_1, p51_2, p51_5, p51_6, p51_7, p51_10, p51_11, p51_12, p51_13, p51_15, p51_16, p51_19, p51_20, p51_23, p51_24, p51_25, p51_26, p51_29, p51_30, p51_31, p51_34, p51_35, p51_36, p51_37, p51_38, p51_41, p51_42, p51_43, p51_46, p51_49, p51_52, p51_53, e79, p79_0, p79_1, p79_2, p79_5, p79_8, p79_9, p79_12, p79_15, p79_26, h1, h2, l_dm_ok, l_dm_0, l_dm_1, l_dm_2, l_dm_2p, l_dm_3, l_dm_4, l_dm_4p, l_dm_5, l_dm_6, l_dm_6p, l_dm_7, l_dm_7p, l_dm_8, l_dm_8p, l_dm_9, l_dm_9p, l_dm_10, l_dm_11, l_dm_12, l_dm_13, l_dm_14, l_bxa_ar, l_bxa_ln, l_bxa_ia, l_bxa_e, l_lea_ar, l_lea_ln, l_lea_ia, l_lea_e, l_qua_ar, l_qua_ln, l_qua_ia, l_qua_e, l_bo_ar, l_bo_ln, l_bo_ia, l_bo_is, l_bo_e, l_bo_ep, l_fc_ar, l_fc_ln, l_fc_ia, l_fc_is, l_fc_e, l_fc_ep, zvi_int, zvl_long, zvd_double, zvr_ref, zisI_int, zisR_ref, zgI_int, zgR_ref, zkl_int, zkl_ref, zkl_none, zkl_long, zkl_double, zct_nil, zct_int, zct_ref, zct_long, zct_double, zbk_some, zbk_none, zbk_exc, nI_clamp, nI_add, nI_mul, true_and, and_true, Nat.reduceAdd, Nat.reduceMul, Nat.reduceLeDiff, Nat.reducePow, ↓reduceIte, Nat.zero_add, Nat.add_zero, Nat.reduceLT, Nat.reduceEqDiff, Nat.le_refl, zn10, zn01, zfitB0, zfitB1, znarB0, znarB1, Nat.lt_irrefl, ↓zvi_eq, ↓zvr_eq]
  refine hl.trans ?_
  rw [p51_14]
  simp (disch := omega) only [p51_0, p51_1, p51_2, p51_5, p51_6, p51_7, p51_10, p51_11, p51_12, p51_13, p51_15, p51_16, p51_19, p51_20, p51_23, p51_24, p51_25, p51_26, p51_29, p51_30, p51_31, p51_34, p51_35, p51_36, p51_37, p51_38, p51_41, p51_42, p51_43, p51_46, p51_49, p51_52, p51_53, nI_ltI, l_dm_ok, l_dm_0, l_dm_1, l_dm_2, l_dm_2p, l_dm_3, l_dm_4, l_dm_4p, l_dm_5, l_dm_6, l_dm_6p, l_dm_7, l_dm_7p, l_dm_8, l_dm_8p, l_dm_9, l_dm_9p, l_dm_10, l_dm_11, l_dm_12, l_dm_13, l_dm_14, l_bxa_ar, l_bxa_ln, l_bxa_ia, l_bxa_e, l_lea_ar, l_lea_ln, l_lea_ia, l_lea_e, l_qua_ar, l_qua_ln, l_qua_ia, l_qua_e, l_bo_ar, l_bo_ln, l_bo_ia, l_bo_is, l_bo_e, l_bo_ep, l_fc_ar, l_fc_ln, l_fc_ia, l_fc_is, l_fc_e, l_fc_ep, zvi_int, zvl_long, zvd_double, zvr_ref, zisI_int, zisR_ref, zgI_int, zgR_ref, zkl_int, zkl_ref, zkl_none, zkl_long, zkl_double, zct_nil, zct_int, zct_ref, zct_long, zct_double, zbk_some, zbk_none, zbk_exc, nI_clamp, nI_add, nI_mul, true_and, and_true, Nat.reduceAdd, Nat.reduceMul, Nat.reduceLeDiff, Nat.reducePow, ↓reduceIte, Nat.zero_add, Nat.add_zero, Nat.reduceLT, Nat.reduceEqDiff, Nat.le_refl, zn10, zn01, zfitB0, zfitB1, znarB0, znarB1, Nat.lt_irrefl, ↓zvi_eq, ↓zvr_eq]
end ZC
def mAgS (p : Nat) (now : Int32) (y : zSt) (i : Nat) : zSt := if mAg y p i now = true then sLay y p i 1 else y
def mAb (p : Nat) (now : Int32) (n : Nat) (y : zSt) : zSt := zfo (fun f (y : zSt) => if f = 1 then y else (sWk (mAgS p now) p (nI f) 60 y (sNm y p (nI f) (nI 0))).1) n y
def mCp (n : Nat) (fc : Nat → Nat) (now : Int32) (p : Nat) (s : zSt × Int32) : zSt × Int32 := (mAb p now (fc p) (sClr (fun y i => mLi y p i now) p n s.1).1, s.2 + (sClr (fun y i => mLi y p i now) p n s.1).2)
def zWk (y : zSt) (p n : Nat) (ck : Int32) : Prop := zWn y p n ∧ zShs y p ∧ y 0 0 6 = ck
theorem zWk_lay {y : zSt} {p n i k : Nat} {ck : Int32} (h : zWk y p n ck) (hi : i < n) (hk : k < 8) : zWk (sLay y p i k) p n ck := ⟨zW_lay h.1 hi, zShs_lay h.2.1 hk, h.2.2⟩
section ZC
variable {x : zSt} {E : zEx}
theorem mAb_W {p n : Nat} {ck : Int32} (hn60 : n ≤ 60) {y : zSt} (h : zWk y p n ck) : ∀ k, k ≤ 8 → zWk (mAb p ck k y) p n ck
  | 0, _ => h
  | k + 1, hk => by
    have ih := mAb_W hn60 h k (by omega)
    show zWk (if k = 1 then mAb p ck k y else (sWk (mAgS p ck) p (nI k) 60 (mAb p ck k y) (sNm (mAb p ck k y) p (nI k) (nI 0))).1) p n ck
    split
    · exact ih
    · have key : ∀ (t : Nat) (y : zSt) (v : Int32), zWk y p n ck → zWk (sWk (mAgS p ck) p (nI k) t y (sNm y p (nI k) v)).1 p n ck := by
        intro t
        induction t with
        | zero => intro y v h; exact h
        | succ t iht =>
          intro y v h
          rcases sNx_spec (y 25 p) (y 26 p) (nI k) v 60 (Nat.le_refl 60) with ⟨e, -⟩ | ⟨j, hj, e, a1, a2, a3⟩
          · rw [show sNm y p (nI k) v = -1 from e]
            unfold sWk
            rw [if_pos rfl]
            exact h
          · have hjn : j < n := by
              by_cases hjn : j < n
              · exact hjn
              · rw [h.1.2 j (by omega) hj] at a1
                exact absurd a1.symm (nI_m1 (by omega))
            rw [show sNm y p (nI k) v = nI j from e, sWk_st hj]
            refine iht _ _ ?_
            unfold mAgS
            split
            · exact zWk_lay h hjn (by omega)
            · exact h
      exact key 60 _ (nI 0) ih
end ZC
