/-! a message comes to a person, done (source: wip/p35/src/275.co.txt, by expand3.py) -/
/-- the store behind an arrival -/
def cKp (y : zSt) (p m : Nat) (J : zJ) : zSt :=
  if J.1 = nI 0 then (if y 13 p 5 < sSz (y 25 p) (y 33 0) m + y 33 0 m then su (su y 24 (u2 (y 24) p m (nI 1))) 1 (u2 (y 1) 0 (y 30 0 m).toNatClampNeg (y 1 0 (y 30 0 m).toNatClampNeg + nI 1))
    else sLay (su (su y 24 (u2 (y 24) p m (nI 1))) 27 (u2 (y 27) p m J.2.2.1)) p m J.2.1.toNatClampNeg)
  else su y 24 (u2 (y 24) p m (nI 1))
section ZB
variable {E : zEx} {x y : zSt} {G : pG} {bl : Nat → Nat → List Nat} {fc nr : Nat → Nat} {n L p : Nat} {xs : Nat → Int32}
/-- a new copy in a list -/
theorem BL.add (hB : BL bl n y) (hp : p < 4) {m f : Nat} (hf : f < 8) (hm : m < n) (h25 : y 25 p m = -1) (hnum : ∀ i, i ∈ bl p f → y 26 p i < y 16 p f) : BL (bU bl p f (bl p f ++ [m])) n (sLay y p m f) := by
  have hno : ∀ g, g < 8 → ¬ m ∈ bl p g := fun g hg z => by
    have := ((hB p g hp hg).1 m).mp z
    rw [h25] at this
    exact absurd this.2.symm (nI_m1 (by omega))
  intro q g hq hg
  by_cases e1 : q = p ∧ g = f
  · obtain ⟨rfl, rfl⟩ := e1
    rw [bU_n]
    have hnm := hno g hg
    refine ⟨fun i => ?_, ?_⟩
    · rw [List.mem_append, (hB q g hq hg).1 i, sL_25, List.mem_singleton]
      by_cases e : i = m
      · subst e
        rw [if_pos ⟨rfl, rfl⟩]
        exact ⟨fun _ => ⟨hm, rfl⟩, fun _ => Or.inr rfl⟩
      · rw [if_neg (fun z => e z.2)]
        exact ⟨fun h => h.resolve_right e, Or.inl⟩
    · rw [List.pairwise_append]
      refine ⟨(hB q g hq hg).2.imp_of_mem (fun {a b} ha hb h => ?_), List.pairwise_singleton _ _, fun a ha c hc => ?_⟩
      · rw [sL_26, sL_26, if_neg (fun (z : q = q ∧ a = m) => hnm (z.2 ▸ ha)), if_neg (fun (z : q = q ∧ b = m) => hnm (z.2 ▸ hb))]
        exact h
      · rw [List.mem_singleton] at hc
        subst hc
        rw [sL_26, if_neg (fun (z : q = q ∧ a = c) => hnm (z.2 ▸ ha)), sL_26, if_pos ⟨rfl, rfl⟩]
        exact hnum a ha
  · rw [bU_o e1]
    refine ⟨fun i => ?_, (hB q g hq hg).2.imp_of_mem (fun {a b} ha hb h => ?_)⟩
    · rw [(hB q g hq hg).1 i, sL_25]
      by_cases e : q = p ∧ i = m
      · rw [if_pos e]
        obtain ⟨rfl, rfl⟩ := e
        rw [h25]
        exact ⟨fun h => absurd h.2.symm (nI_m1 (by omega)), fun h => absurd ⟨rfl, ((nI_eq (by omega) (by omega)).mp h.2).symm⟩ e1⟩
      · rw [if_neg e]
    · have hnm : ∀ a, a ∈ bl q g → ¬ (q = p ∧ a = m) := fun a ha z => by
        obtain ⟨rfl, rfl⟩ := z
        exact hno g hg ha
      rw [sL_26, sL_26, if_neg (hnm a ha), if_neg (hnm b hb)]
      exact h
theorem c133_got {m : Nat} (hp : p < 4) (hm : m < 60) (h : y 24 p m = nI 1) : ∀ (x : zSt) (d : Nat) (Q : zO → zM → Prop), zcl 133 [.ref 1, .int (nI p), .int (nI m)] (zmem x (yD y d) E) Q ↔ Q (.inl none) (zmem x (yD y d) E) := by
  intro x d Q
  have n10 : (nI 1 = nI 0) = False := eq_false (by decide)
  rw [e133]
  simp (disch := omega) only [p133_0, p133_1, p133_4, p133_5, p133_6, p133_7, p133_8, p133_11, p133_12, p133_13, p133_16, p133_17, p133_18, p133_19, p133_20, p133_21, p133_22, p133_25, p133_26, p133_27, p133_28, p133_29, p133_30, p133_31, p133_32, p133_35, p133_37, p133_38, p133_39, p133_41, p133_44, p133_46, p133_47, p133_48, p133_51, p133_52, p133_53, p133_56, p133_57, p133_58, p133_59, p133_60, p133_61, p133_64, p133_65, p133_66, p133_69, p133_70, p133_73, p133_74, p133_75, p133_76, p133_77, p133_78, p133_79, p133_80, p133_81, p133_84, p133_85, p133_86, p133_87, p133_89, p133_90, p133_91, p133_93, p133_94, p133_95, p133_98, p133_99, p133_101, p133_102, p133_103, p133_104, p133_106, p133_109, p133_111, p133_112, p133_113, p133_116, p133_117, p133_118, p133_121, p133_122, p133_125, yD_rd, h, n10, l_po_ok, l_po_0, l_po_1, l_po_2, l_po_2p, l_po_3, l_po_3p, l_po_4, l_po_4p, l_po_5, l_po_5p, l_po_6, l_po_6p, l_po_7, l_po_8, l_po_9, l_po_10, l_po_11, l_po_12, l_po_13, l_po_13p, l_po_14, l_po_15, l_po_16, l_po_17, l_po_17p, l_pa_ar, l_pa_ln, l_pa_ia, l_pa_e, l_pa_ep, l_pa_e3, l_aga_ar, l_aga_ln, l_aga_ia, l_aga_e, l_ag_ar, l_ag_ln, l_ag_ia, l_ag_is, l_ag_e, l_ag_ep, l_nxa_ar, l_nxa_ln, l_nxa_ia, l_nxa_e, l_nx_ar, l_nx_ln, l_nx_ia, l_nx_is, l_nx_e, l_nx_ep, l_qt_ar, l_qt_ln, l_qt_ia, l_qt_is, l_qt_e, l_qt_ep, l_bn_ar, l_bn_ln, l_bn_ia, l_bn_is, l_bn_e, l_bn_ep, l_rl_ar, l_rl_ln, l_rl_ia, l_rl_e, l_rl_ep, l_rl_e3, l_bxo_ar, l_bxo_ln, l_bxo_ia, l_bxo_e, l_bxi_ar, l_bxi_ln, l_bxi_ia, l_bxi_e, l_bxi_ep, l_bxi_e3, l_gta_ar, l_gta_ln, l_gta_ia, l_gta_e, l_gt_ar, l_gt_ln, l_gt_ia, l_gt_e, l_gt_ep, zvi_int, zvl_long, zvd_double, zvr_ref, zisI_int, zisR_ref, zgI_int, zgR_ref, zkl_int, zkl_ref, zkl_none, zkl_long, zkl_double, zct_nil, zct_int, zct_ref, zct_long, zct_double, zbk_some, zbk_none, zbk_exc, nI_clamp, nI_add, nI_mul, true_and, and_true, Nat.reduceAdd, Nat.reduceMul, Nat.reduceLeDiff, Nat.reducePow, ↓reduceIte, Nat.zero_add, Nat.add_zero, Nat.reduceLT, Nat.reduceEqDiff, Nat.le_refl, zn10, zn01, zfitB0, zfitB1, znarB0, znarB1, Nat.lt_irrefl, ↓zvi_eq, ↓zvr_eq]
theorem c133 {m a : Nat} {J : zJ} (hP : PS E y G bl fc nr n L xs) (hB : BL bl n y) (hpx : (∀ p r, p < 4 → r < nr p → (∃ k, k < 5 ∧ y 18 p r = nI k) ∧ (y 18 p r = nI 2 → ∃ a, a < 8 ∧ y 19 p r = nI a)) ∧ (∀ i, i < n → ∃ w, w < 256 ∧ y 32 0 i = nI w)) (hp : p < 4) (h21 : ∀ r, r < nr p → ∃ k, k < 5 ∧ y 21 p r = nI k) (hmn : m + 1 = n) (hn : n < 26) (h34 : y 34 0 m = -1 ∨ ∃ k, k < 100 ∧ y 34 0 m = nI k) (ha : a < 10) (h30 : y 30 0 m = nI a) (h24 : y 24 p m = nI 0) (h25 : y 25 p m = -1) (hK : ∀ i, i < n → y 25 p i = -1 ∨ ∃ f, f < 8 ∧ y 25 p i = nI f) (eJ : J = yJ y m nr p) (hJ : jOK 8 J) (hJ6 : J.2.2.2.length ≤ 6) (hnum : ∀ f, f < 8 → ∀ i, i ∈ bl p f → y 26 p i < y 16 p f) : ∃ E' G' bl', PS E' (cKp y p m J) G' bl' fc nr n L xs ∧ BL bl' n (cKp y p m J) ∧ vI E' (E'.2.2.2 5 0 0) J.2.2.2.length (fun j => J.2.2.2.getD j 0) ∧ (∀ b N g, vI E b N g → vI E' b N g ∧ G'.1 b = G.1 b) ∧ ∀ (x : zSt) (d : Nat) (Q : zO → zM → Prop), zcl 133 [.ref 1, .int (nI p), .int (nI m)] (zmem x (yD y d) E) Q ↔ Q (.inl none) (zmem x (yD (cKp y p m J) d) E') := by
  obtain ⟨y1, hy1⟩ : ∃ y1, y1 = su y 24 (u2 (y 24) p m (nI 1)) := ⟨_, rfl⟩
  have hP1 : PS E y1 G bl fc nr n L xs := hP.mY (fun c _ _ _ _ _ _ h24 _ => by rw [hy1]; exact if_neg h24)
  have eJ1 : yJ y1 m nr p = J := by rw [hy1, eJ]; exact yH_yJ ⟨fun c hc => if_neg (by omega), rfl⟩ m nr p
  obtain ⟨E1, a1, k1, v1, w1⟩ := c127 (y := y1) hP1 (by rw [hy1]; exact hpx) hp (by rw [hy1]; exact h21) (show m < n by omega) (by rw [hy1]; exact h34)
  rw [eJ1] at v1
  obtain ⟨hs, hst, hn25, hsr⟩ := hP.2.2.2.1
  have sia := fun x y => hs.ia (x := x) (y := y) (j := m) (by omega)
  have srd := fun x y => hs.rd (x := x) (y := y) (j := m) (show m < n by omega)
  obtain ⟨E2, k2, n2, v2, w2⟩ := nwI E1 0
  have K2 := k1.trans k2
  have hP2 := ((hP1.mL k1).mW (a := 476 + E1.1 + 1) (v := 0) (by omega)).mL k2
  have hP3 := hP2.lat v2 (by omega) tU_n
  have va := (k2.I v1).refs (c := 5) (p := 0) (i := 0) (v := 476 + E1.1 + 1)
  have KK : ∀ b N g, vI E b N g → vI (eR E2 5 0 0 (476 + E1.1 + 1)) b N g := fun b N g h => K2.I h
  have KT : ∀ b N g, vI E b N g → tU G.1 (476 + E1.1 + 1) 0 b = G.1 b := fun b N g h => tU_o (by have := h.1.2.1; have := k1.1; omega)
  have vis := fun x y => va.is (x := x) (y := y) (j := 0) (by omega)
  have vi1 := fun x y => va.is (x := x) (y := y) (j := 1) (by omega)
  have vr0 : ∀ X Y, zrd (zmem X Y (eR E2 5 0 0 (476 + E1.1 + 1))) a1 0 = .int (if J.1 = nI 0 then J.2.1 else -1) := fun X Y => va.rd (x := X) (y := Y) (j := 0) (by omega)
  have vr1 : ∀ X Y, zrd (zmem X Y (eR E2 5 0 0 (476 + E1.1 + 1))) a1 1 = .int J.2.2.1 := fun X Y => va.rd (x := X) (y := Y) (j := 1) (by omega)
  have vc := (K2.I (hsr m (by omega)).1).refs (c := 5) (p := 0) (i := 0) (v := 476 + E1.1 + 1)
  have ci4 := fun x y => vc.is (x := x) (y := y) (j := 4) (by omega)
  have ci0 := fun x y => vc.is (x := x) (y := y) (j := 0) (by omega)
  have cr4 : ∀ X Y, zrd (zmem X Y (eR E2 5 0 0 (476 + E1.1 + 1))) (G.2.2.1 m) 4 = .int (y 33 0 m) := fun X Y => vc.rd (x := X) (y := Y) (j := 4) (by omega)
  have cr0 : ∀ X Y, zrd (zmem X Y (eR E2 5 0 0 (476 + E1.1 + 1))) (G.2.2.1 m) 0 = .int (nI a) := fun X Y => (vc.rd (x := X) (y := Y) (j := 0) (by omega)).trans (congrArg Value.int h30)
  have p0 : (0 : Int32) ≤ nI 0 := by decide
  have hm1 : ((-1 : Int32) < nI 0) = True := eq_true (by decide)
  have w1' : ∀ (x : zSt) (d : Nat) (Q : zO → zM → Prop), zcl 127 [.ref 1, .int (nI p), .ref (G.2.2.1 m), .int (-1)] (zmem x (yD (su y 24 (u2 (y 24) p m (nI 1))) d) E) Q ↔ Q (.inl (some (.ref a1))) (zmem x (yD (su y 24 (u2 (y 24) p m (nI 1))) d) E1) := fun x d Q => w1 x _ Q
  rcases hJ.1 with e1 | e1
  · obtain ⟨f, hf, ef⟩ := hJ.2.1
    rw [e1, if_pos rfl, ef] at vr0
    have hf0 : (nI f < nI 0) = False := eq_false (nI_nlt (Nat.zero_le _) (by omega))
    have hB1 : BL bl n y1 := by rw [hy1]; exact hB
    have q128 := c128 hP3 hB1 hn hp
    have hsum := hB.sum hp hK (y 33 0)
    have esz : sSz (y 25 p) (y 33 0) n = sSz (y 25 p) (y 33 0) m := by
      rw [← hmn]
      unfold sSz
      show (if y 25 p m = -1 then _ else _) = _
      rw [if_pos h25]
    have e33 : ∀ i, y1 33 0 i = y 33 0 i := fun i => by rw [hy1]; rfl
    simp only [e33] at q128
    rw [hsum, esz] at q128
    by_cases hq : y 13 p 5 < sSz (y 25 p) (y 33 0) m + y 33 0 m
    · have ey : cKp y p m J = su (su y 24 (u2 (y 24) p m (nI 1))) 1 (u2 (y 1) 0 a (y 1 0 a + nI 1)) := by
        unfold cKp
        rw [if_pos e1, if_pos hq, h30, nI_clamp (by omega)]
      have hP4 : PS (eR E2 5 0 0 (476 + E1.1 + 1)) (cKp y p m J) _ bl fc nr n L xs := hP3.mY (y' := cKp y p m J) (fun c _ h1 _ _ _ _ _ _ => by rw [ey, hy1]; exact if_neg h1)
      obtain ⟨E5, G5, hP5, v5, k5, w5⟩ := cm_fin (p := p) (m := m) (c := G.2.2.1 m) hP4 va hJ6
      refine ⟨E5, G5, bl, hP5, BL_eq (by rw [ey]; rfl) (by rw [ey]; rfl) hB, v5.cg (fun j hj => ?_), fun b N g h => ⟨(k5 _ _ _ (KK _ _ _ h)).1, (k5 _ _ _ (KK _ _ _ h)).2.trans (KT _ _ _ h)⟩, fun x d Q => ?_⟩
      · show _ = tlR J (j + 2)
        unfold tlR
        rw [if_neg (by omega), if_neg (by omega), Nat.add_sub_cancel]
      · rw [← w5 x d Q 9 29 (by omega) (by omega), ey, e133]
        simp (disch := omega) only [p133_0, p133_1, p133_4, p133_5, p133_6, p133_7, p133_8, p133_11, p133_12, p133_13, p133_16, p133_17, p133_18, p133_19, p133_20, p133_21, p133_22, p133_25, p133_26, p133_27, p133_28, p133_29, p133_30, p133_31, p133_32, p133_35, p133_37, p133_38, p133_39, p133_41, p133_44, p133_46, p133_47, p133_48, p133_51, p133_52, p133_53, p133_56, p133_57, p133_58, p133_59, p133_60, p133_61, p133_64, p133_65, p133_66, p133_69, p133_70, p133_73, p133_74, p133_75, p133_76, p133_77, p133_78, p133_79, p133_80, p133_81, p133_84, p133_85, p133_86, p133_87, p133_89, p133_90, p133_91, p133_93, p133_94, p133_95, p133_99, p133_101, p133_102, p133_103, p133_104, p133_106, p133_109, p133_111, p133_112, p133_113, p133_116, p133_117, p133_118, p133_121, p133_122, p133_125, yD_rd, yD_su, su_get, u2_get, su_eq, h24, sia, srd, w1', k1.2.1, w2, zmem_c, p0, vis, vr0, hf0, q128, ci4, cr4, hq, ci0, cr0, zbst1, l_po_ok, l_po_0, l_po_1, l_po_2, l_po_2p, l_po_3, l_po_3p, l_po_4, l_po_4p, l_po_5, l_po_5p, l_po_6, l_po_6p, l_po_7, l_po_8, l_po_9, l_po_10, l_po_11, l_po_12, l_po_13, l_po_13p, l_po_14, l_po_15, l_po_16, l_po_17, l_po_17p, l_pa_ar, l_pa_ln, l_pa_ia, l_pa_e, l_pa_ep, l_pa_e3, l_aga_ar, l_aga_ln, l_aga_ia, l_aga_e, l_ag_ar, l_ag_ln, l_ag_ia, l_ag_is, l_ag_e, l_ag_ep, l_nxa_ar, l_nxa_ln, l_nxa_ia, l_nxa_e, l_nx_ar, l_nx_ln, l_nx_ia, l_nx_is, l_nx_e, l_nx_ep, l_qt_ar, l_qt_ln, l_qt_ia, l_qt_is, l_qt_e, l_qt_ep, l_bn_ar, l_bn_ln, l_bn_ia, l_bn_is, l_bn_e, l_bn_ep, l_rl_ar, l_rl_ln, l_rl_ia, l_rl_e, l_rl_ep, l_rl_e3, l_bxo_ar, l_bxo_ln, l_bxo_ia, l_bxo_e, l_bxi_ar, l_bxi_ln, l_bxi_ia, l_bxi_e, l_bxi_ep, l_bxi_e3, l_gta_ar, l_gta_ln, l_gta_ia, l_gta_e, l_gt_ar, l_gt_ln, l_gt_ia, l_gt_e, l_gt_ep, zvi_int, zvl_long, zvd_double, zvr_ref, zisI_int, zisR_ref, zgI_int, zgR_ref, zkl_int, zkl_ref, zkl_none, zkl_long, zkl_double, zct_nil, zct_int, zct_ref, zct_long, zct_double, zbk_some, zbk_none, zbk_exc, nI_clamp, nI_add, nI_mul, true_and, and_true, Nat.reduceAdd, Nat.reduceMul, Nat.reduceLeDiff, Nat.reducePow, ↓reduceIte, Nat.zero_add, Nat.add_zero, Nat.reduceLT, Nat.reduceEqDiff, Nat.le_refl, zn10, zn01, zfitB0, zfitB1, znarB0, znarB1, Nat.lt_irrefl, ↓zvi_eq, ↓zvr_eq]
    · have ey : cKp y p m J = sLay (su (su y 24 (u2 (y 24) p m (nI 1))) 27 (u2 (y 27) p m J.2.2.1)) p m f := by
        unfold cKp
        rw [if_pos e1, if_neg hq, ef, nI_clamp (by omega)]
      have hno : ∀ g, g < 8 → ¬ m ∈ bl p g := fun g hg z => by
        have := ((hB p g hp hg).1 m).mp z
        rw [h25] at this
        exact absurd this.2.symm (nI_m1 (by omega))
      have hB' : BL (bU bl p f (bl p f ++ [m])) n (cKp y p m J) := by
        rw [ey]
        have hB2 : BL bl n (su y1 27 (u2 (y 27) p m J.2.2.1)) := by rw [hy1]; exact hB
        rw [← hy1]
        exact hB2.add hp hf (by omega) (by rw [hy1]; exact h25) (by rw [hy1]; exact hnum f hf)
      have hl' := hB'.len hp hf
      rw [bU_n, List.length_append] at hl'
      have hl2 : (bl p f).length < 25 := by
        have : ([m] : List Nat).length = 1 := rfl
        omega
      obtain ⟨E4, G4, hP4, k4, w4⟩ := c131 (m := m) (f := f) (mk := J.2.2.1) hP3 hp hf (by omega) hl2 hno
      have e27 : y1 27 = y 27 := by rw [hy1]; rfl
      rw [e27, hy1] at hP4 w4
      rw [← ey] at hP4 w4
      obtain ⟨E5, G5, hP5, v5, k5, w5⟩ := cm_fin (p := p) (m := m) (c := G.2.2.1 m) hP4 (k4 _ _ _ va).1 hJ6
      refine ⟨E5, G5, _, hP5, hB', v5.cg (fun j hj => ?_), fun b N g h => ⟨(k5 _ _ _ (k4 _ _ _ (KK _ _ _ h)).1).1, ((k5 _ _ _ (k4 _ _ _ (KK _ _ _ h)).1).2.trans (k4 _ _ _ (KK _ _ _ h)).2).trans (KT _ _ _ h)⟩, fun x d Q => ?_⟩
      · show _ = tlR J (j + 2)
        unfold tlR
        rw [if_neg (by omega), if_neg (by omega), Nat.add_sub_cancel]
      · rw [← w5 x d Q 11 60 (by omega) (by omega), e133]
        simp (disch := omega) only [p133_0, p133_1, p133_4, p133_5, p133_6, p133_7, p133_8, p133_11, p133_12, p133_13, p133_16, p133_17, p133_18, p133_19, p133_20, p133_21, p133_22, p133_25, p133_26, p133_27, p133_28, p133_29, p133_30, p133_31, p133_32, p133_35, p133_37, p133_38, p133_39, p133_41, p133_44, p133_46, p133_47, p133_48, p133_51, p133_52, p133_53, p133_56, p133_57, p133_58, p133_59, p133_60, p133_61, p133_64, p133_65, p133_66, p133_69, p133_70, p133_73, p133_74, p133_75, p133_76, p133_77, p133_78, p133_79, p133_80, p133_81, p133_84, p133_85, p133_86, p133_87, p133_89, p133_90, p133_91, p133_93, p133_94, p133_95, p133_99, p133_101, p133_102, p133_103, p133_104, p133_106, p133_109, p133_111, p133_112, p133_113, p133_116, p133_117, p133_118, p133_121, p133_122, p133_125, yD_rd, yD_su, su_get, u2_get, su_eq, h24, sia, srd, w1', k1.2.1, w2, zmem_c, p0, vis, vr0, hf0, q128, ci4, cr4, hq, vi1, vr1, zbst1, w4, l_po_ok, l_po_0, l_po_1, l_po_2, l_po_2p, l_po_3, l_po_3p, l_po_4, l_po_4p, l_po_5, l_po_5p, l_po_6, l_po_6p, l_po_7, l_po_8, l_po_9, l_po_10, l_po_11, l_po_12, l_po_13, l_po_13p, l_po_14, l_po_15, l_po_16, l_po_17, l_po_17p, l_pa_ar, l_pa_ln, l_pa_ia, l_pa_e, l_pa_ep, l_pa_e3, l_aga_ar, l_aga_ln, l_aga_ia, l_aga_e, l_ag_ar, l_ag_ln, l_ag_ia, l_ag_is, l_ag_e, l_ag_ep, l_nxa_ar, l_nxa_ln, l_nxa_ia, l_nxa_e, l_nx_ar, l_nx_ln, l_nx_ia, l_nx_is, l_nx_e, l_nx_ep, l_qt_ar, l_qt_ln, l_qt_ia, l_qt_is, l_qt_e, l_qt_ep, l_bn_ar, l_bn_ln, l_bn_ia, l_bn_is, l_bn_e, l_bn_ep, l_rl_ar, l_rl_ln, l_rl_ia, l_rl_e, l_rl_ep, l_rl_e3, l_bxo_ar, l_bxo_ln, l_bxo_ia, l_bxo_e, l_bxi_ar, l_bxi_ln, l_bxi_ia, l_bxi_e, l_bxi_ep, l_bxi_e3, l_gta_ar, l_gta_ln, l_gta_ia, l_gta_e, l_gt_ar, l_gt_ln, l_gt_ia, l_gt_e, l_gt_ep, zvi_int, zvl_long, zvd_double, zvr_ref, zisI_int, zisR_ref, zgI_int, zgR_ref, zkl_int, zkl_ref, zkl_none, zkl_long, zkl_double, zct_nil, zct_int, zct_ref, zct_long, zct_double, zbk_some, zbk_none, zbk_exc, nI_clamp, nI_add, nI_mul, true_and, and_true, Nat.reduceAdd, Nat.reduceMul, Nat.reduceLeDiff, Nat.reducePow, ↓reduceIte, Nat.zero_add, Nat.add_zero, Nat.reduceLT, Nat.reduceEqDiff, Nat.le_refl, zn10, zn01, zfitB0, zfitB1, znarB0, znarB1, Nat.lt_irrefl, ↓zvi_eq, ↓zvr_eq]
  · have e10 : ¬ J.1 = nI 0 := by rw [e1]; decide
    have ey : cKp y p m J = y1 := by
      unfold cKp
      rw [if_neg e10, hy1]
    rw [if_neg e10] at vr0
    obtain ⟨E5, G5, hP5, v5, k5, w5⟩ := cm_fin (p := p) (m := m) (c := G.2.2.1 m) hP3 va hJ6
    rw [ey]
    refine ⟨E5, G5, bl, hP5, by rw [hy1]; exact hB, v5.cg (fun j hj => ?_), fun b N g h => ⟨(k5 _ _ _ (KK _ _ _ h)).1, (k5 _ _ _ (KK _ _ _ h)).2.trans (KT _ _ _ h)⟩, fun x d Q => ?_⟩
    · show _ = tlR J (j + 2)
      unfold tlR
      rw [if_neg (by omega), if_neg (by omega), Nat.add_sub_cancel]
    · rw [← w5 x d Q 9 29 (by omega) (by omega), hy1, e133]
      simp (disch := omega) only [p133_0, p133_1, p133_4, p133_5, p133_6, p133_7, p133_8, p133_11, p133_12, p133_13, p133_16, p133_17, p133_18, p133_19, p133_20, p133_21, p133_22, p133_25, p133_26, p133_27, p133_28, p133_29, p133_30, p133_31, p133_32, p133_35, p133_37, p133_38, p133_39, p133_41, p133_44, p133_46, p133_47, p133_48, p133_51, p133_52, p133_53, p133_56, p133_57, p133_58, p133_59, p133_60, p133_61, p133_64, p133_65, p133_66, p133_69, p133_70, p133_73, p133_74, p133_75, p133_76, p133_77, p133_78, p133_79, p133_80, p133_81, p133_84, p133_85, p133_86, p133_87, p133_89, p133_90, p133_91, p133_93, p133_94, p133_95, p133_99, p133_101, p133_102, p133_103, p133_104, p133_106, p133_109, p133_111, p133_112, p133_113, p133_116, p133_117, p133_118, p133_121, p133_122, p133_125, yD_rd, yD_su, su_get, u2_get, su_eq, h24, sia, srd, w1', k1.2.1, w2, zmem_c, p0, vis, vr0, hm1, zbst1, l_po_ok, l_po_0, l_po_1, l_po_2, l_po_2p, l_po_3, l_po_3p, l_po_4, l_po_4p, l_po_5, l_po_5p, l_po_6, l_po_6p, l_po_7, l_po_8, l_po_9, l_po_10, l_po_11, l_po_12, l_po_13, l_po_13p, l_po_14, l_po_15, l_po_16, l_po_17, l_po_17p, l_pa_ar, l_pa_ln, l_pa_ia, l_pa_e, l_pa_ep, l_pa_e3, l_aga_ar, l_aga_ln, l_aga_ia, l_aga_e, l_ag_ar, l_ag_ln, l_ag_ia, l_ag_is, l_ag_e, l_ag_ep, l_nxa_ar, l_nxa_ln, l_nxa_ia, l_nxa_e, l_nx_ar, l_nx_ln, l_nx_ia, l_nx_is, l_nx_e, l_nx_ep, l_qt_ar, l_qt_ln, l_qt_ia, l_qt_is, l_qt_e, l_qt_ep, l_bn_ar, l_bn_ln, l_bn_ia, l_bn_is, l_bn_e, l_bn_ep, l_rl_ar, l_rl_ln, l_rl_ia, l_rl_e, l_rl_ep, l_rl_e3, l_bxo_ar, l_bxo_ln, l_bxo_ia, l_bxo_e, l_bxi_ar, l_bxi_ln, l_bxi_ia, l_bxi_e, l_bxi_ep, l_bxi_e3, l_gta_ar, l_gta_ln, l_gta_ia, l_gta_e, l_gt_ar, l_gt_ln, l_gt_ia, l_gt_e, l_gt_ep, zvi_int, zvl_long, zvd_double, zvr_ref, zisI_int, zisR_ref, zgI_int, zgR_ref, zkl_int, zkl_ref, zkl_none, zkl_long, zkl_double, zct_nil, zct_int, zct_ref, zct_long, zct_double, zbk_some, zbk_none, zbk_exc, nI_clamp, nI_add, nI_mul, true_and, and_true, Nat.reduceAdd, Nat.reduceMul, Nat.reduceLeDiff, Nat.reducePow, ↓reduceIte, Nat.zero_add, Nat.add_zero, Nat.reduceLT, Nat.reduceEqDiff, Nat.le_refl, zn10, zn01, zfitB0, zfitB1, znarB0, znarB1, Nat.lt_irrefl, ↓zvi_eq, ↓zvr_eq]
end ZB
