/-! rules added and dropped (source: wip/p35/src/261.ru.txt, by expand3.py) -/
section ZP
variable {E E' : zEx} {x y y' : zSt} {G : pG} {bl : Nat → Nat → List Nat} {fc nr : Nat → Nat} {n L : Nat} {xs : Nat → Int32}
/-- another row of rules -/
theorem PS.rul {p a m : Nat} {u : Nat → Nat} (hy : ∀ c, c = 14 ∨ (26 ≤ c ∧ c ≤ 29) ∨ (30 ≤ c ∧ c ≤ 39) → y' c = y c) (hq : ∀ q, ¬ q = p → ∀ r, rw6 y' q r = rw6 y q r) (r : PS E y G bl fc nr n L xs) (ha : vR E a 40 m u) (hw : G.1 a = 0) (hm : m ≤ 6) (hu : ∀ r, r < m → vI E (u r) 6 (rw6 y' p r) ∧ G.1 (u r) = 0) : PS (eR E 2 p 0 a) y' (G.1, G.2.1, G.2.2.1, fun q r => if q = p then u r else G.2.2.2 q r) bl fc (fun q => if q = p then m else nr q) n L xs := by
  obtain ⟨r1, r2, r3, r4, r5, r6⟩ := r
  refine ⟨fun q g hq hg => ?_, fun q hq' => ?_, fun q hq' => ?_, ?_, ?_, r6⟩
  · rw [eR_o (by omega)]
    exact (pBx.mY (fun c _ _ => hy c (by omega)) r1) q g hq hg
  · rw [eR_o (by omega)]
    exact (pPa.mY (hy 14 (by omega)) r2) q hq'
  · dsimp only
    by_cases e : q = p
    · subst e
      rw [if_pos rfl, eR_n]
      refine ⟨⟨ha.1, ha.2.1, fun j hj => ?_⟩, hw, hm, fun r hr => ?_⟩
      · show _ = Value.ref (if q = q then u j else G.2.2.2 q j)
        rw [if_pos rfl]; exact ha.2.2 j hj
      · rw [if_pos rfl]; exact hu r hr
    · rw [if_neg e, eR_o (by omega)]
      obtain ⟨a', b, c, d⟩ := r3 q hq'
      refine ⟨⟨a'.1, a'.2.1, fun j hj => ?_⟩, b, c, fun r hr => ?_⟩
      · show _ = Value.ref (if q = p then u j else G.2.2.2 q j)
        rw [if_neg e]; exact a'.2.2 j hj
      · rw [if_neg e, hq q e r]; exact d r hr
  · have := pSe.mY (y' := y') (fun c _ _ => hy c (by omega)) r4
    unfold pSe at this ⊢
    rw [eR_o (by omega)]; exact this
  · unfold pLa
    rw [eR_o (by omega)]; exact r5
end ZP
theorem mRr_o {y : zSt} {p k n c : Nat} (h : ¬ (c = 13 ∨ (18 ≤ c ∧ c ≤ 22))) : mRr y p k n c = y c := by
  unfold mRr
  rw [su_eq, if_neg (by omega), su_eq, if_neg (by omega), su_eq, if_neg (by omega), su_eq, if_neg (by omega), su_eq, if_neg (by omega), su_eq, if_neg (by omega)]
theorem rw6_rr {y : zSt} {p k n q r : Nat} : rw6 (mRr y p k n) q r = if q = p ∧ k ≤ r ∧ r + 1 < n then rw6 y q (r + 1) else rw6 y q r := by
  have e18 : mRr y p k n 18 = sSf (y 18) p k n := rfl
  have e19 : mRr y p k n 19 = sSf (y 19) p k n := rfl
  have e20 : mRr y p k n 20 = sSf (y 20) p k n := rfl
  have e21 : mRr y p k n 21 = sSf (y 21) p k n := rfl
  have e22 : mRr y p k n 22 = sSf (y 22) p k n := rfl
  have key : ∀ g : Nat → Nat → Int32, sSf g p k n q r = if q = p ∧ k ≤ r ∧ r + 1 < n then g q (r + 1) else g q r := fun g => by
    unfold sSf
    by_cases h : q = p ∧ k ≤ r ∧ r + 1 < n
    · rw [if_pos h, if_pos h, h.1]
    · rw [if_neg h, if_neg h]
  by_cases h : q = p ∧ k ≤ r ∧ r + 1 < n
  · rw [if_pos h]
    funext j
    unfold rw6 yRu
    rw [e18, e19, e20, e21, e22]
    simp only [key, if_pos h]
  · rw [if_neg h]
    funext j
    unfold rw6 yRu
    rw [e18, e19, e20, e21, e22]
    simp only [key, if_neg h]
/-- memories alike -/
theorem gh_of {x y y' : zSt} {E : zEx} {d : Nat} (h : ∀ c q i, ¬ ((c = 14 ∨ (17 ≤ c ∧ c ≤ 23) ∨ (25 ≤ c ∧ c ≤ 100)) ∨ (c = 0 ∧ i = 2) ∨ (c = 13 ∧ ¬ i = 5)) → y' c q i = y c q i) : zmem x (yD y d) E = zmem x (yD y' d) E := by
  refine zmem_gh (fun c q i hc => ?_)
  by_cases c2 : c = 2
  · subst c2
    show (if q = 0 ∧ i = 0 then nI d else y 2 q i) = (if q = 0 ∧ i = 0 then nI d else y' 2 q i)
    rw [h 2 q i (by omega)]
  · rw [yD_rd c2, yD_rd c2]
    exact (h c q i (fun z => gS_no (c := c) (i := i) z hc)).symm
theorem pX_rr {y : zSt} {n p k : Nat} {nr : Nat → Nat} (h : pX y n nr) : pX (mRr y p k (nr p)) n (fun q => if q = p then nr p - 1 else nr q) := by
  have e18 : mRr y p k (nr p) 18 = sSf (y 18) p k (nr p) := rfl
  have e19 : mRr y p k (nr p) 19 = sSf (y 19) p k (nr p) := rfl
  have key : ∀ (g : Nat → Nat → Int32) q r, sSf g p k (nr p) q r = if q = p ∧ k ≤ r ∧ r + 1 < nr p then g q (r + 1) else g q r := fun g q r => by
    unfold sSf
    by_cases h : q = p ∧ k ≤ r ∧ r + 1 < nr p
    · rw [if_pos h, if_pos h, h.1]
    · rw [if_neg h, if_neg h]
  refine ⟨fun q r hq hr => ?_, h.2⟩
  rw [e18, e19, key, key]
  dsimp only at hr
  by_cases c : q = p ∧ k ≤ r ∧ r + 1 < nr p
  · rw [if_pos c, if_pos c]
    exact h.1 q (r + 1) hq (by rw [c.1]; exact c.2.2)
  · rw [if_neg c, if_neg c]
    refine h.1 q r hq ?_
    split at hr
    · rename_i e; subst e; omega
    · exact hr
section ZA
variable {E : zEx} {x y : zSt} {k s : Nat}
theorem t125 {d b n qn t w l p : Nat} {fc nr : Nat → Nat} {G : pG} {bl : Nat → Nat → List Nat} {L : Nat} {xs : Nat → Int32} (hG : cG n qn t w l fc nr b x y) (hP : PS E y G bl fc nr n L xs) (hB : BL bl n y) (hd : d + 10 ≤ 200 + 40 * k) (hn : n ≤ s) (hpx : pX y n nr) (ht : t ≤ 21 * k) (hb : b ≤ 2000 * (k + 1)) (hX : iX x k) (hk : k ≤ 101) (hp : p < 4) (h0 : 0 < nr p) : zcl 125 [.ref 1, .int (nI p)] (zmem x (yD y d) E) (pO k s) := by
  have hS := hP.2.2.2.2.2
  obtain ⟨hpa, hpt, hp6, hpr⟩ := hP.2.2.1 p hp
  have har := fun x y => hpa.ar (x := x) (y := y) (Or.inl rfl)
  have hln := fun x y => hpa.ln (x := x) (y := y)
  obtain ⟨r, hr, e1⟩ := cD (d := d) (n := nr p) hS (by omega) (by omega) (by omega)
  obtain ⟨E1, k1, v1, n1, w1⟩ := c117 hpa (fun j hj => (hpr j hj).1.T) hr (by omega)
  have har1 := fun x y => (v1.refs (c := 2) (p := p) (i := 0) (v := 476 + E.1 + 1)).ar (x := x) (y := y) (Or.inl rfl)
  have hln1 := fun x y => (v1.refs (c := 2) (p := p) (i := 0) (v := 476 + E.1 + 1)).ln (x := x) (y := y)
  have i3 := fun x y => l_rl_e3 (x := x) (y := y) hp v1.1 (by rw [v1.2.1])
  have hK := fun (Q : zO → zM → Prop) (Y : zSt) (F : zEx) => a47 (Q := Q) (Y := Y) (E := F) hG hp hr
  have hg := cG_rr hp hG.1 hG.2.1 hG.2.2.1 hG.2.2.2.1 hG.2.2.2.2.1 hG.2.2.2.2.2 hr
  rw [e125]
  simp (disch := omega) only [p125_0, p125_1, p125_2, p125_5, p125_6, p125_7, p125_8, p125_11, p125_12, p125_13, p125_16, p125_17, p125_18, p125_21, p125_22, p125_23, p125_24, p125_27, p125_28, p125_29, p125_32, p125_33, p125_34, p125_37, p125_38, p125_41, p125_42, p125_43, p125_44, p125_47, p125_48, p125_51, p125_52, e1, har, hln, w1, har1, hln1, i3, hK, eR_n, l_dm_ok, l_dm_0, l_dm_1, l_dm_2, l_dm_2p, l_dm_3, l_dm_4, l_dm_4p, l_dm_5, l_dm_6, l_dm_6p, l_dm_7, l_dm_7p, l_dm_8, l_dm_8p, l_dm_9, l_dm_9p, l_dm_10, l_dm_11, l_dm_12, l_dm_13, l_dm_14, l_po_ok, l_po_0, l_po_1, l_po_2, l_po_2p, l_po_3, l_po_3p, l_po_4, l_po_4p, l_po_5, l_po_5p, l_po_6, l_po_6p, l_po_7, l_po_8, l_po_9, l_po_10, l_po_11, l_po_12, l_po_13, l_po_13p, l_po_14, l_po_15, l_po_16, l_po_17, l_po_17p, l_bxa_ar, l_bxa_ln, l_bxa_ia, l_bxa_e, l_lea_ar, l_lea_ln, l_lea_ia, l_lea_e, l_qua_ar, l_qua_ln, l_qua_ia, l_qua_e, l_bo_ar, l_bo_ln, l_bo_ia, l_bo_is, l_bo_e, l_bo_ep, l_fc_ar, l_fc_ln, l_fc_ia, l_fc_is, l_fc_e, l_fc_ep, l_pa_ar, l_pa_ln, l_pa_ia, l_pa_e, l_pa_ep, l_pa_e3, l_aga_ar, l_aga_ln, l_aga_ia, l_aga_e, l_ag_ar, l_ag_ln, l_ag_ia, l_ag_is, l_ag_e, l_ag_ep, l_nxa_ar, l_nxa_ln, l_nxa_ia, l_nxa_e, l_nx_ar, l_nx_ln, l_nx_ia, l_nx_is, l_nx_e, l_nx_ep, l_qt_ar, l_qt_ln, l_qt_ia, l_qt_is, l_qt_e, l_qt_ep, l_bn_ar, l_bn_ln, l_bn_ia, l_bn_is, l_bn_e, l_bn_ep, l_rl_ar, l_rl_ln, l_rl_ia, l_rl_e, l_rl_ep, l_rl_e3, l_bxo_ar, l_bxo_ln, l_bxo_ia, l_bxo_e, l_bxi_ar, l_bxi_ln, l_bxi_ia, l_bxi_e, l_bxi_ep, l_bxi_e3, l_gta_ar, l_gta_ln, l_gta_ia, l_gta_e, l_gt_ar, l_gt_ln, l_gt_ia, l_gt_e, l_gt_ep, zvi_int, zvl_long, zvd_double, zvr_ref, zisI_int, zisR_ref, zgI_int, zgR_ref, zkl_int, zkl_ref, zkl_none, zkl_long, zkl_double, zct_nil, zct_int, zct_ref, zct_long, zct_double, zbk_some, zbk_none, zbk_exc, nI_clamp, nI_add, nI_mul, true_and, and_true, Nat.reduceAdd, Nat.reduceMul, Nat.reduceLeDiff, Nat.reducePow, ↓reduceIte, Nat.zero_add, Nat.add_zero, Nat.reduceLT, Nat.reduceEqDiff, Nat.le_refl, zn10, zn01, zfitB0, zfitB1, znarB0, znarB1, Nat.lt_irrefl, ↓zvi_eq, ↓zvr_eq]
  have hgh : zmem (sRr x p r (nr p)) (yD y (d + 1)) (eR E1 2 p 0 (476 + E.1 + 1)) = zmem (sRr x p r (nr p)) (yD (mRr y p r (nr p)) (d + 1)) (eR E1 2 p 0 (476 + E.1 + 1)) := by
    refine gh_of (fun c q i hno => ?_)
    by_cases c13 : c = 13
    · subst c13
      show u2 (y 13) p 3 (nI (nr p - 1)) q i = _
      rw [u2_eq, if_neg (by omega)]
    · rw [mRr_o (by omega)]
  refine ⟨rfl, _, _, _, hgh, pI_mk hg (((hP.mW (a := 476 + E.1 + 1) (v := 0) (by omega)).mL k1).rul (u := fun j => if j < r then G.2.2.2 p j else G.2.2.2 p (j + 1)) (fun c hc => mRr_o (by omega)) (fun q hq j => ?_) v1 tU_n (by omega) (fun j hj => ?_)) (BL_eq (mRr_o (by omega)) (mRr_o (by omega)) hB) (by omega) hn (pX_rr hpx) (by omega) (by omega) (iX_eq (x := x) (by omega) rfl (fun c h1 h2 => ?_) hX)⟩
  · rw [rw6_rr, if_neg (fun z => hq z.1)]
  · dsimp only
    rw [rw6_rr]
    by_cases e : j < r
    · rw [if_pos e, if_neg (by omega)]
      have := hpr j (by omega)
      exact ⟨k1.I this.1, (tU_o (by have := this.1.1.2.1; omega)).trans this.2⟩
    · rw [if_neg e, if_pos ⟨rfl, by omega, by omega⟩]
      have := hpr (j + 1) (by omega)
      exact ⟨k1.I this.1, (tU_o (by have := this.1.1.2.1; omega)).trans this.2⟩
  · unfold sRr
    rw [su_eq, if_neg (by omega), su_eq, if_neg (by omega)]
end ZA
