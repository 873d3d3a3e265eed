/-! a copy laid into a folder, and moved (source: wip/p35/src/265.li.txt, by expand3.py) -/
section ZB
variable {E : zEx} {x y : zSt} {G : pG} {bl : Nat → Nat → List Nat} {fc nr : Nat → Nat} {n L p : Nat} {xs : Nat → Int32}
theorem sL_16 {p m f q j : Nat} : sLay y p m f 16 q j = if q = p ∧ j = f then y 16 p f + nI 1 else y 16 q j := rfl
theorem sL_25 {p m f q j : Nat} : sLay y p m f 25 q j = if q = p ∧ j = m then nI f else y 25 q j := rfl
theorem sL_26 {p m f q j : Nat} : sLay y p m f 26 q j = if q = p ∧ j = m then y 16 p f else y 26 q j := rfl
theorem sL_27 {p m f : Nat} : sLay y p m f 27 = y 27 := rfl
theorem sL_28 {p m f q j : Nat} : sLay y p m f 28 q j = if q = p ∧ j = m then y 0 0 9 + nI 1 else y 28 q j := rfl
theorem sL_29 {p m f q j : Nat} : sLay y p m f 29 q j = if q = p ∧ j = m then y 0 0 6 else y 29 q j := rfl
theorem sL_0 {p m f q j : Nat} : sLay y p m f 0 q j = if q = 0 ∧ j = 9 then y 0 0 9 + nI 1 else y 0 q j := rfl
theorem sL_o {p m f c : Nat} (h : ¬ (c = 0 ∨ c = 16 ∨ c = 25 ∨ c = 26 ∨ c = 28 ∨ c = 29)) : sLay y p m f c = y c := by
  unfold sLay sRe
  rw [su_eq, if_neg (by omega), su_eq, if_neg (by omega), su_eq, if_neg (by omega), su_eq, if_neg (by omega), su_eq, if_neg (by omega), su_eq, if_neg (by omega)]
/-- the words of a copy's row -/
def cR (y : zSt) (p m : Nat) (mk : Int32) (f : Nat) : Nat → Int32 := fun i => if i = 4 then y 0 0 6 else if i = 3 then y 0 0 9 + nI 1 else if i = 2 then mk else if i = 1 then y 16 p f else if i = 0 then nI m else 0
theorem c131 (hP : PS E y G bl fc nr n L xs) (hp : p < 4) {m f : Nat} {mk : Int32} (hf : f < 8) (hm : m < 26) (hlen : (bl p f).length < 25) (hno : ∀ g, g < 8 → ¬ m ∈ bl p g) : ∃ E' G', PS E' (sLay (su y 27 (u2 (y 27) p m mk)) p m f) G' (bU bl p f (bl p f ++ [m])) fc nr n L xs ∧ (∀ b N g, vI E b N g → vI E' b N g ∧ G'.1 b = G.1 b) ∧ ∀ (x : zSt) (d : Nat) (Q : zO → zM → Prop), zcl 131 [.ref 1, .int (nI p), .int (nI m), .int mk, .int (nI f)] (zmem x (yD y d) E) Q ↔ Q (.inl none) (zmem x (yD (sLay (su y 27 (u2 (y 27) p m mk)) p m f) d) E') := by
  obtain ⟨E1, k1, n1, v1, w1⟩ := nwI E 5
  obtain ⟨E2, n2, k2, v2, w2⟩ := ptI v1 0 (nI m)
  obtain ⟨E3, n3, k3, v3, w3⟩ := ptI v2 1 (y 16 p f)
  obtain ⟨E4, n4, k4, v4, w4⟩ := ptI v3 2 mk
  obtain ⟨E5, n5, k5, v5, w5⟩ := ptI v4 3 (y 0 0 9 + nI 1)
  obtain ⟨E6, n6, k6, v6, w6⟩ := ptI v5 4 (y 0 0 6)
  have K6 := k6 E (k5 E (k4 E (k3 E (k2 E k1 (by omega)) (by omega)) (by omega)) (by omega)) (by omega)
  have i1 := fun x y => v1.ia (x := x) (y := y) (j := 0) (by omega)
  have i2 := fun x y => v2.ia (x := x) (y := y) (j := 1) (by omega)
  have i3 := fun x y => v3.ia (x := x) (y := y) (j := 2) (by omega)
  have i4 := fun x y => v4.ia (x := x) (y := y) (j := 3) (by omega)
  have i5 := fun x y => v5.ia (x := x) (y := y) (j := 4) (by omega)
  obtain ⟨E7, k7, v7, n7, w7⟩ := c116 (K6.R (hP.row hp hf)) (fun j hj => K6.T (hP.cop hp hf (getD_mem hj)).2.T) v6.T (by omega)
  have K7 := K6.trans k7
  have i8 := fun x y => l_bxi_e3 (x := x) (y := y) hp hf v7.1 (by rw [v7.2.1])
  have p1 : (0 : Int32) ≤ nI 5 := by decide
  have er : ∀ c q i, E6.2.2.2 c q i = E.2.2.2 c q i := fun c q i => by rw [K6.2.1]
  have sg : ∀ x d, zmem x (yD (su (su y 16 (u2 (y 16) p f (y 16 p f + nI 1))) 0 (u2 (y 0) 0 9 (y 0 0 9 + nI 1))) d) (eR E7 3 p f (476 + E6.1 + 1)) = zmem x (yD (sLay (su y 27 (u2 (y 27) p m mk)) p m f) d) (eR E7 3 p f (476 + E6.1 + 1)) := by
    intro x d
    refine gh_of (fun c q i hno => ?_)
    by_cases c0 : c = 0
    · subst c0; rfl
    · by_cases c16 : c = 16
      · subst c16; rfl
      · rw [sL_o (by omega), su_eq, if_neg (by omega), su_eq, if_neg c0, su_eq, if_neg c16]
  refine ⟨eR E7 3 p f (476 + E6.1 + 1), (fun b => if b = 476 + E.1 + 1 then 10 + 100 * p + m else if b = 476 + E6.1 + 1 then 0 else G.1 b, fun q i => if q = p ∧ i = m then 476 + E.1 + 1 else G.2.1 q i, G.2.2), ?_, fun b N g h => ⟨K7.I h, by
    have := h.1.2.1
    show (if b = 476 + E.1 + 1 then 10 + 100 * p + m else if b = 476 + E6.1 + 1 then 0 else G.1 b) = _
    rw [if_neg (by omega), if_neg (by omega)]⟩, fun x d Q => ?_⟩
  · have r7 := (hP.mL K7)
    have h0 : ∀ {b : Nat}, eY E b → G.1 b = 0 → (fun b => if b = 476 + E.1 + 1 then 10 + 100 * p + m else if b = 476 + E6.1 + 1 then 0 else G.1 b) b = 0 := fun {b} hb h => by
      have := hb.2.1
      dsimp only
      rw [if_neg (by omega), if_neg (by omega)]; exact h
    have hk : ∀ {b : Nat}, eY E b → (fun b => if b = 476 + E.1 + 1 then 10 + 100 * p + m else if b = 476 + E6.1 + 1 then 0 else G.1 b) b = G.1 b := fun {b} hb => by
      have := hb.2.1
      dsimp only
      rw [if_neg (by omega), if_neg (by omega)]
    have hold : ∀ q i, q < 4 → ¬ (q = p ∧ i = m) → vI E (G.2.1 q i) 5 (rw5 y q i) ∧ G.1 (G.2.1 q i) = 10 + 100 * q + i → vI E7 (G.2.1 q i) 5 (rw5 (sLay (su y 27 (u2 (y 27) p m mk)) p m f) q i) := fun q i hq h r => (K7.I r.1).cg (fun j hj => by
      rcases (show j = 0 ∨ j = 1 ∨ j = 2 ∨ j = 3 ∨ j = 4 by omega) with e | e | e | e | e <;> subst e
      · rfl
      · exact if_neg h
      · exact if_neg h
      · exact if_neg h
      · exact if_neg h)
    obtain ⟨r1, r2, r3, r4, r5, r6⟩ := hP
    refine ⟨fun q g hq hg => ?_, fun q hq => ?_, fun q hq => ?_, ?_, ?_, K7.S r6⟩
    · by_cases e : q = p ∧ g = f
      · obtain ⟨rfl, rfl⟩ := e
        rw [bU_n, eR_n]
        refine ⟨⟨v7.1, ?_, fun j hj => ?_⟩, ?_, fun i hi => ?_⟩
        · rw [List.length_append]; exact v7.2.1
        · rw [List.length_append] at hj
          have hj' : j < (bl q g).length + 1 := hj
          refine (v7.2.2 j hj').trans (congrArg Value.ref ?_)
          dsimp only
          by_cases e : j = (bl q g).length
          · have eg : (bl q g ++ [m]).getD j 0 = m := by
              rw [getD_app, if_neg (by omega), e, Nat.sub_self]; rfl
            rw [if_pos e, eg, if_pos ⟨rfl, rfl⟩]
          · have hjl : j < (bl q g).length := by omega
            have hm' := getD_mem hjl
            rw [if_neg e, getD_app, if_pos hjl, if_neg (fun z => hno g hg (by rw [← z.2]; exact hm'))]
        · dsimp only
          rw [if_neg (by omega), if_pos rfl]
        · rcases List.mem_append.mp hi with hi | hi
          · have hne : ¬ (q = q ∧ i = m) := fun z => hno g hg (by rw [← z.2]; exact hi)
            have := (r1 q g hq hg).2.2 i hi
            refine ⟨this.1, ?_⟩
            show vI _ (if q = q ∧ i = m then _ else G.2.1 q i) 5 _ ∧ _
            rw [if_neg hne]
            refine ⟨hold q i hq hne this.2, ?_⟩
            show (fun b => if b = 476 + E.1 + 1 then 10 + 100 * q + m else if b = 476 + E6.1 + 1 then 0 else G.1 b) (if q = q ∧ i = m then _ else G.2.1 q i) = _
            rw [if_neg hne, hk this.2.1.1]
            exact this.2.2
          · have ei : i = m := by simpa using hi
            subst ei
            refine ⟨hm, ?_⟩
            show vI _ (if q = q ∧ i = i then _ else G.2.1 q i) 5 _ ∧ _
            rw [if_pos ⟨rfl, rfl⟩]
            refine ⟨(k7.I v6).cg (fun j hj => ?_), ?_⟩
            · rcases (show j = 0 ∨ j = 1 ∨ j = 2 ∨ j = 3 ∨ j = 4 by omega) with e | e | e | e | e <;> subst e
              · rfl
              · exact (sL_26 (y := su y 27 (u2 (y 27) q i mk)) (p := q) (m := i) (f := g)).trans (if_pos ⟨rfl, rfl⟩)
              · exact (u2_get : u2 (y 27) q i mk q i = mk)
              · exact (sL_28 (y := su y 27 (u2 (y 27) q i mk)) (p := q) (m := i) (f := g)).trans (if_pos ⟨rfl, rfl⟩)
              · exact (sL_29 (y := su y 27 (u2 (y 27) q i mk)) (p := q) (m := i) (f := g)).trans (if_pos ⟨rfl, rfl⟩)
            · show (fun b => if b = 476 + E.1 + 1 then 10 + 100 * q + i else if b = 476 + E6.1 + 1 then 0 else G.1 b) (if q = q ∧ i = i then _ else G.2.1 q i) = _
              rw [if_pos ⟨rfl, rfl⟩]
              exact if_pos rfl
      · rw [bU_o e, eR_o (by omega)]
        obtain ⟨a, b, c⟩ := r1 q g hq hg
        rw [K7.rf]
        refine ⟨?_, h0 a.1 b, fun i hi => ?_⟩
        · refine ⟨(K7.R a).1, (K7.R a).2.1, fun j hj => ((K7.R a).2.2 j hj).trans (congrArg Value.ref ?_)⟩
          have hm' := getD_mem hj
          exact (if_neg (fun z => hno g hg (by rw [← z.2, ← z.1]; exact hm'))).symm
        · have hne : ¬ (q = p ∧ i = m) := fun z => hno g hg (by rw [← z.2, ← z.1]; exact hi)
          refine ⟨(c i hi).1, ?_⟩
          show vI _ (if q = p ∧ i = m then _ else G.2.1 q i) 5 _ ∧ _
          rw [if_neg hne]
          refine ⟨hold q i hq hne (c i hi).2, ?_⟩
          show (fun b => if b = 476 + E.1 + 1 then 10 + 100 * p + m else if b = 476 + E6.1 + 1 then 0 else G.1 b) (if q = p ∧ i = m then _ else G.2.1 q i) = _
          rw [if_neg hne, hk (c i hi).2.1.1]
          exact (c i hi).2.2
    · obtain ⟨a, b, c⟩ := r2 q hq
      rw [eR_o (by omega), K7.rf]
      exact ⟨K7.I a, (hk a.1).trans b, c⟩
    · obtain ⟨a, b, c, d⟩ := r3 q hq
      rw [eR_o (by omega), K7.rf]
      exact ⟨K7.R a, (hk a.1).trans b, c, fun r hr => ⟨K7.I (d r hr).1, (hk (d r hr).1.1).trans (d r hr).2⟩⟩
    · obtain ⟨a, b, c, d⟩ := r4
      unfold pSe
      rw [eR_o (by omega), K7.rf]
      exact ⟨K7.R a, (hk a.1).trans b, c, fun r hr => ⟨K7.I (d r hr).1, (hk (d r hr).1.1).trans (d r hr).2⟩⟩
    · obtain ⟨m', g', a, b, c⟩ := r5
      unfold pLa
      rw [eR_o (by omega), K7.rf]
      exact ⟨m', g', a, K7.I b, (hk b.1).trans c⟩
  · rw [e131]
    simp (disch := omega) only [p131_0, p131_1, p131_3, p131_3i, p131_4, p131_5, p131_6, p131_7, p131_7i, p131_8, p131_9, p131_10, p131_13, p131_14, p131_15, p131_17, p131_18, p131_19, p131_20, p131_21, p131_22, p131_23, p131_24, p131_24i, p131_25, p131_26, p131_27, p131_28, p131_28i, p131_29, p131_30, p131_31, p131_31i, p131_32, p131_35, p131_36, p131_37, p131_38, p131_41, p131_42, p131_42i, p131_43, p131_44, p131_45, p131_48, p131_49, p131_51, p131_52, p131_55, p131_56, p131_57, p131_59, p131_60, p131_63, p131_64, p131_65, p131_67, p131_68, p131_70, p131_73, p131_74, w1, w2, w3, w4, w5, w6, w7, i1, i2, i3, i4, i5, i8, zmem_c, p1, er, su_get, u2_get, u2_eq, su_eq, yD_rd, yD_su, l_po_ok, l_po_0, l_po_1, l_po_2, l_po_2p, l_po_3, l_po_3p, l_po_4, l_po_4p, l_po_5, l_po_5p, l_po_6, l_po_6p, l_po_7, l_po_8, l_po_9, l_po_10, l_po_11, l_po_12, l_po_13, l_po_13p, l_po_14, l_po_15, l_po_16, l_po_17, l_po_17p, l_pa_ar, l_pa_ln, l_pa_ia, l_pa_e, l_pa_ep, l_pa_e3, l_aga_ar, l_aga_ln, l_aga_ia, l_aga_e, l_ag_ar, l_ag_ln, l_ag_ia, l_ag_is, l_ag_e, l_ag_ep, l_nxa_ar, l_nxa_ln, l_nxa_ia, l_nxa_e, l_nx_ar, l_nx_ln, l_nx_ia, l_nx_is, l_nx_e, l_nx_ep, l_qt_ar, l_qt_ln, l_qt_ia, l_qt_is, l_qt_e, l_qt_ep, l_bn_ar, l_bn_ln, l_bn_ia, l_bn_is, l_bn_e, l_bn_ep, l_rl_ar, l_rl_ln, l_rl_ia, l_rl_e, l_rl_ep, l_rl_e3, l_bxo_ar, l_bxo_ln, l_bxo_ia, l_bxo_e, l_bxi_ar, l_bxi_ln, l_bxi_ia, l_bxi_e, l_bxi_ep, l_bxi_e3, l_gta_ar, l_gta_ln, l_gta_ia, l_gta_e, l_gt_ar, l_gt_ln, l_gt_ia, l_gt_e, l_gt_ep, zvi_int, zvl_long, zvd_double, zvr_ref, zisI_int, zisR_ref, zgI_int, zgR_ref, zkl_int, zkl_ref, zkl_none, zkl_long, zkl_double, zct_nil, zct_int, zct_ref, zct_long, zct_double, zbk_some, zbk_none, zbk_exc, nI_clamp, nI_add, nI_mul, true_and, and_true, Nat.reduceAdd, Nat.reduceMul, Nat.reduceLeDiff, Nat.reducePow, ↓reduceIte, Nat.zero_add, Nat.add_zero, Nat.reduceLT, Nat.reduceEqDiff, Nat.le_refl, zn10, zn01, zfitB0, zfitB1, znarB0, znarB1, Nat.lt_irrefl, ↓zvi_eq, ↓zvr_eq]
    rw [sg x d]
end ZB
