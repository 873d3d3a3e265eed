/-! a copy moved (source: wip/p35/src/266.mv.txt, by expand3.py) -/
/-- a list without one -/
def lw (l : List Nat) (m : Nat) : List Nat := l.filter (fun i => !decide (i = m))
theorem lw_mem {l : List Nat} {m i : Nat} : i ∈ lw l m ↔ i ∈ l ∧ ¬ i = m := by
  unfold lw
  rw [List.mem_filter, Bool.not_eq_true', decide_eq_false_iff_not]
theorem lw_no {l : List Nat} {m : Nat} (h : ¬ m ∈ l) : lw l m = l := by
  unfold lw
  rw [List.filter_eq_self]
  intro a ha
  rw [Bool.not_eq_true', decide_eq_false_iff_not]
  exact fun e => h (e ▸ ha)
theorem lw_idx : ∀ {l : List Nat} {k : Nat}, l.Nodup → k < l.length → l.eraseIdx k = lw l (l.getD k 0)
  | [], k, _, h => absurd h (Nat.not_lt_zero _)
  | a :: t, 0, hn, _ => by
    rw [List.nodup_cons] at hn
    show t = lw (a :: t) a
    have : lw (a :: t) a = lw t a := by
      unfold lw
      rw [List.filter_cons_of_neg]
      simp
    rw [this, lw_no hn.1]
  | a :: t, k + 1, hn, h => by
    rw [List.nodup_cons] at hn
    have hk : k < t.length := Nat.lt_of_succ_lt_succ h
    have e : (a :: t).getD (k + 1) 0 = t.getD k 0 := rfl
    have hne : ¬ a = t.getD k 0 := fun z => hn.1 (z ▸ getD_mem hk)
    rw [e]
    show a :: t.eraseIdx k = lw (a :: t) (t.getD k 0)
    have : lw (a :: t) (t.getD k 0) = a :: lw t (t.getD k 0) := by
      unfold lw
      rw [List.filter_cons_of_pos]
      simpa using hne
    rw [this, lw_idx hn.2 hk]
theorem lw_len {l : List Nat} {k : Nat} (hn : l.Nodup) (h : k < l.length) : (lw l (l.getD k 0)).length = l.length - 1 := by
  rw [← lw_idx hn h, List.length_eraseIdx, if_pos h]
theorem lw_get {l : List Nat} {k j : Nat} (hn : l.Nodup) (h : k < l.length) : (lw l (l.getD k 0)).getD j 0 = if j < k then l.getD j 0 else l.getD (j + 1) 0 := by
  rw [← lw_idx hn h]
  simp only [List.getD_eq_getElem?_getD, List.getElem?_eraseIdx]
  split <;> rfl
section ZB
variable {E : zEx} {x y : zSt} {G : pG} {bl : Nat → Nat → List Nat} {fc nr : Nat → Nat} {n L p : Nat} {xs : Nat → Int32}
/-- the lists behind a move -/
def bM (bl : Nat → Nat → List Nat) (p f m to : Nat) : Nat → Nat → List Nat := bU (bU bl p f (lw (bl p f) m)) p to (bl p to ++ [m])
theorem bM_to {f m to : Nat} : bM bl p f m to p to = bl p to ++ [m] := bU_n
theorem bM_f {f m to : Nat} (h : ¬ f = to) : bM bl p f m to p f = lw (bl p f) m := (bU_o (fun z => h z.2)).trans bU_n
theorem bM_o {f m to q g : Nat} (h : ¬ (q = p ∧ g = to)) (h' : ¬ (q = p ∧ g = f)) : bM bl p f m to q g = bl q g := (bU_o h).trans (bU_o h')
theorem BL.mv (hB : BL bl n y) (hp : p < 4) {f m to : Nat} (hf : f < 8) (hto : to < 8) (hne : ¬ f = to) (hm : m ∈ bl p f) (hnum : ∀ i, i ∈ bl p to → y 26 p i < y 16 p to) : BL (bM bl p f m to) n (sLay y p m to) := by
  intro q g hq hg
  have hmf := ((hB p f hp hf).1 m).mp hm
  by_cases e1 : q = p ∧ g = to
  · obtain ⟨rfl, rfl⟩ := e1
    rw [bM_to]
    have hnm : ¬ m ∈ bl q g := fun z => hne (hB.one hp hf hg hm z)
    refine ⟨fun i => ?_, ?_⟩
    · rw [List.mem_append, (hB q g hq hg).1 i, sL_25, List.mem_singleton]
      by_cases e : i = m
      · subst e
        rw [if_pos ⟨rfl, rfl⟩]
        exact ⟨fun _ => ⟨hmf.1, rfl⟩, fun _ => Or.inr rfl⟩
      · rw [if_neg (fun z => e z.2)]
        exact ⟨fun h => h.resolve_right e, Or.inl⟩
    · rw [List.pairwise_append]
      refine ⟨(hB q g hq hg).2.imp_of_mem (fun {a b} ha hb h => ?_), List.pairwise_singleton _ _, fun a ha c hc => ?_⟩
      · rw [sL_26, sL_26, if_neg (fun (z : q = q ∧ a = m) => hnm (z.2 ▸ ha)), if_neg (fun (z : q = q ∧ b = m) => hnm (z.2 ▸ hb))]
        exact h
      · rw [List.mem_singleton] at hc
        subst hc
        rw [sL_26, if_neg (fun (z : q = q ∧ a = c) => hnm (z.2 ▸ ha)), sL_26, if_pos ⟨rfl, rfl⟩]
        exact hnum a ha
  · by_cases e2 : q = p ∧ g = f
    · obtain ⟨rfl, rfl⟩ := e2
      rw [bM_f hne]
      refine ⟨fun i => ?_, ?_⟩
      · rw [lw_mem, (hB q g hq hg).1 i, sL_25]
        by_cases e : i = m
        · subst e
          rw [if_pos ⟨rfl, rfl⟩]
          exact ⟨fun h => absurd rfl h.2, fun h => absurd ((nI_eq (by omega) (by omega)).mp h.2).symm hne⟩
        · rw [if_neg (fun z => e z.2)]
          exact ⟨fun h => h.1, fun h => ⟨h, e⟩⟩
      · refine (List.Pairwise.filter _ (hB q g hq hg).2).imp_of_mem (fun {a b} ha hb h => ?_)
        rw [sL_26, sL_26, if_neg (fun (z : q = q ∧ a = m) => (lw_mem.mp ha).2 z.2), if_neg (fun (z : q = q ∧ b = m) => (lw_mem.mp hb).2 z.2)]
        exact h
    · rw [bM_o e1 e2]
      have hnm : q = p → ¬ m ∈ bl q g := fun e z => e2 ⟨e, by subst e; exact (hB.one hp hf hg hm z).symm⟩
      refine ⟨fun i => ?_, (hB q g hq hg).2.imp_of_mem (fun {a b} ha hb h => ?_)⟩
      · rw [(hB q g hq hg).1 i, sL_25]
        by_cases e : q = p ∧ i = m
        · rw [if_pos e]
          obtain ⟨rfl, rfl⟩ := e
          have := hnm rfl
          rw [(hB q g hq hg).1 i] at this
          exact ⟨fun h => absurd h this, fun h => absurd ⟨rfl, ((nI_eq (by omega) (by omega)).mp h.2).symm⟩ e1⟩
        · rw [if_neg e]
      · rw [sL_26, sL_26, if_neg (fun (z : q = p ∧ a = m) => hnm z.1 (z.2 ▸ ha)), if_neg (fun (z : q = p ∧ b = m) => hnm z.1 (z.2 ▸ hb))]
        exact h
theorem c132 (hP : PS E y G bl fc nr n L xs) (hB : BL bl n y) (hp : p < 4) {k f to : Nat} (hf : f < 8) (hto : to < 8) (hne : ¬ f = to) (hk : k < (bl p f).length) (hlen : (bl p to).length < 25) (hn : n < 26) : ∃ E' G', PS E' (sLay y p ((bl p f).getD k 0) to) G' (bM bl p f ((bl p f).getD k 0) to) fc nr n L xs ∧ ∀ (x : zSt) (d : Nat) (Q : zO → zM → Prop), zcl 132 [.ref 1, .int (nI p), .int (nI f), .int (nI k), .int (nI to)] (zmem x (yD y d) E) Q ↔ Q (.inl none) (zmem x (yD (sLay y p ((bl p f).getD k 0) to) d) E') := by
  have hr := hP.row hp hf
  have hkf := hB.len hp hf
  have hnd := hB.nodup hp hf
  have hm := getD_mem hk
  obtain ⟨m, em⟩ : ∃ m, m = (bl p f).getD k 0 := ⟨_, rfl⟩
  rw [← em] at hm ⊢
  obtain ⟨hm26, hrow⟩ := hP.cop hp hf hm
  obtain ⟨E1, k1, v1, n1, w1⟩ := c117 hr (fun j hj => (hP.cop hp hf (getD_mem hj)).2.T) hk (by omega)
  have i1 := fun x y => hr.ia (x := x) (y := y) (j := k) (by omega)
  have r1 := fun x y => hr.rd (x := x) (y := y) (j := k) hk
  have i8 := fun x y => l_bxi_e3 (x := x) (y := y) hp hf v1.1 (by rw [v1.2.1])
  have hrow' := (k1.I hrow).refs (c := 3) (p := p) (i := f) (v := 476 + E.1 + 1)
  have j0 := fun x y => hrow'.is (x := x) (y := y) (j := 0) (by omega)
  have j2 := fun x y => hrow'.is (x := x) (y := y) (j := 2) (by omega)
  have r0 : ∀ X Y, zrd (zmem X Y (eR E1 3 p f (476 + E.1 + 1))) (G.2.1 p m) 0 = .int (nI m) := fun X Y => hrow'.rd (x := X) (y := Y) (j := 0) (by omega)
  have r2 : ∀ X Y, zrd (zmem X Y (eR E1 3 p f (476 + E.1 + 1))) (G.2.1 p m) 2 = .int (y 27 p m) := fun X Y => hrow'.rd (x := X) (y := Y) (j := 2) (by omega)
  have P2 := ((hP.mW (a := 476 + E.1 + 1) (v := 0) (by omega)).mL k1).box (p := p) (f := f) (a := 476 + E.1 + 1) (l := lw (bl p f) m) (by
    rw [em, lw_len hnd hk]
    refine ⟨v1.1, v1.2.1, fun j hj => (v1.2.2 j hj).trans (congrArg Value.ref ?_)⟩
    show (if j < k then G.2.1 p ((bl p f).getD j 0) else G.2.1 p ((bl p f).getD (j + 1) 0)) = G.2.1 p ((lw (bl p f) ((bl p f).getD k 0)).getD j 0)
    rw [lw_get hnd hk]
    split <;> rfl) tU_n (fun i hi => by
    have := (hP.1 p f hp hf).2.2 i (lw_mem.mp hi).1
    refine ⟨this.1, k1.I this.2.1, (tU_o (by have := this.2.1.1.2.1; show ¬ G.2.1 p i = _; omega)).trans this.2.2⟩)
  obtain ⟨E3, G3, P3, _, w3⟩ := c131 (m := m) (f := to) (mk := y 27 p m) P2 hp hto hm26 (by rw [bU_o (fun z => hne z.2.symm)]; exact hlen) (fun g hg => by
    by_cases e : g = f
    · subst e
      rw [bU_n, lw_mem]
      exact fun z => z.2 rfl
    · rw [bU_o (fun z => e z.2)]
      exact fun z => e (hB.one hp hg hf z hm))
  have ey : su y 27 (u2 (y 27) p m (y 27 p m)) = y := by
    funext c
    by_cases e : c = 27
    · subst e
      funext q i
      show (if q = p ∧ i = m then y 27 p m else y 27 q i) = y 27 q i
      by_cases h : q = p ∧ i = m
      · rw [if_pos h, h.1, h.2]
      · rw [if_neg h]
    · exact if_neg e
  rw [ey, bU_o (fun z => hne z.2.symm)] at P3
  rw [ey] at w3
  refine ⟨E3, G3, P3, fun x d Q => ?_⟩
  rw [← em] at r1
  rw [e132]
  simp (disch := omega) only [p132_0, p132_1, p132_4, p132_5, p132_6, p132_7, p132_8, p132_9, p132_10, p132_12, p132_13, p132_16, p132_17, p132_18, p132_19, p132_20, p132_23, p132_24, p132_25, p132_26, p132_27, p132_28, p132_31, p132_32, p132_33, p132_34, p132_36, p132_37, p132_38, p132_40, p132_41, p132_42, p132_44, p132_47, i1, r1, w1, i8, j0, j2, r0, r2, w3, l_po_ok, l_po_0, l_po_1, l_po_2, l_po_2p, l_po_3, l_po_3p, l_po_4, l_po_4p, l_po_5, l_po_5p, l_po_6, l_po_6p, l_po_7, l_po_8, l_po_9, l_po_10, l_po_11, l_po_12, l_po_13, l_po_13p, l_po_14, l_po_15, l_po_16, l_po_17, l_po_17p, l_pa_ar, l_pa_ln, l_pa_ia, l_pa_e, l_pa_ep, l_pa_e3, l_aga_ar, l_aga_ln, l_aga_ia, l_aga_e, l_ag_ar, l_ag_ln, l_ag_ia, l_ag_is, l_ag_e, l_ag_ep, l_nxa_ar, l_nxa_ln, l_nxa_ia, l_nxa_e, l_nx_ar, l_nx_ln, l_nx_ia, l_nx_is, l_nx_e, l_nx_ep, l_qt_ar, l_qt_ln, l_qt_ia, l_qt_is, l_qt_e, l_qt_ep, l_bn_ar, l_bn_ln, l_bn_ia, l_bn_is, l_bn_e, l_bn_ep, l_rl_ar, l_rl_ln, l_rl_ia, l_rl_e, l_rl_ep, l_rl_e3, l_bxo_ar, l_bxo_ln, l_bxo_ia, l_bxo_e, l_bxi_ar, l_bxi_ln, l_bxi_ia, l_bxi_e, l_bxi_ep, l_bxi_e3, l_gta_ar, l_gta_ln, l_gta_ia, l_gta_e, l_gt_ar, l_gt_ln, l_gt_ia, l_gt_e, l_gt_ep, zvi_int, zvl_long, zvd_double, zvr_ref, zisI_int, zisR_ref, zgI_int, zgR_ref, zkl_int, zkl_ref, zkl_none, zkl_long, zkl_double, zct_nil, zct_int, zct_ref, zct_long, zct_double, zbk_some, zbk_none, zbk_exc, nI_clamp, nI_add, nI_mul, true_and, and_true, Nat.reduceAdd, Nat.reduceMul, Nat.reduceLeDiff, Nat.reducePow, ↓reduceIte, Nat.zero_add, Nat.add_zero, Nat.reduceLT, Nat.reduceEqDiff, Nat.le_refl, zn10, zn01, zfitB0, zfitB1, znarB0, znarB1, Nat.lt_irrefl, ↓zvi_eq, ↓zvr_eq]
end ZB
