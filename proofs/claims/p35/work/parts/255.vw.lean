/-! cells that don't stand fast: what lies there; drawing, rows made longer and shorter (source: wip/p35/src/255.vw.txt, by expand3.py) -/
/-- an int[] of n places g; an array of references (kind k) -/
def vI (E : zEx) (a n : Nat) (g : Nat → Int32) : Prop := eY E a ∧ eK E a = (20, n) ∧ ∀ j, j < n → E.2.2.1 a j = .int (g j)
def vR (E : zEx) (a k n : Nat) (g : Nat → Nat) : Prop := eY E a ∧ eK E a = (k, n) ∧ ∀ j, j < n → E.2.2.1 a j = .ref (g j)
def vS (E : zEx) (L : Nat) (xs : Nat → Int32) : Prop := E.2.1 0 = (50, L) ∧ L ≤ 260 ∧ ∀ j, j < L → E.2.2.1 0 j = .int (xs j)
section ZV
variable {E : zEx} {x y : zSt}
theorem eY_al {a : Nat} (h : eY E a) : zal (zmem x y E) a = true := by
  show (decide (1 ≤ a) && decide (a ≤ 476 + E.1)) = true
  rw [decide_eq_true h.1, decide_eq_true h.2.1]; rfl
theorem vI.ix {a n j : Nat} {g : Nat → Int32} (h : vI E a n g) (hj : j < n) (hn : n < 2 ^ 31) : zix (zmem x y E) 20 a (nI j) = true := by
  unfold zix
  rw [eY_al h.1, zmem_k, h.2.1, nI_clamp (by omega), decide_eq_true rfl, decide_eq_true (nI_pos' (by omega)), decide_eq_true hj]
  rfl
theorem vI.is {a n j : Nat} {g : Nat → Int32} (h : vI E a n g) (hj : j < n ∧ n < 2147483648) : zias (zmem x y E) a (nI j) = True := eq_true (Or.inl (h.ix hj.1 hj.2))
theorem vI.ia {a n j : Nat} {g : Nat → Int32} (h : vI E a n g) (hj : j < n ∧ n < 2147483648) : zia (zmem x y E) 20 a (nI j) = True := eq_true (h.ix hj.1 hj.2)
theorem vI.rd {a n j : Nat} {g : Nat → Int32} (h : vI E a n g) (hj : j < n) : zrd (zmem x y E) a j = .int (g j) := (zmem_ry h.1).trans (h.2.2 j hj)
theorem vI.ln {a n : Nat} {g : Nat → Int32} (h : vI E a n g) : zlen' (zmem x y E) a = n := by
  unfold zlen'
  rw [zmem_k, h.2.1]
theorem vI.ar {a n : Nat} {g : Nat → Int32} (h : vI E a n g) : zarr (zmem x y E) a = True := by
  refine eq_true (Or.inl ⟨eY_al h.1, Or.inl ?_⟩)
  rw [zmem_k, h.2.1]
theorem vR.ia {a k n j : Nat} {g : Nat → Nat} (h : vR E a k n g) (hj : j < n ∧ n < 2147483648 ∧ (k = 40 ∨ k = 41 ∨ k = 42)) : ziar (zmem x y E) a (nI j) = True := by
  refine eq_true ?_
  unfold ziar zix
  rw [eY_al h.1, zmem_k, h.2.1, nI_clamp (by omega), decide_eq_true rfl, decide_eq_true (nI_pos' (by omega)), decide_eq_true hj.1]
  refine ⟨?_, rfl⟩
  rcases hj.2.2 with e | e | e <;> subst e <;> rfl
theorem vR.rd {a k n j : Nat} {g : Nat → Nat} (h : vR E a k n g) (hj : j < n) : zrd (zmem x y E) a j = .ref (g j) := (zmem_ry h.1).trans (h.2.2 j hj)
theorem vR.ln {a k n : Nat} {g : Nat → Nat} (h : vR E a k n g) : zlen' (zmem x y E) a = n := by
  unfold zlen'
  rw [zmem_k, h.2.1]
theorem vR.ar {a k n : Nat} {g : Nat → Nat} (h : vR E a k n g) (hk : k = 40 ∨ k = 41 ∨ k = 42) : zarr (zmem x y E) a = True := by
  refine eq_true (Or.inl ⟨eY_al h.1, Or.inr (Or.inr ?_)⟩)
  rw [zmem_k, h.2.1]
  rcases hk with e | e | e <;> subst e <;> rfl
end ZV
/-! the other way of changes: what they leave -/
theorem eN_k {E : zEx} {q : Nat × Nat} {f : Nat → Value} {a : Nat} (h : eY E a) : eK (eN E q f) a = eK E a := by
  unfold eK
  split
  · rfl
  · show (if a = 476 + E.1 + 1 then q else E.2.1 a) = _
    rw [if_neg]
    have := h.2.1
    omega
theorem eN_y {E : zEx} {q : Nat × Nat} {f : Nat → Value} {a : Nat} (h : eY E a) : eY (eN E q f) a := ⟨h.1, Nat.le_trans h.2.1 (by show 476 + E.1 ≤ 476 + (E.1 + 1); omega), h.2.2⟩
theorem eN_c {E : zEx} {q : Nat × Nat} {f : Nat → Value} {a j : Nat} (h : eY E a) : (eN E q f).2.2.1 a j = E.2.2.1 a j := by
  show (if a = 476 + E.1 + 1 then f j else E.2.2.1 a j) = _
  rw [if_neg]
  have := h.2.1
  omega
theorem vI.new {E : zEx} {q : Nat × Nat} {f : Nat → Value} {a n : Nat} {g : Nat → Int32} (h : vI E a n g) : vI (eN E q f) a n g := ⟨eN_y h.1, (eN_k h.1).trans h.2.1, fun j hj => (eN_c h.1).trans (h.2.2 j hj)⟩
theorem vR.new {E : zEx} {q : Nat × Nat} {f : Nat → Value} {a k n : Nat} {g : Nat → Nat} (h : vR E a k n g) : vR (eN E q f) a k n g := ⟨eN_y h.1, (eN_k h.1).trans h.2.1, fun j hj => (eN_c h.1).trans (h.2.2 j hj)⟩
theorem vS.new {E : zEx} {q : Nat × Nat} {f : Nat → Value} {L : Nat} {xs : Nat → Int32} (h : vS E L xs) : vS (eN E q f) L xs := by
  refine ⟨?_, h.2.1, fun j hj => ?_⟩
  · show (if 0 = 476 + E.1 + 1 then q else E.2.1 0) = _
    rw [if_neg (by omega)]; exact h.1
  · show (if 0 = 476 + E.1 + 1 then f j else E.2.2.1 0 j) = _
    rw [if_neg (by omega)]; exact h.2.2 j hj
/-- the new one -/
theorem eN_ny (E : zEx) (q : Nat × Nat) (f : Nat → Value) : eY (eN E q f) (476 + E.1 + 1) := ⟨by omega, by show _ ≤ 476 + (E.1 + 1); omega, fun h => by omega⟩
theorem eN_nk (E : zEx) (q : Nat × Nat) (f : Nat → Value) : eK (eN E q f) (476 + E.1 + 1) = q := by
  unfold eK
  rw [if_neg (by omega)]
  exact if_pos rfl
theorem eN_nc (E : zEx) (q : Nat × Nat) (f : Nat → Value) (j : Nat) : (eN E q f).2.2.1 (476 + E.1 + 1) j = f j := if_pos rfl
theorem eR_id {E : zEx} {c p i v : Nat} : eK (eR E c p i v) = eK E ∧ eY (eR E c p i v) = eY E ∧ (eR E c p i v).2.2.1 = E.2.2.1 := ⟨rfl, rfl, rfl⟩
theorem vI.refs {E : zEx} {c p i v a n : Nat} {g : Nat → Int32} (h : vI E a n g) : vI (eR E c p i v) a n g := h
theorem vR.refs {E : zEx} {c p i v a k n : Nat} {g : Nat → Nat} (h : vR E a k n g) : vR (eR E c p i v) a k n g := h
theorem vS.refs {E : zEx} {c p i v L : Nat} {xs : Nat → Int32} (h : vS E L xs) : vS (eR E c p i v) L xs := h
theorem vI.put {E : zEx} {b j a n : Nat} {v : Value} {g : Nat → Int32} (h : vI E a n g) (hne : ¬ a = b) : vI (eP E b j v) a n g := ⟨h.1, h.2.1, fun i hi => (if_neg (fun e => hne e.1)).trans (h.2.2 i hi)⟩
theorem vR.put {E : zEx} {b j a k n : Nat} {v : Value} {g : Nat → Nat} (h : vR E a k n g) (hne : ¬ a = b) : vR (eP E b j v) a k n g := ⟨h.1, h.2.1, fun i hi => (if_neg (fun e => hne e.1)).trans (h.2.2 i hi)⟩
theorem vI.puti {E : zEx} {j a n : Nat} {v : Int32} {g : Nat → Int32} (h : vI E a n g) : vI (eP E a j (.int v)) a n (fun i => if i = j then v else g i) := ⟨h.1, h.2.1, fun i hi => by
  show (if a = a ∧ i = j then Value.int v else E.2.2.1 a i) = Value.int (if i = j then v else g i)
  by_cases e : i = j
  · rw [if_pos ⟨rfl, e⟩, if_pos e]
  · rw [if_neg (fun z => e z.2), if_neg e]; exact h.2.2 i hi⟩
theorem vR.putr {E : zEx} {j a k n : Nat} {v : Nat} {g : Nat → Nat} (h : vR E a k n g) : vR (eP E a j (.ref v)) a k n (fun i => if i = j then v else g i) := ⟨h.1, h.2.1, fun i hi => by
  show (if a = a ∧ i = j then Value.ref v else E.2.2.1 a i) = _
  show _ = Value.ref (if i = j then v else g i)
  by_cases e : i = j
  · rw [if_pos ⟨rfl, e⟩, if_pos e]
  · rw [if_neg (fun z => e z.2), if_neg e]; exact h.2.2 i hi⟩
theorem vS.put {E : zEx} {b j L : Nat} {v : Value} {xs : Nat → Int32} (h : vS E L xs) (hb : ¬ b = 0) : vS (eP E b j v) L xs := ⟨h.1, h.2.1, fun i hi => (if_neg (fun e => hb e.1.symm)).trans (h.2.2 i hi)⟩
section ZV
variable {E : zEx} {x y : zSt} {Q : zO → zM → Prop} {M : zM}
theorem zmem_nin {a j : Nat} (h : ¬ zin a j) : zrd (zmem x y E) a j = E.2.2.1 a j := if_neg h
theorem zand_pos (v : Int32) : ∃ j, j < 2147483648 ∧ v &&& nI 2147483647 = nI j := by
  have h : ¬ (v &&& nI 2147483647) < 0 := by
    rw [Int32.lt_iff_toInt_lt]
    have h1 : (v &&& nI 2147483647).toBitVec.msb = false := by
      rw [Int32.toBitVec_and, BitVec.msb_and]
      have : (nI 2147483647).toBitVec.msb = false := by decide
      rw [this, Bool.and_false]
    have h2 : 0 ≤ (v &&& nI 2147483647).toBitVec.toInt := BitVec.toInt_nonneg_of_msb_false h1
    have h3 : (v &&& nI 2147483647).toInt = (v &&& nI 2147483647).toBitVec.toInt := rfl
    have h4 : (0 : Int32).toInt = 0 := rfl
    omega
  obtain ⟨j, hj, e⟩ := nI_of h
  exact ⟨j, hj, e⟩
theorem c142 {v : Int32} {n : Nat} (h0 : 0 < n) (hn : n < 1000) : ∃ d, d < n ∧ ∀ (M : zM) (Q : zO → zM → Prop), zcl 142 [.int v, .int (nI n)] M Q ↔ Q (.inl (some (.int (nI d)))) M := by
  obtain ⟨j, hj, e⟩ := zand_pos v
  refine ⟨j % n, Nat.mod_lt _ h0, fun M Q => ?_⟩
  have hn0 : ¬ nI n = 0 := nI_ne0 h0 (by omega)
  rw [e142]
  simp (disch := omega) only [p142_0, p142_1, p142_3, p142_4, p142_5, p142_6, e, hn0, zvi_int, zvl_long, zvd_double, zvr_ref, zisI_int, zisR_ref, zgI_int, zgR_ref, zkl_int, zkl_ref, zkl_none, zkl_long, zkl_double, zct_nil, zct_int, zct_ref, zct_long, zct_double, zbk_some, zbk_none, zbk_exc, nI_clamp, nI_add, nI_mul, true_and, and_true, Nat.reduceAdd, Nat.reduceMul, Nat.reduceLeDiff, Nat.reducePow, ↓reduceIte, Nat.zero_add, Nat.add_zero, Nat.reduceLT, Nat.reduceEqDiff, Nat.le_refl, zn10, zn01, zfitB0, zfitB1, znarB0, znarB1, Nat.lt_irrefl, ↓zvi_eq, ↓zvr_eq, pk_rem hj h0 (show n < 2 ^ 31 by omega), not_false_eq_true]
theorem c143 {L : Nat} {xs : Nat → Int32} {k : Nat} (h : vS E L xs) (hk : k < 1000) : ∃ v, ∀ (x y : zSt) (Q : zO → zM → Prop), zcl 143 [.ref 0, .int (nI k)] (zmem x y E) Q ↔ Q (.inl (some (.int v))) (zmem x y E) := by
  obtain ⟨h1, h2, h3⟩ := h
  have ar : ∀ x y, zarr (zmem x y E) 0 = True := fun x y => eq_true (Or.inr ⟨rfl, by show (E.2.1 0).1 = 50; rw [h1]⟩)
  have ln : ∀ x y, zlen' (zmem x y E) 0 = L := fun x y => by show (E.2.1 0).2 = L; rw [h1]
  by_cases hkl : k < L
  · have is : ∀ x y, zias (zmem x y E) 0 (nI k) = True := fun x y => eq_true (Or.inr (by
      unfold zixS
      rw [decide_eq_true rfl, show (zmem x y E).2.1 0 = (50, L) from h1, nI_clamp (by omega), decide_eq_true (nI_pos' (by omega)), decide_eq_true hkl]
      rfl))
    have rd : ∀ x y, zrd (zmem x y E) 0 k = .int (xs k) := fun x y => by
      exact (zmem_nin (fun z => absurd z.1 (by decide))).trans (h3 k hkl)
    refine ⟨xs k, fun x y Q => ?_⟩
    rw [e143]
    simp (disch := omega) only [p143_0, p143_1, p143_2, p143_3, p143_6, p143_7, p143_8, p143_9, p143_12, p143_14, p143_15, p143_16, p143_17, p143_18, ar, ln, is, rd, nI_ltI, hkl, zvi_int, zvl_long, zvd_double, zvr_ref, zisI_int, zisR_ref, zgI_int, zgR_ref, zkl_int, zkl_ref, zkl_none, zkl_long, zkl_double, zct_nil, zct_int, zct_ref, zct_long, zct_double, zbk_some, zbk_none, zbk_exc, nI_clamp, nI_add, nI_mul, true_and, and_true, Nat.reduceAdd, Nat.reduceMul, Nat.reduceLeDiff, Nat.reducePow, ↓reduceIte, Nat.zero_add, Nat.add_zero, Nat.reduceLT, Nat.reduceEqDiff, Nat.le_refl, zn10, zn01, zfitB0, zfitB1, znarB0, znarB1, Nat.lt_irrefl, ↓zvi_eq, ↓zvr_eq]
  · refine ⟨nI 790386105 * nI (k + 3), fun x y Q => ?_⟩
    rw [e143]
    simp (disch := omega) only [p143_0, p143_1, p143_2, p143_3, p143_6, p143_7, p143_8, p143_9, p143_12, p143_14, p143_15, p143_17, p143_18, ar, ln, nI_ltI, hkl, zvi_int, zvl_long, zvd_double, zvr_ref, zisI_int, zisR_ref, zgI_int, zgR_ref, zkl_int, zkl_ref, zkl_none, zkl_long, zkl_double, zct_nil, zct_int, zct_ref, zct_long, zct_double, zbk_some, zbk_none, zbk_exc, nI_clamp, nI_add, nI_mul, true_and, and_true, Nat.reduceAdd, Nat.reduceMul, Nat.reduceLeDiff, Nat.reducePow, ↓reduceIte, Nat.zero_add, Nat.add_zero, Nat.reduceLT, Nat.reduceEqDiff, Nat.le_refl, zn10, zn01, zfitB0, zfitB1, znarB0, znarB1, Nat.lt_irrefl, ↓zvi_eq, ↓zvr_eq, p143_16, nI_add]
theorem c115 {L dr n : Nat} {xs : Nat → Int32} (h : vS E L xs) (hd : dr < 10000000) (h0 : 0 < n) (hn : n < 1000) : ∃ d, d < n ∧ ∀ (x y : zSt) (Q : zO → zM → Prop), y 2 0 0 = nI dr → (zcl 115 [.ref 1, .int (nI n)] (zmem x y E) Q ↔ Q (.inl (some (.int (nI d)))) (zmem x (su y 2 (u2 (y 2) 0 0 (nI (dr + 1)))) E)) := by
  obtain ⟨v, hv⟩ := c143 (k := dr % 24) h (by have := Nat.mod_lt dr (show 0 < 24 by omega); omega)
  obtain ⟨d, hdn, hd'⟩ := c142 (v := (v >>> (nI (dr / 24 % 8) &&& 31)) + nI (137 * dr)) h0 hn
  refine ⟨d, hdn, fun x y Q hy => ?_⟩
  have h24 : ¬ nI 24 = 0 := by decide
  have h8 : ¬ nI 8 = 0 := by decide
  have e2 := pk_div (a := dr) (d := 24) (by omega) (by omega) (by omega)
  have e4 := pk_div (a := dr / 24) (d := 8) (by omega) (by omega) (by omega)
  have e1 : nI dr - nI (dr / 24 * 24) = nI (dr % 24) := by
    rw [← nI_mul, ← e2]; exact pk_rem (a := dr) (d := 24) (by omega) (by omega) (by omega)
  have e3 : nI (dr / 24) - nI (dr / 24 / 8 * 8) = nI (dr / 24 % 8) := by
    rw [← nI_mul, ← e4]; exact pk_rem (a := dr / 24) (d := 8) (by omega) (by omega) (by omega)
  rw [e115]
  simp (disch := omega) only [p115_0, p115_1, p115_4, p115_5, p115_8, p115_10, p115_11, p115_14, p115_15, p115_18, p115_20, p115_21, p115_23, p115_24, p115_25, p115_28, p115_29, p115_32, p115_33, p115_34, p115_35, p115_38, p115_39, p115_40, p115_40i, p115_41, p115_44, p115_45, p115_46, p115_49, p115_50, hy, h24, h8, l_po_ok, l_po_0, l_po_1, l_po_2, l_po_2p, l_po_3, l_po_3p, l_po_4, l_po_4p, l_po_5, l_po_5p, l_po_6, l_po_6p, l_po_7, l_po_8, l_po_9, l_po_10, l_po_11, l_po_12, l_po_13, l_po_13p, l_po_14, l_po_15, l_po_16, l_po_17, l_po_17p, l_pa_ar, l_pa_ln, l_pa_ia, l_pa_e, l_pa_ep, l_pa_e3, l_aga_ar, l_aga_ln, l_aga_ia, l_aga_e, l_ag_ar, l_ag_ln, l_ag_ia, l_ag_is, l_ag_e, l_ag_ep, l_nxa_ar, l_nxa_ln, l_nxa_ia, l_nxa_e, l_nx_ar, l_nx_ln, l_nx_ia, l_nx_is, l_nx_e, l_nx_ep, l_qt_ar, l_qt_ln, l_qt_ia, l_qt_is, l_qt_e, l_qt_ep, l_bn_ar, l_bn_ln, l_bn_ia, l_bn_is, l_bn_e, l_bn_ep, l_rl_ar, l_rl_ln, l_rl_ia, l_rl_e, l_rl_ep, l_rl_e3, l_bxo_ar, l_bxo_ln, l_bxo_ia, l_bxo_e, l_bxi_ar, l_bxi_ln, l_bxi_ia, l_bxi_e, l_bxi_ep, l_bxi_e3, l_gta_ar, l_gta_ln, l_gta_ia, l_gta_e, l_gt_ar, l_gt_ln, l_gt_ia, l_gt_e, l_gt_ep, zvi_int, zvl_long, zvd_double, zvr_ref, zisI_int, zisR_ref, zgI_int, zgR_ref, zkl_int, zkl_ref, zkl_none, zkl_long, zkl_double, zct_nil, zct_int, zct_ref, zct_long, zct_double, zbk_some, zbk_none, zbk_exc, nI_clamp, nI_add, nI_mul, true_and, and_true, Nat.reduceAdd, Nat.reduceMul, Nat.reduceLeDiff, Nat.reducePow, ↓reduceIte, Nat.zero_add, Nat.add_zero, Nat.reduceLT, Nat.reduceEqDiff, Nat.le_refl, zn10, zn01, zfitB0, zfitB1, znarB0, znarB1, Nat.lt_irrefl, ↓zvi_eq, ↓zvr_eq, hv, hd', e1, e2, e3, e4, not_false_eq_true]
end ZV
