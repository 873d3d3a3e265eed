/-! the boxes' lists: how full, where a copy lies, any copy (source: wip/p35/src/263.bx.txt, by expand3.py) -/
/-- the lists of k folders from f on, as one -/
def flr (b : Nat → List Nat) : Nat → Nat → List Nat
  | 0, _ => []
  | k + 1, f => b f ++ flr b k (f + 1)
theorem flr_mem {b : Nat → List Nat} {i : Nat} : ∀ (k f : Nat), i ∈ flr b k f ↔ ∃ g, f ≤ g ∧ g < f + k ∧ i ∈ b g
  | 0, f => ⟨fun h => (by cases h), fun ⟨g, h1, h2, _⟩ => (by omega)⟩
  | k + 1, f => by
    show i ∈ b f ++ flr b k (f + 1) ↔ _
    rw [List.mem_append, flr_mem k (f + 1)]
    constructor
    · rintro (h | ⟨g, h1, h2, h3⟩)
      · exact ⟨f, by omega, by omega, h⟩
      · exact ⟨g, by omega, by omega, h3⟩
    · rintro ⟨g, h1, h2, h3⟩
      by_cases e : g = f
      · subst e; exact Or.inl h3
      · exact Or.inr ⟨g, by omega, by omega, h3⟩
theorem flr_nodup {b : Nat → List Nat} {N : Nat} (h1 : ∀ f, f < N → (b f).Nodup) (h2 : ∀ f g i, f < N → g < N → i ∈ b f → i ∈ b g → f = g) : ∀ (k f : Nat), f + k ≤ N → (flr b k f).Nodup
  | 0, _, _ => List.nodup_nil
  | k + 1, f, h => by
    show (b f ++ flr b k (f + 1)).Nodup
    rw [List.nodup_append]
    refine ⟨h1 f (by omega), flr_nodup h1 h2 k (f + 1) (by omega), fun a ha c hc e => ?_⟩
    subst e
    obtain ⟨g, g1, g2, g3⟩ := (flr_mem k (f + 1)).mp hc
    have := h2 f g a (by omega) (by omega) ha g3
    omega
theorem drop_cons {l : List Nat} {j : Nat} (h : j < l.length) : l.drop j = l.getD j 0 :: l.drop (j + 1) := by
  rw [List.drop_eq_getElem_cons h, List.getD_eq_getElem?_getD, List.getElem?_eq_getElem h]
  rfl
theorem getD_mem {l : List Nat} {j : Nat} (h : j < l.length) : l.getD j 0 ∈ l := by
  rw [List.getD_eq_getElem?_getD, List.getElem?_eq_getElem h]
  exact List.getElem_mem h
section ZB
variable {E : zEx} {x y : zSt} {G : pG} {bl : Nat → Nat → List Nat} {fc nr : Nat → Nat} {n L p : Nat} {xs : Nat → Int32}
theorem BL.nodup (hB : BL bl n y) {f : Nat} (hp : p < 4) (hf : f < 8) : (bl p f).Nodup := (hB p f hp hf).2.imp (fun {a b} h e => by
  subst e
  exact Int32.lt_irrefl h)
theorem BL.perm (hB : BL bl n y) {f : Nat} (hp : p < 4) (hf : f < 8) : (bl p f).Perm ((List.range n).filter (fun i => decide (y 25 p i = nI f))) := by
  rw [List.perm_ext_iff_of_nodup (hB.nodup hp hf) (List.nodup_range.filter _)]
  intro i
  rw [(hB p f hp hf).1 i, List.mem_filter, List.mem_range, decide_eq_true_eq]
theorem BL.len (hB : BL bl n y) {f : Nat} (hp : p < 4) (hf : f < 8) : (bl p f).length ≤ n := by
  rw [(hB.perm hp hf).length_eq]
  exact Nat.le_trans (List.length_filter_le _ _) (by rw [List.length_range]; exact Nat.le_refl _)
theorem BL.one (hB : BL bl n y) {f g i : Nat} (hp : p < 4) (hf : f < 8) (hg : g < 8) (h1 : i ∈ bl p f) (h2 : i ∈ bl p g) : f = g := by
  have e1 := ((hB p f hp hf).1 i).mp h1
  have e2 := ((hB p g hp hg).1 i).mp h2
  exact (nI_eq (by omega) (by omega)).mp (e1.2.symm.trans e2.2)
theorem BL.all (hB : BL bl n y) (hp : p < 4) (hK : ∀ i, i < n → y 25 p i = -1 ∨ ∃ f, f < 8 ∧ y 25 p i = nI f) : (flr (bl p) 8 0).Perm ((List.range n).filter (fun i => !decide (y 25 p i = -1))) := by
  rw [List.perm_ext_iff_of_nodup (flr_nodup (N := 8) (fun f hf => hB.nodup hp hf) (fun f g i hf hg h1 h2 => hB.one hp hf hg h1 h2) 8 0 (by omega)) (List.nodup_range.filter _)]
  intro i
  rw [flr_mem, List.mem_filter, List.mem_range, Bool.not_eq_true', decide_eq_false_iff_not]
  constructor
  · rintro ⟨g, _, h2, h3⟩
    have := ((hB p g hp (by omega)).1 i).mp h3
    exact ⟨this.1, by rw [this.2]; exact nI_m1 (by omega)⟩
  · rintro ⟨h1, h2⟩
    rcases hK i h1 with e | ⟨f, hf, e⟩
    · exact absurd e h2
    · exact ⟨f, by omega, by omega, ((hB p f hp hf).1 i).mpr ⟨h1, e⟩⟩
/-- a sum over the row as a sum over the list -/
theorem sSz_fold {sh sz : Nat → Int32} : ∀ (n : Nat) (a : Int32), zfo (fun i a => if sh i = -1 then a else a + sz i) n a = ((List.range n).filter (fun i => !decide (sh i = -1))).foldl (fun s i => s + sz i) a
  | 0, _ => rfl
  | n + 1, a => by
    show (if sh n = -1 then zfo (fun i a => if sh i = -1 then a else a + sz i) n a else zfo (fun i a => if sh i = -1 then a else a + sz i) n a + sz n) = _
    rw [List.range_succ, List.filter_append, List.foldl_append, ← sSz_fold n a]
    by_cases e : sh n = -1
    · rw [if_pos e]
      simp [e]
    · rw [if_neg e]
      simp [e]
theorem BL.sum (hB : BL bl n y) (hp : p < 4) (hK : ∀ i, i < n → y 25 p i = -1 ∨ ∃ f, f < 8 ∧ y 25 p i = nI f) (sz : Nat → Int32) : (flr (bl p) 8 0).foldl (fun s i => s + sz i) (nI 0) = sSz (y 25 p) sz n := by
  unfold sSz
  rw [sSz_fold]
  exact (hB.all hp hK).foldl_eq' (fun a _ b _ z => by rw [Int32.add_assoc, Int32.add_assoc, Int32.add_comm (sz a)]) _
/-- the row of a folder -/
theorem PS.row (hP : PS E y G bl fc nr n L xs) {f : Nat} (hp : p < 4) (hf : f < 8) : vR E (E.2.2.2 3 p f) 40 (bl p f).length (fun k => G.2.1 p ((bl p f).getD k 0)) := (hP.1 p f hp hf).1
theorem PS.cop (hP : PS E y G bl fc nr n L xs) {f i : Nat} (hp : p < 4) (hf : f < 8) (hi : i ∈ bl p f) : i < 26 ∧ vI E (G.2.1 p i) 5 (rw5 y p i) := ⟨((hP.1 p f hp hf).2.2 i hi).1, ((hP.1 p f hp hf).2.2 i hi).2.1⟩
theorem c128 (hP : PS E y G bl fc nr n L xs) (hB : BL bl n y) (hn : n < 26) (hp : p < 4) : ∀ (x Y : zSt) (Q : zO → zM → Prop), zcl 128 [.ref 1, .int (nI p)] (zmem x Y E) Q ↔ Q (.inl (some (.int ((flr (bl p) 8 0).foldl (fun s i => s + y 33 0 i) (nI 0))))) (zmem x Y E) := by
  intro x Y Q
  obtain ⟨s1, s2, s3, s4⟩ := hP.2.2.2.1
  have inner : ∀ (f : Nat), f < 8 → ∀ (R : Int32 → Prop), (∀ a v10, zkl v10 = v10 → (zwp zm_128 (75, [some (.ref 1), some (.int (nI p)), some (.int a), some (.ref (434 + 9 * p)), some (.int (nI 8)), some (.int (nI f)), some (.ref (E.2.2.2 3 p f)), some (.ref (E.2.2.2 3 p f)), some (.int (nI (bl p f).length)), some (.int (nI (bl p f).length)), v10], [], zmem x Y E, 0, 0) Q ↔ R a)) → ∀ (m j : Nat), j + m = (bl p f).length → ∀ a v10, zkl v10 = v10 → (zwp zm_128 (41, [some (.ref 1), some (.int (nI p)), some (.int a), some (.ref (434 + 9 * p)), some (.int (nI 8)), some (.int (nI f)), some (.ref (E.2.2.2 3 p f)), some (.ref (E.2.2.2 3 p f)), some (.int (nI (bl p f).length)), some (.int (nI j)), v10], [], zmem x Y E, 0, 0) Q ↔ R (((bl p f).drop j).foldl (fun s i => s + y 33 0 i) a)) := by
    intro f hf R hR m
    have hlen := hB.len hp hf
    have hr := hP.row hp hf
    induction m with
    | zero =>
      intro j hj a v10 hv
      have ej : j = (bl p f).length := by omega
      subst ej
      rw [p128_41]
      simp (disch := omega) only [p128_0, p128_1, p128_2, p128_3, p128_6, p128_7, p128_8, p128_9, p128_10, p128_11, p128_13, p128_14, p128_16, p128_18, p128_20, p128_23, p128_24, p128_26, p128_27, p128_29, p128_31, p128_33, p128_35, p128_36, p128_38, p128_39, p128_43, p128_45, p128_48, p128_50, p128_52, p128_53, p128_55, p128_56, p128_57, p128_60, p128_62, p128_63, p128_64, p128_65, p128_66, p128_67, p128_68, p128_69, p128_72, p128_78, p128_81, p128_82, nI_ltI, Nat.lt_irrefl, l_po_ok, l_po_0, l_po_1, l_po_2, l_po_2p, l_po_3, l_po_3p, l_po_4, l_po_4p, l_po_5, l_po_5p, l_po_6, l_po_6p, l_po_7, l_po_8, l_po_9, l_po_10, l_po_11, l_po_12, l_po_13, l_po_13p, l_po_14, l_po_15, l_po_16, l_po_17, l_po_17p, l_pa_ar, l_pa_ln, l_pa_ia, l_pa_e, l_pa_ep, l_pa_e3, l_aga_ar, l_aga_ln, l_aga_ia, l_aga_e, l_ag_ar, l_ag_ln, l_ag_ia, l_ag_is, l_ag_e, l_ag_ep, l_nxa_ar, l_nxa_ln, l_nxa_ia, l_nxa_e, l_nx_ar, l_nx_ln, l_nx_ia, l_nx_is, l_nx_e, l_nx_ep, l_qt_ar, l_qt_ln, l_qt_ia, l_qt_is, l_qt_e, l_qt_ep, l_bn_ar, l_bn_ln, l_bn_ia, l_bn_is, l_bn_e, l_bn_ep, l_rl_ar, l_rl_ln, l_rl_ia, l_rl_e, l_rl_ep, l_rl_e3, l_bxo_ar, l_bxo_ln, l_bxo_ia, l_bxo_e, l_bxi_ar, l_bxi_ln, l_bxi_ia, l_bxi_e, l_bxi_ep, l_bxi_e3, l_gta_ar, l_gta_ln, l_gta_ia, l_gta_e, l_gt_ar, l_gt_ln, l_gt_ia, l_gt_e, l_gt_ep, zvi_int, zvl_long, zvd_double, zvr_ref, zisI_int, zisR_ref, zgI_int, zgR_ref, zkl_int, zkl_ref, zkl_none, zkl_long, zkl_double, zct_nil, zct_int, zct_ref, zct_long, zct_double, zbk_some, zbk_none, zbk_exc, nI_clamp, nI_add, nI_mul, true_and, and_true, Nat.reduceAdd, Nat.reduceMul, Nat.reduceLeDiff, Nat.reducePow, ↓reduceIte, Nat.zero_add, Nat.add_zero, Nat.reduceLT, Nat.reduceEqDiff, Nat.le_refl, zn10, zn01, zfitB0, zfitB1, znarB0, znarB1, Nat.lt_irrefl, ↓zvi_eq, ↓zvr_eq]
      rw [hR a v10 hv, List.drop_length]
      rfl
    | succ m ih =>
      intro j hj a v10 hv
      have hjl : j < (bl p f).length := by omega
      obtain ⟨hi, hrow⟩ := hP.cop hp hf (getD_mem hjl)
      have hin := (((hB p f hp hf).1 _).mp (getD_mem hjl)).1
      rw [drop_cons hjl, List.foldl_cons]
      rw [p128_41]
      have i1 := hr.ia (x := x) (y := Y) (j := j) (by omega)
      have r1 := hr.rd (x := x) (y := Y) (j := j) hjl
      have i2 := hrow.is (x := x) (y := Y) (j := 0) (by omega)
      have r2 := hrow.rd (x := x) (y := Y) (j := 0) (by omega)
      have i3 := s1.ia (x := x) (y := Y) (j := (bl p f).getD j 0) (by omega)
      have r3 := s1.rd (x := x) (y := Y) (j := (bl p f).getD j 0) hin
      have i4 := (s4 _ hin).1.is (x := x) (y := Y) (j := 4) (by omega)
      have r4 := (s4 _ hin).1.rd (x := x) (y := Y) (j := 4) (by omega)
      have e2 : rw5 y p ((bl p f).getD j 0) 0 = nI ((bl p f).getD j 0) := rfl
      have e4 : rw7 y ((bl p f).getD j 0) 4 = y 33 0 ((bl p f).getD j 0) := rfl
      rw [e2] at r2
      rw [e4] at r4
      simp (disch := omega) only [p128_0, p128_1, p128_2, p128_3, p128_6, p128_7, p128_8, p128_9, p128_10, p128_11, p128_13, p128_14, p128_16, p128_18, p128_20, p128_23, p128_24, p128_26, p128_27, p128_29, p128_31, p128_33, p128_35, p128_36, p128_38, p128_39, p128_43, p128_45, p128_48, p128_50, p128_52, p128_53, p128_55, p128_56, p128_57, p128_60, p128_62, p128_63, p128_64, p128_65, p128_66, p128_67, p128_68, p128_69, p128_72, p128_75, p128_78, p128_81, p128_82, nI_ltI, hjl, i1, r1, i2, r2, i3, r3, i4, r4, hv, l_po_ok, l_po_0, l_po_1, l_po_2, l_po_2p, l_po_3, l_po_3p, l_po_4, l_po_4p, l_po_5, l_po_5p, l_po_6, l_po_6p, l_po_7, l_po_8, l_po_9, l_po_10, l_po_11, l_po_12, l_po_13, l_po_13p, l_po_14, l_po_15, l_po_16, l_po_17, l_po_17p, l_pa_ar, l_pa_ln, l_pa_ia, l_pa_e, l_pa_ep, l_pa_e3, l_aga_ar, l_aga_ln, l_aga_ia, l_aga_e, l_ag_ar, l_ag_ln, l_ag_ia, l_ag_is, l_ag_e, l_ag_ep, l_nxa_ar, l_nxa_ln, l_nxa_ia, l_nxa_e, l_nx_ar, l_nx_ln, l_nx_ia, l_nx_is, l_nx_e, l_nx_ep, l_qt_ar, l_qt_ln, l_qt_ia, l_qt_is, l_qt_e, l_qt_ep, l_bn_ar, l_bn_ln, l_bn_ia, l_bn_is, l_bn_e, l_bn_ep, l_rl_ar, l_rl_ln, l_rl_ia, l_rl_e, l_rl_ep, l_rl_e3, l_bxo_ar, l_bxo_ln, l_bxo_ia, l_bxo_e, l_bxi_ar, l_bxi_ln, l_bxi_ia, l_bxi_e, l_bxi_ep, l_bxi_e3, l_gta_ar, l_gta_ln, l_gta_ia, l_gta_e, l_gt_ar, l_gt_ln, l_gt_ia, l_gt_e, l_gt_ep, zvi_int, zvl_long, zvd_double, zvr_ref, zisI_int, zisR_ref, zgI_int, zgR_ref, zkl_int, zkl_ref, zkl_none, zkl_long, zkl_double, zct_nil, zct_int, zct_ref, zct_long, zct_double, zbk_some, zbk_none, zbk_exc, nI_clamp, nI_add, nI_mul, true_and, and_true, Nat.reduceAdd, Nat.reduceMul, Nat.reduceLeDiff, Nat.reducePow, ↓reduceIte, Nat.zero_add, Nat.add_zero, Nat.reduceLT, Nat.reduceEqDiff, Nat.le_refl, zn10, zn01, zfitB0, zfitB1, znarB0, znarB1, Nat.lt_irrefl, ↓zvi_eq, ↓zvr_eq]
      rw [ih (j + 1) (by omega) _ _ rfl]
  have outer : ∀ (k f : Nat), f + k = 8 → ∀ (a : Int32) (v6 v7 v8 v9 v10 : Option Value), zkl v6 = v6 → zkl v7 = v7 → zkl v8 = v8 → zkl v9 = v9 → zkl v10 = v10 → (zwp zm_128 (16, [some (.ref 1), some (.int (nI p)), some (.int a), some (.ref (434 + 9 * p)), some (.int (nI 8)), some (.int (nI f)), v6, v7, v8, v9, v10], [], zmem x Y E, 0, 0) Q ↔ Q (.inl (some (.int ((flr (bl p) k f).foldl (fun s i => s + y 33 0 i) a)))) (zmem x Y E)) := by
    intro k
    induction k with
    | zero =>
      intro f hf a v6 v7 v8 v9 v10 h6 h7 h8 h9 h10
      have ef : f = 8 := by omega
      subst ef
      rw [p128_16]
      simp (disch := omega) only [p128_0, p128_1, p128_2, p128_3, p128_6, p128_7, p128_8, p128_9, p128_10, p128_11, p128_13, p128_14, p128_18, p128_20, p128_23, p128_24, p128_26, p128_27, p128_29, p128_31, p128_33, p128_35, p128_36, p128_38, p128_39, p128_41, p128_43, p128_45, p128_48, p128_50, p128_52, p128_53, p128_55, p128_56, p128_57, p128_60, p128_62, p128_63, p128_64, p128_65, p128_66, p128_67, p128_68, p128_69, p128_72, p128_75, p128_78, p128_81, p128_82, nI_ltI, Nat.lt_irrefl, l_po_ok, l_po_0, l_po_1, l_po_2, l_po_2p, l_po_3, l_po_3p, l_po_4, l_po_4p, l_po_5, l_po_5p, l_po_6, l_po_6p, l_po_7, l_po_8, l_po_9, l_po_10, l_po_11, l_po_12, l_po_13, l_po_13p, l_po_14, l_po_15, l_po_16, l_po_17, l_po_17p, l_pa_ar, l_pa_ln, l_pa_ia, l_pa_e, l_pa_ep, l_pa_e3, l_aga_ar, l_aga_ln, l_aga_ia, l_aga_e, l_ag_ar, l_ag_ln, l_ag_ia, l_ag_is, l_ag_e, l_ag_ep, l_nxa_ar, l_nxa_ln, l_nxa_ia, l_nxa_e, l_nx_ar, l_nx_ln, l_nx_ia, l_nx_is, l_nx_e, l_nx_ep, l_qt_ar, l_qt_ln, l_qt_ia, l_qt_is, l_qt_e, l_qt_ep, l_bn_ar, l_bn_ln, l_bn_ia, l_bn_is, l_bn_e, l_bn_ep, l_rl_ar, l_rl_ln, l_rl_ia, l_rl_e, l_rl_ep, l_rl_e3, l_bxo_ar, l_bxo_ln, l_bxo_ia, l_bxo_e, l_bxi_ar, l_bxi_ln, l_bxi_ia, l_bxi_e, l_bxi_ep, l_bxi_e3, l_gta_ar, l_gta_ln, l_gta_ia, l_gta_e, l_gt_ar, l_gt_ln, l_gt_ia, l_gt_e, l_gt_ep, zvi_int, zvl_long, zvd_double, zvr_ref, zisI_int, zisR_ref, zgI_int, zgR_ref, zkl_int, zkl_ref, zkl_none, zkl_long, zkl_double, zct_nil, zct_int, zct_ref, zct_long, zct_double, zbk_some, zbk_none, zbk_exc, nI_clamp, nI_add, nI_mul, true_and, and_true, Nat.reduceAdd, Nat.reduceMul, Nat.reduceLeDiff, Nat.reducePow, ↓reduceIte, Nat.zero_add, Nat.add_zero, Nat.reduceLT, Nat.reduceEqDiff, Nat.le_refl, zn10, zn01, zfitB0, zfitB1, znarB0, znarB1, Nat.lt_irrefl, ↓zvi_eq, ↓zvr_eq]
      rfl
    | succ k ih =>
      intro f hf a v6 v7 v8 v9 v10 h6 h7 h8 h9 h10
      have hf8 : f < 8 := by omega
      have hr := hP.row hp hf8
      have hln := hr.ln (x := x) (y := Y)
      have har := hr.ar (x := x) (y := Y) (Or.inl rfl)
      show _ ↔ Q (.inl (some (.int ((bl p f ++ flr (bl p) k (f + 1)).foldl (fun s i => s + y 33 0 i) a)))) (zmem x Y E)
      rw [List.foldl_append]
      have hin := inner f hf8 (fun a => Q (.inl (some (.int ((flr (bl p) k (f + 1)).foldl (fun s i => s + y 33 0 i) a)))) (zmem x Y E)) (fun a v10 hv => by
        rw [p128_75]
        simp (disch := omega) only [p128_0, p128_1, p128_2, p128_3, p128_6, p128_7, p128_8, p128_9, p128_10, p128_11, p128_13, p128_14, p128_18, p128_20, p128_23, p128_24, p128_26, p128_27, p128_29, p128_31, p128_33, p128_35, p128_36, p128_38, p128_39, p128_43, p128_45, p128_48, p128_50, p128_52, p128_53, p128_55, p128_56, p128_57, p128_60, p128_62, p128_63, p128_64, p128_65, p128_66, p128_67, p128_68, p128_69, p128_72, p128_78, p128_81, p128_82, l_po_ok, l_po_0, l_po_1, l_po_2, l_po_2p, l_po_3, l_po_3p, l_po_4, l_po_4p, l_po_5, l_po_5p, l_po_6, l_po_6p, l_po_7, l_po_8, l_po_9, l_po_10, l_po_11, l_po_12, l_po_13, l_po_13p, l_po_14, l_po_15, l_po_16, l_po_17, l_po_17p, l_pa_ar, l_pa_ln, l_pa_ia, l_pa_e, l_pa_ep, l_pa_e3, l_aga_ar, l_aga_ln, l_aga_ia, l_aga_e, l_ag_ar, l_ag_ln, l_ag_ia, l_ag_is, l_ag_e, l_ag_ep, l_nxa_ar, l_nxa_ln, l_nxa_ia, l_nxa_e, l_nx_ar, l_nx_ln, l_nx_ia, l_nx_is, l_nx_e, l_nx_ep, l_qt_ar, l_qt_ln, l_qt_ia, l_qt_is, l_qt_e, l_qt_ep, l_bn_ar, l_bn_ln, l_bn_ia, l_bn_is, l_bn_e, l_bn_ep, l_rl_ar, l_rl_ln, l_rl_ia, l_rl_e, l_rl_ep, l_rl_e3, l_bxo_ar, l_bxo_ln, l_bxo_ia, l_bxo_e, l_bxi_ar, l_bxi_ln, l_bxi_ia, l_bxi_e, l_bxi_ep, l_bxi_e3, l_gta_ar, l_gta_ln, l_gta_ia, l_gta_e, l_gt_ar, l_gt_ln, l_gt_ia, l_gt_e, l_gt_ep, zvi_int, zvl_long, zvd_double, zvr_ref, zisI_int, zisR_ref, zgI_int, zgR_ref, zkl_int, zkl_ref, zkl_none, zkl_long, zkl_double, zct_nil, zct_int, zct_ref, zct_long, zct_double, zbk_some, zbk_none, zbk_exc, nI_clamp, nI_add, nI_mul, true_and, and_true, Nat.reduceAdd, Nat.reduceMul, Nat.reduceLeDiff, Nat.reducePow, ↓reduceIte, Nat.zero_add, Nat.add_zero, Nat.reduceLT, Nat.reduceEqDiff, Nat.le_refl, zn10, zn01, zfitB0, zfitB1, znarB0, znarB1, Nat.lt_irrefl, ↓zvi_eq, ↓zvr_eq]
        exact ih (f + 1) (by omega) _ _ _ _ _ _ rfl rfl rfl rfl hv) (bl p f).length 0 (by omega)
      have hi2 := hin a v10 h10
      rw [List.drop_zero] at hi2
      rw [← hi2, p128_16]
      simp (disch := omega) only [p128_0, p128_1, p128_2, p128_3, p128_6, p128_7, p128_8, p128_9, p128_10, p128_11, p128_13, p128_14, p128_18, p128_20, p128_23, p128_24, p128_26, p128_27, p128_29, p128_31, p128_33, p128_35, p128_36, p128_38, p128_39, p128_43, p128_45, p128_48, p128_50, p128_52, p128_53, p128_55, p128_56, p128_57, p128_60, p128_62, p128_63, p128_64, p128_65, p128_66, p128_67, p128_68, p128_69, p128_72, p128_75, p128_78, p128_81, p128_82, nI_ltI, hf8, har, hln, h6, h7, h8, h9, h10, l_po_ok, l_po_0, l_po_1, l_po_2, l_po_2p, l_po_3, l_po_3p, l_po_4, l_po_4p, l_po_5, l_po_5p, l_po_6, l_po_6p, l_po_7, l_po_8, l_po_9, l_po_10, l_po_11, l_po_12, l_po_13, l_po_13p, l_po_14, l_po_15, l_po_16, l_po_17, l_po_17p, l_pa_ar, l_pa_ln, l_pa_ia, l_pa_e, l_pa_ep, l_pa_e3, l_aga_ar, l_aga_ln, l_aga_ia, l_aga_e, l_ag_ar, l_ag_ln, l_ag_ia, l_ag_is, l_ag_e, l_ag_ep, l_nxa_ar, l_nxa_ln, l_nxa_ia, l_nxa_e, l_nx_ar, l_nx_ln, l_nx_ia, l_nx_is, l_nx_e, l_nx_ep, l_qt_ar, l_qt_ln, l_qt_ia, l_qt_is, l_qt_e, l_qt_ep, l_bn_ar, l_bn_ln, l_bn_ia, l_bn_is, l_bn_e, l_bn_ep, l_rl_ar, l_rl_ln, l_rl_ia, l_rl_e, l_rl_ep, l_rl_e3, l_bxo_ar, l_bxo_ln, l_bxo_ia, l_bxo_e, l_bxi_ar, l_bxi_ln, l_bxi_ia, l_bxi_e, l_bxi_ep, l_bxi_e3, l_gta_ar, l_gta_ln, l_gta_ia, l_gta_e, l_gt_ar, l_gt_ln, l_gt_ia, l_gt_e, l_gt_ep, zvi_int, zvl_long, zvd_double, zvr_ref, zisI_int, zisR_ref, zgI_int, zgR_ref, zkl_int, zkl_ref, zkl_none, zkl_long, zkl_double, zct_nil, zct_int, zct_ref, zct_long, zct_double, zbk_some, zbk_none, zbk_exc, nI_clamp, nI_add, nI_mul, true_and, and_true, Nat.reduceAdd, Nat.reduceMul, Nat.reduceLeDiff, Nat.reducePow, ↓reduceIte, Nat.zero_add, Nat.add_zero, Nat.reduceLT, Nat.reduceEqDiff, Nat.le_refl, zn10, zn01, zfitB0, zfitB1, znarB0, znarB1, Nat.lt_irrefl, ↓zvi_eq, ↓zvr_eq]
  rw [e128]
  simp (disch := omega) only [p128_0, p128_1, p128_2, p128_3, p128_6, p128_7, p128_8, p128_9, p128_10, p128_11, p128_13, p128_14, p128_18, p128_20, p128_23, p128_24, p128_26, p128_27, p128_29, p128_31, p128_33, p128_35, p128_36, p128_38, p128_39, p128_41, p128_43, p128_45, p128_48, p128_50, p128_52, p128_53, p128_55, p128_56, p128_57, p128_60, p128_62, p128_63, p128_64, p128_65, p128_66, p128_67, p128_68, p128_69, p128_72, p128_75, p128_78, p128_81, p128_82, l_po_ok, l_po_0, l_po_1, l_po_2, l_po_2p, l_po_3, l_po_3p, l_po_4, l_po_4p, l_po_5, l_po_5p, l_po_6, l_po_6p, l_po_7, l_po_8, l_po_9, l_po_10, l_po_11, l_po_12, l_po_13, l_po_13p, l_po_14, l_po_15, l_po_16, l_po_17, l_po_17p, l_pa_ar, l_pa_ln, l_pa_ia, l_pa_e, l_pa_ep, l_pa_e3, l_aga_ar, l_aga_ln, l_aga_ia, l_aga_e, l_ag_ar, l_ag_ln, l_ag_ia, l_ag_is, l_ag_e, l_ag_ep, l_nxa_ar, l_nxa_ln, l_nxa_ia, l_nxa_e, l_nx_ar, l_nx_ln, l_nx_ia, l_nx_is, l_nx_e, l_nx_ep, l_qt_ar, l_qt_ln, l_qt_ia, l_qt_is, l_qt_e, l_qt_ep, l_bn_ar, l_bn_ln, l_bn_ia, l_bn_is, l_bn_e, l_bn_ep, l_rl_ar, l_rl_ln, l_rl_ia, l_rl_e, l_rl_ep, l_rl_e3, l_bxo_ar, l_bxo_ln, l_bxo_ia, l_bxo_e, l_bxi_ar, l_bxi_ln, l_bxi_ia, l_bxi_e, l_bxi_ep, l_bxi_e3, l_gta_ar, l_gta_ln, l_gta_ia, l_gta_e, l_gt_ar, l_gt_ln, l_gt_ia, l_gt_e, l_gt_ep, zvi_int, zvl_long, zvd_double, zvr_ref, zisI_int, zisR_ref, zgI_int, zgR_ref, zkl_int, zkl_ref, zkl_none, zkl_long, zkl_double, zct_nil, zct_int, zct_ref, zct_long, zct_double, zbk_some, zbk_none, zbk_exc, nI_clamp, nI_add, nI_mul, true_and, and_true, Nat.reduceAdd, Nat.reduceMul, Nat.reduceLeDiff, Nat.reducePow, ↓reduceIte, Nat.zero_add, Nat.add_zero, Nat.reduceLT, Nat.reduceEqDiff, Nat.le_refl, zn10, zn01, zfitB0, zfitB1, znarB0, znarB1, Nat.lt_irrefl, ↓zvi_eq, ↓zvr_eq]
  exact outer 8 0 (by omega) _ _ _ _ _ _ rfl rfl rfl rfl rfl
end ZB
