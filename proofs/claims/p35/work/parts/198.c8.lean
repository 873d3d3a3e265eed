/-! contracts of the class's methods: routes, arrivals (source: wip/p35/src/198.c8.txt, by expand.py) -/
/-- the same but for what says nothing from one call to the next -/
def zEq (x' x : zSt) : Prop := ∀ c, (c < 3 ∨ 12 < c) → x' c = x c
theorem zEq_refl (x : zSt) : zEq x x := fun _ _ => rfl
theorem zEq_trans {x x' x'' : zSt} (h : zEq x'' x') (h' : zEq x' x) : zEq x'' x := fun c hc => (h c hc).trans (h' c hc)
theorem zEq_pJ (x : zSt) (J : zJ) : zEq (pJ x J) x := fun c hc => pJ_o x J (by omega) (by omega)
theorem zEq_su {x : zSt} {c : Nat} {g : Nat → Nat → Int32} (h3 : 3 ≤ c) (h12 : c ≤ 12) : zEq (su x c g) x := fun d hd => by
  rw [su_eq, if_neg (by omega)]
theorem zEq_xRu {x x' : zSt} (h : zEq x' x) (p : Nat) : xRu x' p = xRu x p := funext fun j => funext fun r => by
  unfold xRu
  rw [h (18 + j) (by omega), h 17 (by omega)]
theorem zEq_sLf {x x' : zSt} (h : zEq x' x) (i : Nat) : sLf x' i = sLf x i := funext fun j => by
  unfold sLf
  rw [h (30 + j) (by omega)]
theorem zEq_zRul {x x' : zSt} (h : zEq x' x) {p n : Nat} (hR : zRul x p n) : zRul x' p n := by
  unfold zRul at hR ⊢
  rw [h 13 (by omega), h 17 (by omega), h 20 (by omega), h 23 (by omega)]
  exact hR
def rSet (l : List Nat) : Int32 := l.foldl (fun s k => s ||| (nI 1 <<< (nI k &&& 31))) (nI 0)
theorem rSet_app (l : List Nat) (k : Nat) : rSet (l ++ [k]) = rSet l ||| (nI 1 <<< (nI k &&& 31)) := by
  unfold rSet
  rw [List.foldl_append]
  rfl
theorem rSet_bit (l : List Nat) {k : Nat} (hk : k < 32) (hl : ∀ j, j ∈ l → j < 32) : zbit (rSet l) (nI k) = decide (k ∈ l) := by
  have key : ∀ (l : List Nat) (s : Int32), (∀ j, j ∈ l → j < 32) → zbit (l.foldl (fun s k => s ||| (nI 1 <<< (nI k &&& 31))) s) (nI k) = (zbit s (nI k) || decide (k ∈ l)) := by
    intro l
    induction l with
    | nil => intro s _; simp
    | cons a l ih =>
      intro s hl
      rw [List.foldl_cons, ih _ (fun j hj => hl j (List.mem_cons_of_mem _ hj)), zbit_or s (hl a List.mem_cons_self) hk, Bool.or_assoc]
      congr 1
      by_cases h : k = a <;> simp [h]
  unfold rSet
  rw [key l _ hl, zbit_0 hk, Bool.false_or]
/-- memory with a route -/
def pR (x : zSt) (l : List Nat) : zSt := su (su x 5 (fun p i => if p = 0 ∧ i = 1 then nI l.length else if p = 0 ∧ i = 2 then rSet l else x 5 p i)) 6 (fun p i => if p = 0 ∧ i < l.length then nI (l.getD i 0) else x 6 p i)
theorem zEq_pR (x : zSt) (l : List Nat) : zEq (pR x l) x := fun c hc => by
  unfold pR
  rw [su_eq, if_neg (by omega), su_eq, if_neg (by omega)]
theorem pJ_pR (x : zSt) (l : List Nat) (J : zJ) : pJ (pR x l) J = pR (pJ x J) l := zS_ext fun c p i => by
  simp only [pJ, pR, su_eq]
  by_cases h3 : c = 3
  · subst h3; rfl
  by_cases h4 : c = 4
  · subst h4; rfl
  by_cases h5 : c = 5
  · subst h5; rfl
  by_cases h6 : c = 6
  · subst h6; rfl
  simp only [h3, h4, h5, h6, reduceIte]
theorem pR_ext {x x' : zSt} {l : List Nat} (h : ∀ c, ¬ c = 5 → ¬ c = 6 → x' c = x c) (h3 : ∀ p i, x' 5 p i = pR x l 5 p i) (h4 : ∀ p i, x' 6 p i = pR x l 6 p i) : x' = pR x l := by
  refine zS_ext (fun c p i => ?_)
  by_cases e3 : c = 5
  · subst e3; exact h3 p i
  by_cases e4 : c = 6
  · subst e4; exact h4 p i
  rw [h c e3 e4]
  simp only [pR, su_eq, e3, e4, reduceIte]
theorem pR_5 (x : zSt) (l : List Nat) (p i : Nat) : pR x l 5 p i = if p = 0 ∧ i = 1 then nI l.length else if p = 0 ∧ i = 2 then rSet l else x 5 p i := rfl
theorem pR_6 (x : zSt) (l : List Nat) (p i : Nat) : pR x l 6 p i = if p = 0 ∧ i < l.length then nI (l.getD i 0) else x 6 p i := rfl
theorem pR_o (x : zSt) (l : List Nat) {c : Nat} (h5 : ¬ c = 5) (h6 : ¬ c = 6) : pR x l c = x c := by
  simp only [pR, su_eq, h5, h6, reduceIte]
section ZC
variable {x y : zSt} {E : zEx} {Q : zO → zM → Prop}
theorem c19 : zcl 19 [.ref 10] (zmem x y E) Q ↔ Q (.inl none) (zmem (pR x []) y E) := by
  rw [e19]
  simp (disch := omega) only [p19_0, p19_1, p19_2, p19_5, p19_6, p19_7, p19_10, su_eq, l_ro_ok, l_ro_0, l_ro_1, l_ro_1p, l_ro_2, l_ro_2p, l_pe_ar, l_pe_ln, l_pe_ia, l_pe_is, l_pe_e, l_pe_ep, zvi_int, zvl_long, zvd_double, zvr_ref, zisI_int, zisR_ref, zgI_int, zgR_ref, zkl_int, zkl_ref, zkl_none, zkl_long, zkl_double, zct_nil, zct_int, zct_ref, zct_long, zct_double, zbk_some, zbk_none, zbk_exc, nI_clamp, nI_add, nI_mul, true_and, and_true, Nat.reduceAdd, Nat.reduceMul, Nat.reduceLeDiff, Nat.reducePow, ↓reduceIte, Nat.zero_add, Nat.add_zero, Nat.reduceLT, Nat.reduceEqDiff, Nat.le_refl, zn10, zn01, zfitB0, zfitB1, znarB0, znarB1, Nat.lt_irrefl, ↓zvi_eq, ↓zvr_eq]
  refine Iff.of_eq (congrArg (fun z => Q (.inl none) (zmem z y E)) (pR_ext (fun c h5 h6 => ?_) (fun p i => ?_) (fun p i => ?_)))
  · simp only [su_eq, h5, reduceIte]
  · simp only [su_eq, u2_eq, pR_5, reduceIte, List.length_nil]
    (repeat' split) <;> first | rfl | omega
  · simp only [su_eq, pR_6, List.length_nil, Nat.not_lt_zero, and_false, reduceIte, Nat.reduceEqDiff]
theorem c20 {l : List Nat} {k : Nat} (hk : k < 4) (hd : l.Nodup) (hl : ∀ j, j ∈ l → j < 4) : zcl 20 [.ref 10, .int (nI k)] (zmem (pR x l) y E) Q ↔ Q (.inl none) (zmem (pR x (rAdd l k)) y E) := by
  rw [e20]
  have e1 : pR x l 5 0 1 = nI l.length := rfl
  have e2 : pR x l 5 0 2 = rSet l := rfl
  have hb := rSet_bit l (k := k) (by omega) (fun j hj => by have := hl j hj; omega)
  have h4 := tpig 4 l hd hl
  have h83 := fun (M : zM) (Q : zO → zM → Prop) => c83 (s := rSet l) (k := nI k) (M := M) (Q := Q)
  by_cases hm : k ∈ l
  · rw [decide_eq_true hm] at hb
    simp (disch := omega) only [p20_0, p20_1, p20_4, p20_5, p20_8, p20_11, p20_12, p20_15, p20_16, p20_19, p20_20, p20_23, p20_24, p20_27, p20_28, p20_31, p20_32, p20_33, p20_34, p20_34i, p20_35, p20_38, p20_39, p20_40, p20_43, p20_44, p20_44i, p20_45, p20_48, p20_49, p20_50, p20_51, p20_52, p20_55, h83, e1, e2, hb, l_ro_ok, l_ro_0, l_ro_1, l_ro_1p, l_ro_2, l_ro_2p, l_pe_ar, l_pe_ln, l_pe_ia, l_pe_is, l_pe_e, l_pe_ep, zvi_int, zvl_long, zvd_double, zvr_ref, zisI_int, zisR_ref, zgI_int, zgR_ref, zkl_int, zkl_ref, zkl_none, zkl_long, zkl_double, zct_nil, zct_int, zct_ref, zct_long, zct_double, zbk_some, zbk_none, zbk_exc, nI_clamp, nI_add, nI_mul, true_and, and_true, Nat.reduceAdd, Nat.reduceMul, Nat.reduceLeDiff, Nat.reducePow, ↓reduceIte, Nat.zero_add, Nat.add_zero, Nat.reduceLT, Nat.reduceEqDiff, Nat.le_refl, zn10, zn01, zfitB0, zfitB1, znarB0, znarB1, Nat.lt_irrefl, ↓zvi_eq, ↓zvr_eq]
    rw [show rAdd l k = l from if_pos hm]
  · rw [decide_eq_false hm] at hb
    have h5 : l.length < 4 := by
      have := tpig 4 (l ++ [k]) (by
        rw [List.nodup_append]
        refine ⟨hd, by simp, fun a ha b hb => ?_⟩
        rw [List.mem_singleton] at hb
        subst hb
        exact fun e => hm (e ▸ ha)) (fun a ha => by
        rcases List.mem_append.mp ha with e | e
        · exact hl a e
        · rw [List.mem_singleton] at e; subst e; exact hk)
      rw [List.length_append, List.length_singleton] at this
      omega
    simp (disch := omega) only [p20_0, p20_1, p20_4, p20_5, p20_8, p20_11, p20_12, p20_15, p20_16, p20_19, p20_20, p20_23, p20_24, p20_27, p20_28, p20_31, p20_32, p20_33, p20_34, p20_34i, p20_35, p20_38, p20_39, p20_40, p20_43, p20_44, p20_44i, p20_45, p20_48, p20_49, p20_50, p20_51, p20_52, p20_55, h83, e1, e2, hb, nI_ltI, h5, su_eq, u2_eq, l_ro_ok, l_ro_0, l_ro_1, l_ro_1p, l_ro_2, l_ro_2p, l_pe_ar, l_pe_ln, l_pe_ia, l_pe_is, l_pe_e, l_pe_ep, zvi_int, zvl_long, zvd_double, zvr_ref, zisI_int, zisR_ref, zgI_int, zgR_ref, zkl_int, zkl_ref, zkl_none, zkl_long, zkl_double, zct_nil, zct_int, zct_ref, zct_long, zct_double, zbk_some, zbk_none, zbk_exc, nI_clamp, nI_add, nI_mul, true_and, and_true, Nat.reduceAdd, Nat.reduceMul, Nat.reduceLeDiff, Nat.reducePow, ↓reduceIte, Nat.zero_add, Nat.add_zero, Nat.reduceLT, Nat.reduceEqDiff, Nat.le_refl, zn10, zn01, zfitB0, zfitB1, znarB0, znarB1, Nat.lt_irrefl, ↓zvi_eq, ↓zvr_eq, Bool.false_eq_true]
    rw [show rAdd l k = l ++ [k] from if_neg hm]
    refine Iff.of_eq (congrArg (fun z => Q (.inl none) (zmem z y E)) (pR_ext (fun c h5 h6 => ?_) (fun p i => ?_) (fun p i => ?_)))
    · simp only [su_eq, h5, h6, reduceIte, pR_o x l h5 h6]
    · simp only [su_eq, u2_eq, pR_5, reduceIte, List.length_append, List.length_cons, List.length_nil, rSet_app, Nat.reduceEqDiff, true_and, and_true, and_self]
      (repeat' split) <;> first | rfl | omega
    · simp only [su_eq, u2_eq, pR_6, List.length_append, List.length_cons, List.length_nil, Nat.reduceEqDiff, reduceIte]
      by_cases hp : p = 0
      · by_cases h1 : i = l.length
        · subst h1
          rw [if_pos ⟨hp, rfl⟩, if_pos ⟨hp, by omega⟩]
          simp
        · rw [if_neg (fun e => h1 e.2)]
          by_cases h2 : i < l.length
          · rw [if_pos ⟨hp, h2⟩, if_pos ⟨hp, by omega⟩]
            simp [List.getD_eq_getElem?_getD, List.getElem?_append_left h2]
          · rw [if_neg (fun e => h2 e.2), if_neg (fun e => by omega)]
      · simp only [hp, false_and, reduceIte]
end ZC
def rIni (to : Int32) : Nat → List Nat := fun k => zfo (fun k l => if zbit to (nI k) = true then rAdd l k else l) k []
theorem rIni_ok (to : Int32) : ∀ k, k ≤ 4 → (rIni to k).Nodup ∧ ∀ j, j ∈ rIni to k → j < 4
  | 0, _ => ⟨List.nodup_nil, fun j h => by cases h⟩
  | k + 1, hk => by
    obtain ⟨h1, h2⟩ := rIni_ok to k (by omega)
    have e : rIni to (k + 1) = if zbit to (nI k) = true then rAdd (rIni to k) k else rIni to k := rfl
    rw [e]
    split
    · exact ⟨rAdd_nd [k] _ h1, rAdd_all [k] _ h2 (fun j hj => by rw [List.mem_singleton] at hj; omega)⟩
    · exact ⟨h1, h2⟩
def xGo (x : zSt) (i : Nat) (nr : Nat → Nat) (p : Nat) : List Nat := (sJd (xRu x p) (sLf x i) (-1) (nr p) 0 zJ0).2.2.2.map (fun v => v.toNatClampNeg)
section ZC
variable {x y : zSt} {E : zEx}
theorem c89 {to : Int32} {i : Nat} {nr : Nat → Nat} (hi : i < 61) (hR : ∀ p, p < 4 → zRul x p (nr p)) (hG : ∀ p, p < 4 → ∀ v, v ∈ (sJd (xRu x p) (sLf x i) (-1) (nr p) 0 zJ0).2.2.2 → ∃ k, k < 4 ∧ v = nI k) : ∃ x', zEq x' x ∧ ∀ Q : zO → zM → Prop, zcl 89 [.ref 2, .int to, .ref (aLe i)] (zmem x y E) Q ↔ Q (.inl none) (zmem (pR x' (rLp (xGo x i nr) 4 0 (rIni to 4))) y E) := by
  have key2 : ∀ (z : zSt) (J : zJ) (a : Nat), (∀ v, v ∈ J.2.2.2 → ∃ k, k < 4 ∧ v = nI k) → a < 4 → ∀ (k j : Nat) (l : List Nat) (Q : zO → zM → Prop), j + k = J.2.2.2.length → J.2.2.2.length ≤ 6 → l.Nodup → (∀ j, j ∈ l → j < 4) → (zwp zm_89 (80, [some (.ref 2), some (.int to), some (.ref (aLe i)), some (.int (nI a)), some (.int (nI j))], [], zmem (pR (pJ z J) l) y E, 0, 0) Q ↔ zwp zm_89 (115, [some (.ref 2), some (.int to), some (.ref (aLe i)), some (.int (nI a)), some (.int (nI J.2.2.2.length))], [], zmem (pR (pJ z J) (((J.2.2.2.map (fun v => v.toNatClampNeg)).drop j).foldl rAdd l)) y E, 0, 0) Q) := by
    intro z J a hJ ha k
    induction k with
    | zero =>
      intro j l Q hk h6 hd hl
      have : j = J.2.2.2.length := by omega
      subst this
      have e1 : pR (pJ z J) l 3 0 4 = nI J.2.2.2.length := rfl
      rw [p89_80]
      simp (disch := omega) only [p89_0, p89_1, p89_4, p89_7, p89_8, p89_9, p89_10, p89_11, p89_14, p89_15, p89_16, p89_19, p89_22, p89_23, p89_26, p89_27, p89_30, p89_33, p89_36, p89_37, p89_38, p89_39, p89_40, p89_43, p89_44, p89_45, p89_48, p89_51, p89_54, p89_55, p89_58, p89_59, p89_62, p89_65, p89_66, p89_67, p89_68, p89_69, p89_70, p89_71, p89_74, p89_77, p89_78, p89_82, p89_83, p89_86, p89_89, p89_92, p89_93, p89_96, p89_97, p89_100, p89_103, p89_105, p89_106, p89_109, p89_112, p89_118, p89_121, e1, nI_ltI, l_dm_ok, l_dm_0, l_dm_1, l_dm_2, l_dm_2p, l_dm_3, l_dm_4, l_dm_4p, l_dm_5, l_dm_6, l_dm_6p, l_dm_7, l_dm_7p, l_dm_8, l_dm_8p, l_dm_9, l_dm_9p, l_dm_10, l_dm_11, l_dm_12, l_dm_13, l_dm_14, l_ou_ok, l_ou_0, l_ou_0p, l_ou_1, l_ou_1p, l_ou_2, l_ou_2p, l_ou_3, l_ou_4, l_ou_4p, l_ro_ok, l_ro_0, l_ro_1, l_ro_1p, l_ro_2, l_ro_2p, l_bx_ok, l_bx_0, l_bx_1, l_bx_1p, l_bx_2, l_bx_3, l_bx_3p, l_bx_4, l_bx_5, l_bx_5p, l_bxa_ar, l_bxa_ln, l_bxa_ia, l_bxa_e, l_lea_ar, l_lea_ln, l_lea_ia, l_lea_e, l_qua_ar, l_qua_ln, l_qua_ia, l_qua_e, l_bo_ar, l_bo_ln, l_bo_ia, l_bo_is, l_bo_e, l_bo_ep, l_go_ar, l_go_ln, l_go_ia, l_go_is, l_go_e, l_go_ep, l_pe_ar, l_pe_ln, l_pe_ia, l_pe_is, l_pe_e, l_pe_ep, l_fc_ar, l_fc_ln, l_fc_ia, l_fc_is, l_fc_e, l_fc_ep, l_sha_ar, l_sha_ln, l_sha_ia, l_sha_e, l_rua_ar, l_rua_ln, l_rua_ia, l_rua_e, l_rua_ep, l_rua_e2, l_coa_ar, l_coa_ln, l_coa_ia, l_coa_e, zvi_int, zvl_long, zvd_double, zvr_ref, zisI_int, zisR_ref, zgI_int, zgR_ref, zkl_int, zkl_ref, zkl_none, zkl_long, zkl_double, zct_nil, zct_int, zct_ref, zct_long, zct_double, zbk_some, zbk_none, zbk_exc, nI_clamp, nI_add, nI_mul, true_and, and_true, Nat.reduceAdd, Nat.reduceMul, Nat.reduceLeDiff, Nat.reducePow, ↓reduceIte, Nat.zero_add, Nat.add_zero, Nat.reduceLT, Nat.reduceEqDiff, Nat.le_refl, zn10, zn01, zfitB0, zfitB1, znarB0, znarB1, Nat.lt_irrefl, ↓zvi_eq, ↓zvr_eq]
      rw [List.drop_eq_nil_of_le (by simp)]
      rfl
    | succ k ih =>
      intro j l Q hk h6 hd hl
      have e1 : ∀ l, pR (pJ z J) l 3 0 4 = nI J.2.2.2.length := fun l => rfl
      have h9 : j < J.2.2.2.length := by omega
      obtain ⟨b, hb, hv⟩ := hJ (J.2.2.2.getD j 0) (by rw [List.getD_eq_getElem?_getD, List.getElem?_eq_getElem h9, Option.getD_some]; exact List.getElem_mem h9)
      have e2 : pR (pJ z J) l 4 0 j = nI b := by
        rw [← hv]
        show pJ z J 4 0 j = _
        rw [pJ_4, if_pos ⟨rfl, h9⟩]
      have h20 := fun (Q : zO → zM → Prop) => c20 (x := pJ z J) (y := y) (E := E) (Q := Q) (l := l) (k := b) hb hd hl
      rw [p89_80]
      simp (disch := omega) only [p89_0, p89_1, p89_4, p89_7, p89_8, p89_9, p89_10, p89_11, p89_14, p89_15, p89_16, p89_19, p89_22, p89_23, p89_26, p89_27, p89_30, p89_33, p89_36, p89_37, p89_38, p89_39, p89_40, p89_43, p89_44, p89_45, p89_48, p89_51, p89_54, p89_55, p89_58, p89_59, p89_62, p89_65, p89_66, p89_67, p89_68, p89_69, p89_70, p89_71, p89_74, p89_77, p89_78, p89_82, p89_83, p89_86, p89_89, p89_92, p89_93, p89_96, p89_97, p89_100, p89_103, p89_105, p89_106, p89_109, p89_112, p89_118, p89_121, e1, e2, h20, nI_ltI, h9, l_dm_ok, l_dm_0, l_dm_1, l_dm_2, l_dm_2p, l_dm_3, l_dm_4, l_dm_4p, l_dm_5, l_dm_6, l_dm_6p, l_dm_7, l_dm_7p, l_dm_8, l_dm_8p, l_dm_9, l_dm_9p, l_dm_10, l_dm_11, l_dm_12, l_dm_13, l_dm_14, l_ou_ok, l_ou_0, l_ou_0p, l_ou_1, l_ou_1p, l_ou_2, l_ou_2p, l_ou_3, l_ou_4, l_ou_4p, l_ro_ok, l_ro_0, l_ro_1, l_ro_1p, l_ro_2, l_ro_2p, l_bx_ok, l_bx_0, l_bx_1, l_bx_1p, l_bx_2, l_bx_3, l_bx_3p, l_bx_4, l_bx_5, l_bx_5p, l_bxa_ar, l_bxa_ln, l_bxa_ia, l_bxa_e, l_lea_ar, l_lea_ln, l_lea_ia, l_lea_e, l_qua_ar, l_qua_ln, l_qua_ia, l_qua_e, l_bo_ar, l_bo_ln, l_bo_ia, l_bo_is, l_bo_e, l_bo_ep, l_go_ar, l_go_ln, l_go_ia, l_go_is, l_go_e, l_go_ep, l_pe_ar, l_pe_ln, l_pe_ia, l_pe_is, l_pe_e, l_pe_ep, l_fc_ar, l_fc_ln, l_fc_ia, l_fc_is, l_fc_e, l_fc_ep, l_sha_ar, l_sha_ln, l_sha_ia, l_sha_e, l_rua_ar, l_rua_ln, l_rua_ia, l_rua_e, l_rua_ep, l_rua_e2, l_coa_ar, l_coa_ln, l_coa_ia, l_coa_e, zvi_int, zvl_long, zvd_double, zvr_ref, zisI_int, zisR_ref, zgI_int, zgR_ref, zkl_int, zkl_ref, zkl_none, zkl_long, zkl_double, zct_nil, zct_int, zct_ref, zct_long, zct_double, zbk_some, zbk_none, zbk_exc, nI_clamp, nI_add, nI_mul, true_and, and_true, Nat.reduceAdd, Nat.reduceMul, Nat.reduceLeDiff, Nat.reducePow, ↓reduceIte, Nat.zero_add, Nat.add_zero, Nat.reduceLT, Nat.reduceEqDiff, Nat.le_refl, zn10, zn01, zfitB0, zfitB1, znarB0, znarB1, Nat.lt_irrefl, ↓zvi_eq, ↓zvr_eq]
      rw [ih (j + 1) (rAdd l b) Q (by omega) h6 (rAdd_nd [b] l hd) (rAdd_all [b] l hl (fun q hq => by rw [List.mem_singleton] at hq; omega))]
      have e3 : (J.2.2.2.map (fun v => v.toNatClampNeg)).drop j = b :: (J.2.2.2.map (fun v => v.toNatClampNeg)).drop (j + 1) := by
        rw [List.drop_eq_getElem_cons (by simpa using h9)]
        congr 1
        rw [List.getElem_map]
        have : J.2.2.2[j] = nI b := by
          rw [← hv, List.getD_eq_getElem?_getD, List.getElem?_eq_getElem h9, Option.getD_some]
        rw [this, nI_clamp (by omega)]
      rw [e3, List.foldl_cons]
  have key : ∀ (k a : Nat) (l : List Nat) (z : zSt) (l4 : Option Value), a + k = 4 → zEq z x → l.Nodup → (∀ j, j ∈ l → j < 4) → ∃ z', zEq z' x ∧ ∀ Q : zO → zM → Prop, zwp zm_89 (38, [some (.ref 2), some (.int to), some (.ref (aLe i)), some (.int (nI a)), l4], [], zmem (pR z l) y E, 0, 0) Q ↔ Q (.inl none) (zmem (pR z' (rLp (xGo x i nr) k a l)) y E) := by
    intro k
    induction k with
    | zero =>
      intro a l z l4 hk hz hd hl
      have : a = 4 := by omega
      subst this
      refine ⟨z, hz, fun Q => ?_⟩
      rw [p89_38]
      simp (disch := omega) only [p89_0, p89_1, p89_4, p89_7, p89_8, p89_9, p89_10, p89_11, p89_14, p89_15, p89_16, p89_19, p89_22, p89_23, p89_26, p89_27, p89_30, p89_33, p89_36, p89_37, p89_39, p89_40, p89_43, p89_44, p89_45, p89_48, p89_51, p89_54, p89_55, p89_58, p89_59, p89_62, p89_65, p89_66, p89_67, p89_68, p89_69, p89_70, p89_71, p89_74, p89_77, p89_78, p89_80, p89_82, p89_83, p89_86, p89_89, p89_92, p89_93, p89_96, p89_97, p89_100, p89_103, p89_105, p89_106, p89_109, p89_112, p89_115, p89_118, p89_121, nI_ltI, l_dm_ok, l_dm_0, l_dm_1, l_dm_2, l_dm_2p, l_dm_3, l_dm_4, l_dm_4p, l_dm_5, l_dm_6, l_dm_6p, l_dm_7, l_dm_7p, l_dm_8, l_dm_8p, l_dm_9, l_dm_9p, l_dm_10, l_dm_11, l_dm_12, l_dm_13, l_dm_14, l_ou_ok, l_ou_0, l_ou_0p, l_ou_1, l_ou_1p, l_ou_2, l_ou_2p, l_ou_3, l_ou_4, l_ou_4p, l_ro_ok, l_ro_0, l_ro_1, l_ro_1p, l_ro_2, l_ro_2p, l_bx_ok, l_bx_0, l_bx_1, l_bx_1p, l_bx_2, l_bx_3, l_bx_3p, l_bx_4, l_bx_5, l_bx_5p, l_bxa_ar, l_bxa_ln, l_bxa_ia, l_bxa_e, l_lea_ar, l_lea_ln, l_lea_ia, l_lea_e, l_qua_ar, l_qua_ln, l_qua_ia, l_qua_e, l_bo_ar, l_bo_ln, l_bo_ia, l_bo_is, l_bo_e, l_bo_ep, l_go_ar, l_go_ln, l_go_ia, l_go_is, l_go_e, l_go_ep, l_pe_ar, l_pe_ln, l_pe_ia, l_pe_is, l_pe_e, l_pe_ep, l_fc_ar, l_fc_ln, l_fc_ia, l_fc_is, l_fc_e, l_fc_ep, l_sha_ar, l_sha_ln, l_sha_ia, l_sha_e, l_rua_ar, l_rua_ln, l_rua_ia, l_rua_e, l_rua_ep, l_rua_e2, l_coa_ar, l_coa_ln, l_coa_ia, l_coa_e, zvi_int, zvl_long, zvd_double, zvr_ref, zisI_int, zisR_ref, zgI_int, zgR_ref, zkl_int, zkl_ref, zkl_none, zkl_long, zkl_double, zct_nil, zct_int, zct_ref, zct_long, zct_double, zbk_some, zbk_none, zbk_exc, nI_clamp, nI_add, nI_mul, true_and, and_true, Nat.reduceAdd, Nat.reduceMul, Nat.reduceLeDiff, Nat.reducePow, ↓reduceIte, Nat.zero_add, Nat.add_zero, Nat.reduceLT, Nat.reduceEqDiff, Nat.le_refl, zn10, zn01, zfitB0, zfitB1, znarB0, znarB1, Nat.lt_irrefl, ↓zvi_eq, ↓zvr_eq, rLp]
    | succ k ih =>
      intro a l z l4 hk hz hd hl
      have h9 : a < 4 := by omega
      have h4 := tpig 4 l hd hl
      have e1 : pR z l 5 0 1 = nI l.length := rfl
      by_cases ha : a < l.length
      · have hb : l.getD a 0 ∈ l := by
          rw [List.getD_eq_getElem?_getD, List.getElem?_eq_getElem ha, Option.getD_some]
          exact List.getElem_mem ha
        have hb4 := hl _ hb
        have e2 : pR z l 6 0 a = nI (l.getD a 0) := if_pos ⟨rfl, ha⟩
        have hzz : zEq (pR z l) x := zEq_trans (zEq_pR z l) hz
        have h39 : ∀ Q : zO → zM → Prop, zcl 39 [.ref (aBx (l.getD a 0)), .ref (aLe i), .int (-1), .ref 8] (zmem (pR z l) y E) Q ↔ Q (.inl none) (zmem (pR (pJ z (sJd (xRu x (l.getD a 0)) (sLf x i) (-1) (nr (l.getD a 0)) 0 zJ0)) l) y E) := fun Q => by
          rw [c39 (n := nr (l.getD a 0)) hb4 hi (zEq_zRul hzz (hR _ hb4)), zEq_xRu hzz, zEq_sLf hzz, pJ_pR]
        have hJ := hG _ hb4
        have hJ6 : (sJd (xRu x (l.getD a 0)) (sLf x i) (-1) (nr (l.getD a 0)) 0 zJ0).2.2.2.length ≤ 6 := sJd_len _ _ _ _ 0 _ (by have := (hR _ hb4).2.1; omega) (Nat.le_refl 0)
        have hxg : xGo x i nr (l.getD a 0) = (sJd (xRu x (l.getD a 0)) (sLf x i) (-1) (nr (l.getD a 0)) 0 zJ0).2.2.2.map (fun v => v.toNatClampNeg) := rfl
        generalize sJd (xRu x (l.getD a 0)) (sLf x i) (-1) (nr (l.getD a 0)) 0 zJ0 = J at h39 hJ hJ6 hxg
        have hnd := rAdd_nd (xGo x i nr (l.getD a 0)) l hd
        have hall := rAdd_all (xGo x i nr (l.getD a 0)) l hl (fun q hq => by
          rw [hxg] at hq
          obtain ⟨v, hv, e⟩ := List.mem_map.mp hq
          obtain ⟨b, hb, e'⟩ := hJ v hv
          rw [e', nI_clamp (by omega)] at e
          omega)
        obtain ⟨z', hz', hq⟩ := ih (a + 1) ((xGo x i nr (l.getD a 0)).foldl rAdd l) (pJ z J) (some (.int (nI J.2.2.2.length))) (by omega) (zEq_trans (zEq_pJ z J) hz) hnd hall
        refine ⟨z', hz', fun Q => ?_⟩
        have hk2 := fun (Q : zO → zM → Prop) => key2 z J a hJ h9 J.2.2.2.length 0 l Q (Nat.zero_add _) hJ6 hd hl
        rw [List.drop_zero, ← hxg] at hk2
        rw [p89_38]
        simp (disch := omega) only [p89_0, p89_1, p89_4, p89_7, p89_8, p89_9, p89_10, p89_11, p89_14, p89_15, p89_16, p89_19, p89_22, p89_23, p89_26, p89_27, p89_30, p89_33, p89_36, p89_37, p89_39, p89_40, p89_43, p89_44, p89_45, p89_48, p89_51, p89_54, p89_55, p89_58, p89_59, p89_62, p89_65, p89_66, p89_67, p89_68, p89_69, p89_70, p89_71, p89_74, p89_77, p89_78, p89_82, p89_83, p89_86, p89_89, p89_92, p89_93, p89_96, p89_97, p89_100, p89_103, p89_105, p89_106, p89_109, p89_112, p89_118, p89_121, e1, e2, h39, nI_ltI, h9, ha, hb4, hk2, l_dm_ok, l_dm_0, l_dm_1, l_dm_2, l_dm_2p, l_dm_3, l_dm_4, l_dm_4p, l_dm_5, l_dm_6, l_dm_6p, l_dm_7, l_dm_7p, l_dm_8, l_dm_8p, l_dm_9, l_dm_9p, l_dm_10, l_dm_11, l_dm_12, l_dm_13, l_dm_14, l_ou_ok, l_ou_0, l_ou_0p, l_ou_1, l_ou_1p, l_ou_2, l_ou_2p, l_ou_3, l_ou_4, l_ou_4p, l_ro_ok, l_ro_0, l_ro_1, l_ro_1p, l_ro_2, l_ro_2p, l_bx_ok, l_bx_0, l_bx_1, l_bx_1p, l_bx_2, l_bx_3, l_bx_3p, l_bx_4, l_bx_5, l_bx_5p, l_bxa_ar, l_bxa_ln, l_bxa_ia, l_bxa_e, l_lea_ar, l_lea_ln, l_lea_ia, l_lea_e, l_qua_ar, l_qua_ln, l_qua_ia, l_qua_e, l_bo_ar, l_bo_ln, l_bo_ia, l_bo_is, l_bo_e, l_bo_ep, l_go_ar, l_go_ln, l_go_ia, l_go_is, l_go_e, l_go_ep, l_pe_ar, l_pe_ln, l_pe_ia, l_pe_is, l_pe_e, l_pe_ep, l_fc_ar, l_fc_ln, l_fc_ia, l_fc_is, l_fc_e, l_fc_ep, l_sha_ar, l_sha_ln, l_sha_ia, l_sha_e, l_rua_ar, l_rua_ln, l_rua_ia, l_rua_e, l_rua_ep, l_rua_e2, l_coa_ar, l_coa_ln, l_coa_ia, l_coa_e, zvi_int, zvl_long, zvd_double, zvr_ref, zisI_int, zisR_ref, zgI_int, zgR_ref, zkl_int, zkl_ref, zkl_none, zkl_long, zkl_double, zct_nil, zct_int, zct_ref, zct_long, zct_double, zbk_some, zbk_none, zbk_exc, nI_clamp, nI_add, nI_mul, true_and, and_true, Nat.reduceAdd, Nat.reduceMul, Nat.reduceLeDiff, Nat.reducePow, ↓reduceIte, Nat.zero_add, Nat.add_zero, Nat.reduceLT, Nat.reduceEqDiff, Nat.le_refl, zn10, zn01, zfitB0, zfitB1, znarB0, znarB1, Nat.lt_irrefl, ↓zvi_eq, ↓zvr_eq]
        rw [p89_115]
        simp (disch := omega) only [p89_0, p89_1, p89_4, p89_7, p89_8, p89_9, p89_10, p89_11, p89_14, p89_15, p89_16, p89_19, p89_22, p89_23, p89_26, p89_27, p89_30, p89_33, p89_36, p89_37, p89_39, p89_40, p89_43, p89_44, p89_45, p89_48, p89_51, p89_54, p89_55, p89_58, p89_59, p89_62, p89_65, p89_66, p89_67, p89_68, p89_69, p89_70, p89_71, p89_74, p89_77, p89_78, p89_82, p89_83, p89_86, p89_89, p89_92, p89_93, p89_96, p89_97, p89_100, p89_103, p89_105, p89_106, p89_109, p89_112, p89_118, p89_121, l_dm_ok, l_dm_0, l_dm_1, l_dm_2, l_dm_2p, l_dm_3, l_dm_4, l_dm_4p, l_dm_5, l_dm_6, l_dm_6p, l_dm_7, l_dm_7p, l_dm_8, l_dm_8p, l_dm_9, l_dm_9p, l_dm_10, l_dm_11, l_dm_12, l_dm_13, l_dm_14, l_ou_ok, l_ou_0, l_ou_0p, l_ou_1, l_ou_1p, l_ou_2, l_ou_2p, l_ou_3, l_ou_4, l_ou_4p, l_ro_ok, l_ro_0, l_ro_1, l_ro_1p, l_ro_2, l_ro_2p, l_bx_ok, l_bx_0, l_bx_1, l_bx_1p, l_bx_2, l_bx_3, l_bx_3p, l_bx_4, l_bx_5, l_bx_5p, l_bxa_ar, l_bxa_ln, l_bxa_ia, l_bxa_e, l_lea_ar, l_lea_ln, l_lea_ia, l_lea_e, l_qua_ar, l_qua_ln, l_qua_ia, l_qua_e, l_bo_ar, l_bo_ln, l_bo_ia, l_bo_is, l_bo_e, l_bo_ep, l_go_ar, l_go_ln, l_go_ia, l_go_is, l_go_e, l_go_ep, l_pe_ar, l_pe_ln, l_pe_ia, l_pe_is, l_pe_e, l_pe_ep, l_fc_ar, l_fc_ln, l_fc_ia, l_fc_is, l_fc_e, l_fc_ep, l_sha_ar, l_sha_ln, l_sha_ia, l_sha_e, l_rua_ar, l_rua_ln, l_rua_ia, l_rua_e, l_rua_ep, l_rua_e2, l_coa_ar, l_coa_ln, l_coa_ia, l_coa_e, zvi_int, zvl_long, zvd_double, zvr_ref, zisI_int, zisR_ref, zgI_int, zgR_ref, zkl_int, zkl_ref, zkl_none, zkl_long, zkl_double, zct_nil, zct_int, zct_ref, zct_long, zct_double, zbk_some, zbk_none, zbk_exc, nI_clamp, nI_add, nI_mul, true_and, and_true, Nat.reduceAdd, Nat.reduceMul, Nat.reduceLeDiff, Nat.reducePow, ↓reduceIte, Nat.zero_add, Nat.add_zero, Nat.reduceLT, Nat.reduceEqDiff, Nat.le_refl, zn10, zn01, zfitB0, zfitB1, znarB0, znarB1, Nat.lt_irrefl, ↓zvi_eq, ↓zvr_eq]
        rw [hq]
        conv => rhs; unfold rLp
        rw [if_pos ha]
      · refine ⟨z, hz, fun Q => ?_⟩
        rw [p89_38]
        simp (disch := omega) only [p89_0, p89_1, p89_4, p89_7, p89_8, p89_9, p89_10, p89_11, p89_14, p89_15, p89_16, p89_19, p89_22, p89_23, p89_26, p89_27, p89_30, p89_33, p89_36, p89_37, p89_39, p89_40, p89_43, p89_44, p89_45, p89_48, p89_51, p89_54, p89_55, p89_58, p89_59, p89_62, p89_65, p89_66, p89_67, p89_68, p89_69, p89_70, p89_71, p89_74, p89_77, p89_78, p89_82, p89_83, p89_86, p89_89, p89_92, p89_93, p89_96, p89_97, p89_100, p89_103, p89_105, p89_106, p89_109, p89_112, p89_118, p89_121, e1, nI_ltI, h9, ha, l_dm_ok, l_dm_0, l_dm_1, l_dm_2, l_dm_2p, l_dm_3, l_dm_4, l_dm_4p, l_dm_5, l_dm_6, l_dm_6p, l_dm_7, l_dm_7p, l_dm_8, l_dm_8p, l_dm_9, l_dm_9p, l_dm_10, l_dm_11, l_dm_12, l_dm_13, l_dm_14, l_ou_ok, l_ou_0, l_ou_0p, l_ou_1, l_ou_1p, l_ou_2, l_ou_2p, l_ou_3, l_ou_4, l_ou_4p, l_ro_ok, l_ro_0, l_ro_1, l_ro_1p, l_ro_2, l_ro_2p, l_bx_ok, l_bx_0, l_bx_1, l_bx_1p, l_bx_2, l_bx_3, l_bx_3p, l_bx_4, l_bx_5, l_bx_5p, l_bxa_ar, l_bxa_ln, l_bxa_ia, l_bxa_e, l_lea_ar, l_lea_ln, l_lea_ia, l_lea_e, l_qua_ar, l_qua_ln, l_qua_ia, l_qua_e, l_bo_ar, l_bo_ln, l_bo_ia, l_bo_is, l_bo_e, l_bo_ep, l_go_ar, l_go_ln, l_go_ia, l_go_is, l_go_e, l_go_ep, l_pe_ar, l_pe_ln, l_pe_ia, l_pe_is, l_pe_e, l_pe_ep, l_fc_ar, l_fc_ln, l_fc_ia, l_fc_is, l_fc_e, l_fc_ep, l_sha_ar, l_sha_ln, l_sha_ia, l_sha_e, l_rua_ar, l_rua_ln, l_rua_ia, l_rua_e, l_rua_ep, l_rua_e2, l_coa_ar, l_coa_ln, l_coa_ia, l_coa_e, zvi_int, zvl_long, zvd_double, zvr_ref, zisI_int, zisR_ref, zgI_int, zgR_ref, zkl_int, zkl_ref, zkl_none, zkl_long, zkl_double, zct_nil, zct_int, zct_ref, zct_long, zct_double, zbk_some, zbk_none, zbk_exc, nI_clamp, nI_add, nI_mul, true_and, and_true, Nat.reduceAdd, Nat.reduceMul, Nat.reduceLeDiff, Nat.reducePow, ↓reduceIte, Nat.zero_add, Nat.add_zero, Nat.reduceLT, Nat.reduceEqDiff, Nat.le_refl, zn10, zn01, zfitB0, zfitB1, znarB0, znarB1, Nat.lt_irrefl, ↓zvi_eq, ↓zvr_eq]
        unfold rLp
        rw [if_neg ha]
  obtain ⟨hd4, hl4⟩ := rIni_ok to 4 (Nat.le_refl 4)
  obtain ⟨z', hz', hq⟩ := key 4 0 (rIni to 4) x none rfl (zEq_refl x) hd4 hl4
  refine ⟨z', hz', fun Q => ?_⟩
  rw [e89]
  simp (disch := omega) only [p89_0, p89_1, p89_4, p89_7, p89_8, p89_10, p89_11, p89_14, p89_15, p89_16, p89_19, p89_22, p89_23, p89_26, p89_27, p89_30, p89_33, p89_36, p89_37, p89_38, p89_39, p89_40, p89_43, p89_44, p89_45, p89_48, p89_51, p89_54, p89_55, p89_58, p89_59, p89_62, p89_65, p89_66, p89_67, p89_68, p89_69, p89_70, p89_71, p89_74, p89_77, p89_78, p89_80, p89_82, p89_83, p89_86, p89_89, p89_92, p89_93, p89_96, p89_97, p89_100, p89_103, p89_105, p89_106, p89_109, p89_112, p89_115, p89_118, p89_121, c19, l_dm_ok, l_dm_0, l_dm_1, l_dm_2, l_dm_2p, l_dm_3, l_dm_4, l_dm_4p, l_dm_5, l_dm_6, l_dm_6p, l_dm_7, l_dm_7p, l_dm_8, l_dm_8p, l_dm_9, l_dm_9p, l_dm_10, l_dm_11, l_dm_12, l_dm_13, l_dm_14, l_ou_ok, l_ou_0, l_ou_0p, l_ou_1, l_ou_1p, l_ou_2, l_ou_2p, l_ou_3, l_ou_4, l_ou_4p, l_ro_ok, l_ro_0, l_ro_1, l_ro_1p, l_ro_2, l_ro_2p, l_bx_ok, l_bx_0, l_bx_1, l_bx_1p, l_bx_2, l_bx_3, l_bx_3p, l_bx_4, l_bx_5, l_bx_5p, l_bxa_ar, l_bxa_ln, l_bxa_ia, l_bxa_e, l_lea_ar, l_lea_ln, l_lea_ia, l_lea_e, l_qua_ar, l_qua_ln, l_qua_ia, l_qua_e, l_bo_ar, l_bo_ln, l_bo_ia, l_bo_is, l_bo_e, l_bo_ep, l_go_ar, l_go_ln, l_go_ia, l_go_is, l_go_e, l_go_ep, l_pe_ar, l_pe_ln, l_pe_ia, l_pe_is, l_pe_e, l_pe_ep, l_fc_ar, l_fc_ln, l_fc_ia, l_fc_is, l_fc_e, l_fc_ep, l_sha_ar, l_sha_ln, l_sha_ia, l_sha_e, l_rua_ar, l_rua_ln, l_rua_ia, l_rua_e, l_rua_ep, l_rua_e2, l_coa_ar, l_coa_ln, l_coa_ia, l_coa_e, zvi_int, zvl_long, zvd_double, zvr_ref, zisI_int, zisR_ref, zgI_int, zgR_ref, zkl_int, zkl_ref, zkl_none, zkl_long, zkl_double, zct_nil, zct_int, zct_ref, zct_long, zct_double, zbk_some, zbk_none, zbk_exc, nI_clamp, nI_add, nI_mul, true_and, and_true, Nat.reduceAdd, Nat.reduceMul, Nat.reduceLeDiff, Nat.reducePow, ↓reduceIte, Nat.zero_add, Nat.add_zero, Nat.reduceLT, Nat.reduceEqDiff, Nat.le_refl, zn10, zn01, zfitB0, zfitB1, znarB0, znarB1, Nat.lt_irrefl, ↓zvi_eq, ↓zvr_eq]
  have hl := (zforI (n := 4) (f := fun k l => if zbit to (nI k) = true then rAdd l k else l) (P := fun k l => zwp zm_89 (9, [some (.ref 2), some (.int to), some (.ref (aLe i)), some (.int (nI k)), none], [], zmem (pR x l) y E, 0, 0) Q) (V := fun k l => l.Nodup ∧ ∀ j, j ∈ l → j < 4) (fun k l hk hv => by
    have h20 := fun (Q : zO → zM → Prop) => c20 (x := x) (y := y) (E := E) (Q := Q) (l := l) (k := k) hk hv.1 hv.2
    by_cases hb : zbit to (nI k) = true
    · refine ⟨?_, ?_⟩
      · rw [if_pos hb]
        exact ⟨rAdd_nd [k] l hv.1, rAdd_all [k] l hv.2 (fun j hj => by rw [List.mem_singleton] at hj; omega)⟩
      · rw [p89_9]
        simp (disch := omega) only [p89_0, p89_1, p89_4, p89_7, p89_8, p89_10, p89_11, p89_14, p89_15, p89_16, p89_19, p89_22, p89_23, p89_26, p89_27, p89_30, p89_33, p89_36, p89_37, p89_38, p89_39, p89_40, p89_43, p89_44, p89_45, p89_48, p89_51, p89_54, p89_55, p89_58, p89_59, p89_62, p89_65, p89_66, p89_67, p89_68, p89_69, p89_70, p89_71, p89_74, p89_77, p89_78, p89_80, p89_82, p89_83, p89_86, p89_89, p89_92, p89_93, p89_96, p89_97, p89_100, p89_103, p89_105, p89_106, p89_109, p89_112, p89_115, p89_118, p89_121, h20, c83, nI_ltI, hk, hb, l_dm_ok, l_dm_0, l_dm_1, l_dm_2, l_dm_2p, l_dm_3, l_dm_4, l_dm_4p, l_dm_5, l_dm_6, l_dm_6p, l_dm_7, l_dm_7p, l_dm_8, l_dm_8p, l_dm_9, l_dm_9p, l_dm_10, l_dm_11, l_dm_12, l_dm_13, l_dm_14, l_ou_ok, l_ou_0, l_ou_0p, l_ou_1, l_ou_1p, l_ou_2, l_ou_2p, l_ou_3, l_ou_4, l_ou_4p, l_ro_ok, l_ro_0, l_ro_1, l_ro_1p, l_ro_2, l_ro_2p, l_bx_ok, l_bx_0, l_bx_1, l_bx_1p, l_bx_2, l_bx_3, l_bx_3p, l_bx_4, l_bx_5, l_bx_5p, l_bxa_ar, l_bxa_ln, l_bxa_ia, l_bxa_e, l_lea_ar, l_lea_ln, l_lea_ia, l_lea_e, l_qua_ar, l_qua_ln, l_qua_ia, l_qua_e, l_bo_ar, l_bo_ln, l_bo_ia, l_bo_is, l_bo_e, l_bo_ep, l_go_ar, l_go_ln, l_go_ia, l_go_is, l_go_e, l_go_ep, l_pe_ar, l_pe_ln, l_pe_ia, l_pe_is, l_pe_e, l_pe_ep, l_fc_ar, l_fc_ln, l_fc_ia, l_fc_is, l_fc_e, l_fc_ep, l_sha_ar, l_sha_ln, l_sha_ia, l_sha_e, l_rua_ar, l_rua_ln, l_rua_ia, l_rua_e, l_rua_ep, l_rua_e2, l_coa_ar, l_coa_ln, l_coa_ia, l_coa_e, zvi_int, zvl_long, zvd_double, zvr_ref, zisI_int, zisR_ref, zgI_int, zgR_ref, zkl_int, zkl_ref, zkl_none, zkl_long, zkl_double, zct_nil, zct_int, zct_ref, zct_long, zct_double, zbk_some, zbk_none, zbk_exc, nI_clamp, nI_add, nI_mul, true_and, and_true, Nat.reduceAdd, Nat.reduceMul, Nat.reduceLeDiff, Nat.reducePow, ↓reduceIte, Nat.zero_add, Nat.add_zero, Nat.reduceLT, Nat.reduceEqDiff, Nat.le_refl, zn10, zn01, zfitB0, zfitB1, znarB0, znarB1, Nat.lt_irrefl, ↓zvi_eq, ↓zvr_eq]
    · refine ⟨?_, ?_⟩
      · rw [if_neg hb]; exact hv
      · rw [p89_9]
        simp (disch := omega) only [p89_0, p89_1, p89_4, p89_7, p89_8, p89_10, p89_11, p89_14, p89_15, p89_16, p89_19, p89_22, p89_23, p89_26, p89_27, p89_30, p89_33, p89_36, p89_37, p89_38, p89_39, p89_40, p89_43, p89_44, p89_45, p89_48, p89_51, p89_54, p89_55, p89_58, p89_59, p89_62, p89_65, p89_66, p89_67, p89_68, p89_69, p89_70, p89_71, p89_74, p89_77, p89_78, p89_80, p89_82, p89_83, p89_86, p89_89, p89_92, p89_93, p89_96, p89_97, p89_100, p89_103, p89_105, p89_106, p89_109, p89_112, p89_115, p89_118, p89_121, h20, c83, nI_ltI, hk, hb, l_dm_ok, l_dm_0, l_dm_1, l_dm_2, l_dm_2p, l_dm_3, l_dm_4, l_dm_4p, l_dm_5, l_dm_6, l_dm_6p, l_dm_7, l_dm_7p, l_dm_8, l_dm_8p, l_dm_9, l_dm_9p, l_dm_10, l_dm_11, l_dm_12, l_dm_13, l_dm_14, l_ou_ok, l_ou_0, l_ou_0p, l_ou_1, l_ou_1p, l_ou_2, l_ou_2p, l_ou_3, l_ou_4, l_ou_4p, l_ro_ok, l_ro_0, l_ro_1, l_ro_1p, l_ro_2, l_ro_2p, l_bx_ok, l_bx_0, l_bx_1, l_bx_1p, l_bx_2, l_bx_3, l_bx_3p, l_bx_4, l_bx_5, l_bx_5p, l_bxa_ar, l_bxa_ln, l_bxa_ia, l_bxa_e, l_lea_ar, l_lea_ln, l_lea_ia, l_lea_e, l_qua_ar, l_qua_ln, l_qua_ia, l_qua_e, l_bo_ar, l_bo_ln, l_bo_ia, l_bo_is, l_bo_e, l_bo_ep, l_go_ar, l_go_ln, l_go_ia, l_go_is, l_go_e, l_go_ep, l_pe_ar, l_pe_ln, l_pe_ia, l_pe_is, l_pe_e, l_pe_ep, l_fc_ar, l_fc_ln, l_fc_ia, l_fc_is, l_fc_e, l_fc_ep, l_sha_ar, l_sha_ln, l_sha_ia, l_sha_e, l_rua_ar, l_rua_ln, l_rua_ia, l_rua_e, l_rua_ep, l_rua_e2, l_coa_ar, l_coa_ln, l_coa_ia, l_coa_e, zvi_int, zvl_long, zvd_double, zvr_ref, zisI_int, zisR_ref, zgI_int, zgR_ref, zkl_int, zkl_ref, zkl_none, zkl_long, zkl_double, zct_nil, zct_int, zct_ref, zct_long, zct_double, zbk_some, zbk_none, zbk_exc, nI_clamp, nI_add, nI_mul, true_and, and_true, Nat.reduceAdd, Nat.reduceMul, Nat.reduceLeDiff, Nat.reducePow, ↓reduceIte, Nat.zero_add, Nat.add_zero, Nat.reduceLT, Nat.reduceEqDiff, Nat.le_refl, zn10, zn01, zfitB0, zfitB1, znarB0, znarB1, Nat.lt_irrefl, ↓zvi_eq, ↓zvr_eq, Bool.false_eq_true]) [] ⟨List.nodup_nil, fun j h => by cases h⟩ 4 (Nat.le_refl 4)).2
  refine hl.trans ?_
  rw [p89_9]
  simp (disch := omega) only [p89_0, p89_1, p89_4, p89_7, p89_8, p89_10, p89_11, p89_14, p89_15, p89_16, p89_19, p89_22, p89_23, p89_26, p89_27, p89_30, p89_33, p89_36, p89_37, p89_39, p89_40, p89_43, p89_44, p89_45, p89_48, p89_51, p89_54, p89_55, p89_58, p89_59, p89_62, p89_65, p89_66, p89_67, p89_68, p89_69, p89_70, p89_71, p89_74, p89_77, p89_78, p89_80, p89_82, p89_83, p89_86, p89_89, p89_92, p89_93, p89_96, p89_97, p89_100, p89_103, p89_105, p89_106, p89_109, p89_112, p89_115, p89_118, p89_121, nI_ltI, l_dm_ok, l_dm_0, l_dm_1, l_dm_2, l_dm_2p, l_dm_3, l_dm_4, l_dm_4p, l_dm_5, l_dm_6, l_dm_6p, l_dm_7, l_dm_7p, l_dm_8, l_dm_8p, l_dm_9, l_dm_9p, l_dm_10, l_dm_11, l_dm_12, l_dm_13, l_dm_14, l_ou_ok, l_ou_0, l_ou_0p, l_ou_1, l_ou_1p, l_ou_2, l_ou_2p, l_ou_3, l_ou_4, l_ou_4p, l_ro_ok, l_ro_0, l_ro_1, l_ro_1p, l_ro_2, l_ro_2p, l_bx_ok, l_bx_0, l_bx_1, l_bx_1p, l_bx_2, l_bx_3, l_bx_3p, l_bx_4, l_bx_5, l_bx_5p, l_bxa_ar, l_bxa_ln, l_bxa_ia, l_bxa_e, l_lea_ar, l_lea_ln, l_lea_ia, l_lea_e, l_qua_ar, l_qua_ln, l_qua_ia, l_qua_e, l_bo_ar, l_bo_ln, l_bo_ia, l_bo_is, l_bo_e, l_bo_ep, l_go_ar, l_go_ln, l_go_ia, l_go_is, l_go_e, l_go_ep, l_pe_ar, l_pe_ln, l_pe_ia, l_pe_is, l_pe_e, l_pe_ep, l_fc_ar, l_fc_ln, l_fc_ia, l_fc_is, l_fc_e, l_fc_ep, l_sha_ar, l_sha_ln, l_sha_ia, l_sha_e, l_rua_ar, l_rua_ln, l_rua_ia, l_rua_e, l_rua_ep, l_rua_e2, l_coa_ar, l_coa_ln, l_coa_ia, l_coa_e, zvi_int, zvl_long, zvd_double, zvr_ref, zisI_int, zisR_ref, zgI_int, zgR_ref, zkl_int, zkl_ref, zkl_none, zkl_long, zkl_double, zct_nil, zct_int, zct_ref, zct_long, zct_double, zbk_some, zbk_none, zbk_exc, nI_clamp, nI_add, nI_mul, true_and, and_true, Nat.reduceAdd, Nat.reduceMul, Nat.reduceLeDiff, Nat.reducePow, ↓reduceIte, Nat.zero_add, Nat.add_zero, Nat.reduceLT, Nat.reduceEqDiff, Nat.le_refl, zn10, zn01, zfitB0, zfitB1, znarB0, znarB1, Nat.lt_irrefl, ↓zvi_eq, ↓zvr_eq]
  exact hq Q
end ZC
