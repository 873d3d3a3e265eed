/-! contracts of the class's methods: what rules tell (source: wip/p35/src/194.c5.txt, by expand.py) -/
abbrev zJ : Type := Int32 × Int32 × Int32 × List Int32
/-- what a judge leaves: thrown away, folder, marks, who it goes on to -/
def pJ (x : zSt) (J : zJ) : zSt := su (su x 3 (fun p i => if p = 0 ∧ i = 0 then J.1 else if p = 0 ∧ i = 1 then J.2.1 else if p = 0 ∧ i = 2 then J.2.2.1 else if p = 0 ∧ i = 4 then nI J.2.2.2.length else x 3 p i)) 4 (fun p i => if p = 0 ∧ i < J.2.2.2.length then J.2.2.2.getD i 0 else x 4 p i)
theorem zS_ext {x x' : zSt} (h : ∀ c p i, x c p i = x' c p i) : x = x' := funext fun c => funext fun p => funext fun i => h c p i
theorem pJ_3 (x : zSt) (J : zJ) (p i : Nat) : pJ x J 3 p i = if p = 0 ∧ i = 0 then J.1 else if p = 0 ∧ i = 1 then J.2.1 else if p = 0 ∧ i = 2 then J.2.2.1 else if p = 0 ∧ i = 4 then nI J.2.2.2.length else x 3 p i := rfl
theorem pJ_4 (x : zSt) (J : zJ) (p i : Nat) : pJ x J 4 p i = if p = 0 ∧ i < J.2.2.2.length then J.2.2.2.getD i 0 else x 4 p i := rfl
theorem pJ_o (x : zSt) (J : zJ) {c : Nat} (h3 : ¬ c = 3) (h4 : ¬ c = 4) : pJ x J c = x c := by
  simp only [pJ, su_eq, h3, h4, reduceIte]
section ZC
variable {x y : zSt} {E : zEx} {Q : zO → zM → Prop}
theorem pJ_ext {x x' : zSt} {J : zJ} (h : ∀ c, ¬ c = 3 → ¬ c = 4 → x' c = x c) (h3 : ∀ p i, x' 3 p i = pJ x J 3 p i) (h4 : ∀ p i, x' 4 p i = pJ x J 4 p i) : x' = pJ x J := by
  refine zS_ext (fun c p i => ?_)
  by_cases e3 : c = 3
  · subst e3; exact h3 p i
  by_cases e4 : c = 4
  · subst e4; exact h4 p i
  rw [pJ_o x J e3 e4, h c e3 e4]
theorem c15 : zcl 15 [.ref 8] (zmem x y E) Q ↔ Q (.inl none) (zmem (pJ x (nI 0, nI 0, nI 0, [])) y E) := by
  rw [e15]
  simp (disch := omega) only [p15_0, p15_1, p15_2, p15_5, p15_6, p15_7, p15_10, p15_11, p15_12, p15_15, p15_16, p15_17, p15_20, su_eq, l_ou_ok, l_ou_0, l_ou_0p, l_ou_1, l_ou_1p, l_ou_2, l_ou_2p, l_ou_3, l_ou_4, l_ou_4p, l_go_ar, l_go_ln, l_go_ia, l_go_is, l_go_e, l_go_ep, zvi_int, zvl_long, zvd_double, zvr_ref, zisI_int, zisR_ref, zgI_int, zgR_ref, zkl_int, zkl_ref, zkl_none, zkl_long, zkl_double, zct_nil, zct_int, zct_ref, zct_long, zct_double, zbk_some, zbk_none, zbk_exc, nI_clamp, nI_add, nI_mul, true_and, and_true, Nat.reduceAdd, Nat.reduceMul, Nat.reduceLeDiff, Nat.reducePow, ↓reduceIte, Nat.zero_add, Nat.add_zero, Nat.reduceLT, Nat.reduceEqDiff, Nat.le_refl, zn10, zn01, zfitB0, zfitB1, znarB0, znarB1, Nat.lt_irrefl, ↓zvi_eq, ↓zvr_eq]
  refine Iff.of_eq (congrArg (fun z => Q (.inl none) (zmem z y E)) (pJ_ext (fun c h3 h4 => ?_) (fun p i => ?_) (fun p i => ?_)))
  · simp only [su_eq, h3, reduceIte]
  · simp only [su_eq, u2_eq, pJ_3, reduceIte, List.length_nil]
    (repeat' split) <;> first | rfl | omega
  · simp only [su_eq, pJ_4, List.length_nil, Nat.not_lt_zero, and_false, reduceIte, Nat.reduceEqDiff]
end ZC
def sOb (J : zJ) (does b : Int32) : zJ := if does = nI 0 then (J.1, b, J.2.2.1, J.2.2.2) else if does = nI 1 then (J.1, J.2.1, J.2.2.1 ||| nI 2, J.2.2.2) else if does = nI 2 then (J.1, J.2.1, J.2.2.1 ||| nI 1, J.2.2.2) else if does = nI 3 then (J.1, J.2.1, J.2.2.1, J.2.2.2 ++ [b]) else (nI 1, J.2.1, J.2.2.1, J.2.2.2)
section ZC
variable {x y : zSt} {E : zEx} {Q : zO → zM → Prop}
theorem pJ_21 (x : zSt) (J : zJ) {c : Nat} (h3 : ¬ c = 3) (h4 : ¬ c = 4) : pJ x J c = x c := pJ_o x J h3 h4
theorem c17 {J : zJ} {b : Int32} (hJ : J.2.2.2.length < 6) : zcl 17 [.ref 8, .int b] (zmem (pJ x J) y E) Q ↔ Q (.inl none) (zmem (pJ x (J.1, J.2.1, J.2.2.1, J.2.2.2 ++ [b])) y E) := by
  rw [e17]
  have hc : pJ x J 3 0 4 = nI J.2.2.2.length := rfl
  simp (disch := omega) only [p17_0, p17_1, p17_4, p17_5, p17_8, p17_9, p17_12, p17_13, p17_16, p17_17, p17_20, p17_21, p17_22, p17_23, p17_23i, p17_24, p17_27, p17_28, p17_29, p17_32, su_eq, hc, nI_ltI, hJ, l_ou_ok, l_ou_0, l_ou_0p, l_ou_1, l_ou_1p, l_ou_2, l_ou_2p, l_ou_3, l_ou_4, l_ou_4p, l_go_ar, l_go_ln, l_go_ia, l_go_is, l_go_e, l_go_ep, zvi_int, zvl_long, zvd_double, zvr_ref, zisI_int, zisR_ref, zgI_int, zgR_ref, zkl_int, zkl_ref, zkl_none, zkl_long, zkl_double, zct_nil, zct_int, zct_ref, zct_long, zct_double, zbk_some, zbk_none, zbk_exc, nI_clamp, nI_add, nI_mul, true_and, and_true, Nat.reduceAdd, Nat.reduceMul, Nat.reduceLeDiff, Nat.reducePow, ↓reduceIte, Nat.zero_add, Nat.add_zero, Nat.reduceLT, Nat.reduceEqDiff, Nat.le_refl, zn10, zn01, zfitB0, zfitB1, znarB0, znarB1, Nat.lt_irrefl, ↓zvi_eq, ↓zvr_eq]
  refine Iff.of_eq (congrArg (fun z => Q (.inl none) (zmem z y E)) (pJ_ext (fun c h3 h4 => ?_) (fun p i => ?_) (fun p i => ?_)))
  · simp only [su_eq, h3, h4, reduceIte, pJ_o x J h3 h4]
  · simp only [su_eq, u2_eq, pJ_3, reduceIte, List.length_append, List.length_cons, List.length_nil]
    (repeat' split) <;> first | rfl | omega
  · simp only [su_eq, u2_eq, pJ_4, List.length_append, List.length_cons, List.length_nil, Nat.reduceEqDiff, reduceIte]
    by_cases hp : p = 0
    · by_cases h1 : i = J.2.2.2.length
      · subst h1
        rw [if_pos ⟨hp, rfl⟩, if_pos ⟨hp, by omega⟩]
        simp
      · rw [if_neg (fun e => h1 e.2)]
        by_cases h2 : i < J.2.2.2.length
        · rw [if_pos ⟨hp, h2⟩, if_pos ⟨hp, by omega⟩]
          simp [List.getD_eq_getElem?_getD, List.getElem?_append_left h2]
        · rw [if_neg (fun e => h2 e.2), if_neg (fun e => by omega)]
    · simp only [hp, false_and, reduceIte]
end ZC
