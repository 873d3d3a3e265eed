/-! bits (pure), rules judged (source: wip/p35/src/196.c7.txt, by expand.py) -/
theorem zsh31 {k : Nat} (hk : k < 32) : nI k &&& 31 = nI k := by
  have : k = 0 ∨ k = 1 ∨ k = 2 ∨ k = 3 ∨ k = 4 ∨ k = 5 ∨ k = 6 ∨ k = 7 ∨ k = 8 ∨ k = 9 ∨ k = 10 ∨ k = 11 ∨ k = 12 ∨ k = 13 ∨ k = 14 ∨ k = 15 ∨ k = 16 ∨ k = 17 ∨ k = 18 ∨ k = 19 ∨ k = 20 ∨ k = 21 ∨ k = 22 ∨ k = 23 ∨ k = 24 ∨ k = 25 ∨ k = 26 ∨ k = 27 ∨ k = 28 ∨ k = 29 ∨ k = 30 ∨ k = 31 := by omega
  rcases this with h|h|h|h|h|h|h|h|h|h|h|h|h|h|h|h|h|h|h|h|h|h|h|h|h|h|h|h|h|h|h|h <;> subst h <;> decide
theorem zand1 (x : Int32) : decide (x &&& nI 1 = nI 1) = x.toBitVec.getLsbD 0 := by
  have h : (x &&& nI 1 = nI 1) ↔ (x.toBitVec &&& 1#32 = 1#32) := by
    constructor
    · intro h
      have := congrArg Int32.toBitVec h
      simpa [nI] using this
    · intro h
      apply Int32.toBitVec_inj.mp
      simpa [nI] using h
  rw [decide_eq_decide.mpr h]
  by_cases hb : x.toBitVec.getLsbD 0 = true
  · rw [hb, decide_eq_true_eq]
    apply BitVec.eq_of_getLsbD_eq
    intro i hi
    simp only [BitVec.getLsbD_and]
    by_cases h0 : i = 0
    · subst h0; simp [hb]
    · simp [BitVec.getLsbD_one, h0]
  · simp only [Bool.not_eq_true] at hb
    rw [hb, decide_eq_false_iff_not]
    intro h
    have := congrArg (fun z => BitVec.getLsbD z 0) h
    have h2 : x.toBitVec.getLsbD 0 = true := by simpa using this
    rw [hb] at h2
    cases h2
theorem zsr_bit (s : Int32) {k : Nat} (hk : k < 32) (i : Nat) (hi : k + i < 32) : (s >>> nI k).toBitVec.getLsbD i = s.toBitVec.getLsbD (k + i) := by
  rw [Int32.toBitVec_shiftRight]
  have e : ((nI k).toBitVec.smod 32) = BitVec.ofNat 32 k := by
    have : k = 0 ∨ k = 1 ∨ k = 2 ∨ k = 3 ∨ k = 4 ∨ k = 5 ∨ k = 6 ∨ k = 7 ∨ k = 8 ∨ k = 9 ∨ k = 10 ∨ k = 11 ∨ k = 12 ∨ k = 13 ∨ k = 14 ∨ k = 15 ∨ k = 16 ∨ k = 17 ∨ k = 18 ∨ k = 19 ∨ k = 20 ∨ k = 21 ∨ k = 22 ∨ k = 23 ∨ k = 24 ∨ k = 25 ∨ k = 26 ∨ k = 27 ∨ k = 28 ∨ k = 29 ∨ k = 30 ∨ k = 31 := by omega
    rcases this with h|h|h|h|h|h|h|h|h|h|h|h|h|h|h|h|h|h|h|h|h|h|h|h|h|h|h|h|h|h|h|h <;> subst h <;> decide
  rw [e]
  rw [BitVec.sshiftRight_eq', BitVec.getLsbD_sshiftRight]
  have : (BitVec.ofNat 32 k).toNat = k := by simp; omega
  rw [this]
  have h1 : decide (32 ≤ i) = false := decide_eq_false (by omega)
  simp [h1, hi]
theorem zsl_bit {k i : Nat} (hk : k < 32) (hi : i < 32) : (nI 1 <<< nI k).toBitVec.getLsbD i = decide (i = k) := by
  rw [Int32.toBitVec_shiftLeft]
  have e : ((nI k).toBitVec.smod 32) = BitVec.ofNat 32 k := by
    have : k = 0 ∨ k = 1 ∨ k = 2 ∨ k = 3 ∨ k = 4 ∨ k = 5 ∨ k = 6 ∨ k = 7 ∨ k = 8 ∨ k = 9 ∨ k = 10 ∨ k = 11 ∨ k = 12 ∨ k = 13 ∨ k = 14 ∨ k = 15 ∨ k = 16 ∨ k = 17 ∨ k = 18 ∨ k = 19 ∨ k = 20 ∨ k = 21 ∨ k = 22 ∨ k = 23 ∨ k = 24 ∨ k = 25 ∨ k = 26 ∨ k = 27 ∨ k = 28 ∨ k = 29 ∨ k = 30 ∨ k = 31 := by omega
    rcases this with h|h|h|h|h|h|h|h|h|h|h|h|h|h|h|h|h|h|h|h|h|h|h|h|h|h|h|h|h|h|h|h <;> subst h <;> decide
  rw [e, BitVec.shiftLeft_eq', BitVec.getLsbD_shiftLeft]
  have : (BitVec.ofNat 32 k).toNat = k := by simp; omega
  rw [this]
  have e1 : (nI 1).toBitVec = 1#32 := by decide
  rw [e1, BitVec.getLsbD_one]
  by_cases h1 : i < k
  · simp [h1, hi]; omega
  · by_cases h2 : i = k
    · subst h2; simp [hi]
    · simp [hi, h1, h2]; omega
theorem zbit_eq (s : Int32) {k : Nat} (hk : k < 32) : zbit s (nI k) = s.toBitVec.getLsbD k := by
  unfold zbit
  rw [zand1, zsh31 hk, zsr_bit s hk 0 hk, Nat.add_zero]
theorem zbit_or (s : Int32) {j k : Nat} (hj : j < 32) (hk : k < 32) : zbit (s ||| (nI 1 <<< (nI j &&& 31))) (nI k) = (zbit s (nI k) || decide (k = j)) := by
  rw [zbit_eq _ hk, zbit_eq _ hk, zsh31 hj, Int32.toBitVec_or, BitVec.getLsbD_or, zsl_bit hj hk]
theorem zbit_0 {k : Nat} (hk : k < 32) : zbit (nI 0) (nI k) = false := by
  rw [zbit_eq _ hk]
  have e1 : (nI 0).toBitVec = 0#32 := by decide
  rw [e1, BitVec.getLsbD_zero]
/-- what a row of rules tells: ru j r is word j (asks, a, isNot, does, b, isLast) of the rule at the place r -/
def sJd (ru : Nat → Nat → Int32) (lf : Nat → Int32) (w : Int32) : Nat → Nat → zJ → zJ
  | 0, _, J => J
  | k + 1, r, J => if nI r = w then sJd ru lf w k (r + 1) J else if sHo (ru 0 r) (ru 1 r) (ru 2 r) lf = true then (if ru 5 r = nI 0 then sJd ru lf w k (r + 1) (sOb J (ru 3 r) (ru 4 r)) else sOb J (ru 3 r) (ru 4 r)) else sJd ru lf w k (r + 1) J
def xRu (x : zSt) (p : Nat) : Nat → Nat → Int32 := fun j r => x (18 + j) p (x 17 p r).toNatClampNeg
/-- a box's rules are laid well -/
def zRul (x : zSt) (p n : Nat) : Prop := x 13 p 3 = nI n ∧ n ≤ 6 ∧ (∀ r, r < 6 → ∃ k, k < 6 ∧ x 17 p r = nI k) ∧ ∀ k, k < 6 → zbl (x 20 p k) ∧ zbl (x 23 p k)
theorem sLf_pJ (x : zSt) (J : zJ) (i : Nat) : sLf (pJ x J) i = sLf x i := funext fun j => by
  unfold sLf
  rw [pJ_o x J (by omega) (by omega)]
abbrev zJ0 : zJ := (nI 0, nI 0, nI 0, [])
theorem sOb_len (J : zJ) (d b : Int32) : (sOb J d b).2.2.2.length ≤ J.2.2.2.length + 1 := by
  unfold sOb
  (repeat' split) <;> simp
theorem sJd_len (ru : Nat → Nat → Int32) (lf : Nat → Int32) (w : Int32) : ∀ (k r : Nat) (J : zJ), r + k ≤ 6 → J.2.2.2.length ≤ r → (sJd ru lf w k r J).2.2.2.length ≤ 6
  | 0, r, J, hk, hJ => by unfold sJd; omega
  | k + 1, r, J, hk, hJ => by
    have hl := sOb_len J (ru 3 r) (ru 4 r)
    unfold sJd
    (repeat' split) <;> first | exact sJd_len ru lf w k (r + 1) _ (by omega) (by omega) | omega
section ZC
variable {x y : zSt} {E : zEx} {Q : zO → zM → Prop}
theorem c39 {p i n : Nat} {w : Int32} (hp : p < 4) (hi : i < 61) (hR : zRul x p n) : zcl 39 [.ref (aBx p), .ref (aLe i), .int w, .ref 8] (zmem x y E) Q ↔ Q (.inl none) (zmem (pJ x (sJd (xRu x p) (sLf x i) w n 0 zJ0)) y E) := by
  obtain ⟨hn, h6, hr, hb⟩ := hR
  rw [e39]
  simp (disch := omega) only [p39_0, p39_1, p39_4, p39_5, p39_7, p39_8, p39_12, p39_13, p39_16, p39_19, p39_21, p39_24, p39_25, p39_28, p39_30, p39_31, p39_33, p39_35, p39_36, p39_39, p39_41, p39_42, p39_45, p39_48, p39_49, p39_51, p39_54, p39_56, p39_59, p39_61, p39_64, p39_67, c15, l_ou_ok, l_ou_0, l_ou_0p, l_ou_1, l_ou_1p, l_ou_2, l_ou_2p, l_ou_3, l_ou_4, l_ou_4p, l_bx_ok, l_bx_0, l_bx_1, l_bx_1p, l_bx_2, l_bx_3, l_bx_3p, l_bx_4, l_bx_5, l_bx_5p, l_ru_ok, l_ru_0, l_ru_0p, l_ru_1, l_ru_1p, l_ru_2, l_ru_2p, l_ru_3, l_ru_3p, l_ru_4, l_ru_4p, l_ru_5, l_ru_5p, l_go_ar, l_go_ln, l_go_ia, l_go_is, l_go_e, l_go_ep, l_sha_ar, l_sha_ln, l_sha_ia, l_sha_e, l_rua_ar, l_rua_ln, l_rua_ia, l_rua_e, l_rua_ep, l_rua_e2, l_coa_ar, l_coa_ln, l_coa_ia, l_coa_e, zvi_int, zvl_long, zvd_double, zvr_ref, zisI_int, zisR_ref, zgI_int, zgR_ref, zkl_int, zkl_ref, zkl_none, zkl_long, zkl_double, zct_nil, zct_int, zct_ref, zct_long, zct_double, zbk_some, zbk_none, zbk_exc, nI_clamp, nI_add, nI_mul, true_and, and_true, Nat.reduceAdd, Nat.reduceMul, Nat.reduceLeDiff, Nat.reducePow, ↓reduceIte, Nat.zero_add, Nat.add_zero, Nat.reduceLT, Nat.reduceEqDiff, Nat.le_refl, zn10, zn01, zfitB0, zfitB1, znarB0, znarB1, Nat.lt_irrefl, ↓zvi_eq, ↓zvr_eq]
  have key : ∀ (k r : Nat) (J : zJ) (l6 : Option Value), r + k = n → J.2.2.2.length ≤ r → (zwp zm_39 (10, [some (.ref (aBx p)), some (.ref (aLe i)), some (.int w), some (.ref 8), some (.int (nI 0)), some (.int (nI r)), l6], [], zmem (pJ x J) y E, 0, 0) Q ↔ Q (.inl none) (zmem (pJ x (sJd (xRu x p) (sLf x i) w k r J)) y E)) := by
    intro k
    induction k with
    | zero =>
      intro r J l6 hk hJ
      have : r = n := by omega
      subst this
      have h13 : pJ x J 13 p 3 = nI r := hn
      rw [p39_10]
      simp (disch := omega) only [p39_0, p39_1, p39_4, p39_5, p39_7, p39_8, p39_12, p39_13, p39_16, p39_19, p39_21, p39_24, p39_25, p39_28, p39_30, p39_31, p39_33, p39_35, p39_36, p39_39, p39_41, p39_42, p39_45, p39_48, p39_49, p39_51, p39_54, p39_56, p39_59, p39_61, p39_64, p39_67, h13, nI_ltI, l_ou_ok, l_ou_0, l_ou_0p, l_ou_1, l_ou_1p, l_ou_2, l_ou_2p, l_ou_3, l_ou_4, l_ou_4p, l_bx_ok, l_bx_0, l_bx_1, l_bx_1p, l_bx_2, l_bx_3, l_bx_3p, l_bx_4, l_bx_5, l_bx_5p, l_ru_ok, l_ru_0, l_ru_0p, l_ru_1, l_ru_1p, l_ru_2, l_ru_2p, l_ru_3, l_ru_3p, l_ru_4, l_ru_4p, l_ru_5, l_ru_5p, l_go_ar, l_go_ln, l_go_ia, l_go_is, l_go_e, l_go_ep, l_sha_ar, l_sha_ln, l_sha_ia, l_sha_e, l_rua_ar, l_rua_ln, l_rua_ia, l_rua_e, l_rua_ep, l_rua_e2, l_coa_ar, l_coa_ln, l_coa_ia, l_coa_e, zvi_int, zvl_long, zvd_double, zvr_ref, zisI_int, zisR_ref, zgI_int, zgR_ref, zkl_int, zkl_ref, zkl_none, zkl_long, zkl_double, zct_nil, zct_int, zct_ref, zct_long, zct_double, zbk_some, zbk_none, zbk_exc, nI_clamp, nI_add, nI_mul, true_and, and_true, Nat.reduceAdd, Nat.reduceMul, Nat.reduceLeDiff, Nat.reducePow, ↓reduceIte, Nat.zero_add, Nat.add_zero, Nat.reduceLT, Nat.reduceEqDiff, Nat.le_refl, zn10, zn01, zfitB0, zfitB1, znarB0, znarB1, Nat.lt_irrefl, ↓zvi_eq, ↓zvr_eq, sJd]
    | succ k ih =>
      intro r J l6 hk hJ
      have h13 : ∀ J, pJ x J 13 p 3 = nI n := fun J => hn
      have h9 : r < n := by omega
      obtain ⟨j, hj, hrj⟩ := hr r (by omega)
      have h17 : pJ x J 17 p r = nI j := hrj
      have h12 := fun (Q : zO → zM → Prop) => c12 (x := pJ x J) (y := y) (E := E) (Q := Q) (p := p) (k := j) (i := i) hp hj hi (hb j hj).1
      have h16 := fun (Q : zO → zM → Prop) => c16 (x := x) (y := y) (E := E) (Q := Q) (p := p) (k := j) (J := J) hp hj (by omega)
      have e18 : pJ x J 18 p j = x 18 p j := rfl
      have e19 : pJ x J 19 p j = x 19 p j := rfl
      have e20 : pJ x J 20 p j = x 20 p j := rfl
      have e23 : ∀ J, pJ x J 23 p j = x 23 p j := fun J => rfl
      have r0 : xRu x p 0 r = x 18 p j := by unfold xRu; rw [hrj, nI_clamp (by omega)]
      have r1 : xRu x p 1 r = x 19 p j := by unfold xRu; rw [hrj, nI_clamp (by omega)]
      have r2 : xRu x p 2 r = x 20 p j := by unfold xRu; rw [hrj, nI_clamp (by omega)]
      have r3 : xRu x p 3 r = x 21 p j := by unfold xRu; rw [hrj, nI_clamp (by omega)]
      have r4 : xRu x p 4 r = x 22 p j := by unfold xRu; rw [hrj, nI_clamp (by omega)]
      have r5 : xRu x p 5 r = x 23 p j := by unfold xRu; rw [hrj, nI_clamp (by omega)]
      rw [p39_10]
      simp (disch := omega) only [p39_0, p39_1, p39_4, p39_5, p39_7, p39_8, p39_12, p39_13, p39_16, p39_19, p39_21, p39_24, p39_25, p39_28, p39_30, p39_31, p39_33, p39_35, p39_36, p39_39, p39_41, p39_42, p39_45, p39_48, p39_49, p39_51, p39_54, p39_56, p39_59, p39_61, p39_64, p39_67, h13, h17, h12, h16, nI_ltI, h9, sLf_pJ, e18, e19, e20, e23, l_ou_ok, l_ou_0, l_ou_0p, l_ou_1, l_ou_1p, l_ou_2, l_ou_2p, l_ou_3, l_ou_4, l_ou_4p, l_bx_ok, l_bx_0, l_bx_1, l_bx_1p, l_bx_2, l_bx_3, l_bx_3p, l_bx_4, l_bx_5, l_bx_5p, l_ru_ok, l_ru_0, l_ru_0p, l_ru_1, l_ru_1p, l_ru_2, l_ru_2p, l_ru_3, l_ru_3p, l_ru_4, l_ru_4p, l_ru_5, l_ru_5p, l_go_ar, l_go_ln, l_go_ia, l_go_is, l_go_e, l_go_ep, l_sha_ar, l_sha_ln, l_sha_ia, l_sha_e, l_rua_ar, l_rua_ln, l_rua_ia, l_rua_e, l_rua_ep, l_rua_e2, l_coa_ar, l_coa_ln, l_coa_ia, l_coa_e, zvi_int, zvl_long, zvd_double, zvr_ref, zisI_int, zisR_ref, zgI_int, zgR_ref, zkl_int, zkl_ref, zkl_none, zkl_long, zkl_double, zct_nil, zct_int, zct_ref, zct_long, zct_double, zbk_some, zbk_none, zbk_exc, nI_clamp, nI_add, nI_mul, true_and, and_true, Nat.reduceAdd, Nat.reduceMul, Nat.reduceLeDiff, Nat.reducePow, ↓reduceIte, Nat.zero_add, Nat.add_zero, Nat.reduceLT, Nat.reduceEqDiff, Nat.le_refl, zn10, zn01, zfitB0, zfitB1, znarB0, znarB1, Nat.lt_irrefl, ↓zvi_eq, ↓zvr_eq, sJd, r0, r1, r2, r3, r4, r5]
      by_cases hw : nI r = w
      · simp only [hw, reduceIte]
        exact ih (r + 1) J _ (by omega) (by omega)
      · by_cases hh : sHo (x 18 p j) (x 19 p j) (x 20 p j) (sLf x i) = true
        · have hl := sOb_len J (x 21 p j) (x 22 p j)
          rcases (hb j hj).2 with h | h
          · simp only [hw, hh, h, reduceIte]
            exact ih (r + 1) _ _ (by omega) (by omega)
          · simp only [hw, hh, h, zn10, reduceIte]
            rw [p39_10]
            simp (disch := omega) only [p39_0, p39_1, p39_4, p39_5, p39_7, p39_8, p39_12, p39_13, p39_16, p39_19, p39_21, p39_24, p39_25, p39_28, p39_30, p39_31, p39_33, p39_35, p39_36, p39_39, p39_41, p39_42, p39_45, p39_48, p39_49, p39_51, p39_54, p39_56, p39_59, p39_61, p39_64, p39_67, h13, l_ou_ok, l_ou_0, l_ou_0p, l_ou_1, l_ou_1p, l_ou_2, l_ou_2p, l_ou_3, l_ou_4, l_ou_4p, l_bx_ok, l_bx_0, l_bx_1, l_bx_1p, l_bx_2, l_bx_3, l_bx_3p, l_bx_4, l_bx_5, l_bx_5p, l_ru_ok, l_ru_0, l_ru_0p, l_ru_1, l_ru_1p, l_ru_2, l_ru_2p, l_ru_3, l_ru_3p, l_ru_4, l_ru_4p, l_ru_5, l_ru_5p, l_go_ar, l_go_ln, l_go_ia, l_go_is, l_go_e, l_go_ep, l_sha_ar, l_sha_ln, l_sha_ia, l_sha_e, l_rua_ar, l_rua_ln, l_rua_ia, l_rua_e, l_rua_ep, l_rua_e2, l_coa_ar, l_coa_ln, l_coa_ia, l_coa_e, zvi_int, zvl_long, zvd_double, zvr_ref, zisI_int, zisR_ref, zgI_int, zgR_ref, zkl_int, zkl_ref, zkl_none, zkl_long, zkl_double, zct_nil, zct_int, zct_ref, zct_long, zct_double, zbk_some, zbk_none, zbk_exc, nI_clamp, nI_add, nI_mul, true_and, and_true, Nat.reduceAdd, Nat.reduceMul, Nat.reduceLeDiff, Nat.reducePow, ↓reduceIte, Nat.zero_add, Nat.add_zero, Nat.reduceLT, Nat.reduceEqDiff, Nat.le_refl, zn10, zn01, zfitB0, zfitB1, znarB0, znarB1, Nat.lt_irrefl, ↓zvi_eq, ↓zvr_eq, ite_self]
        · simp only [hw, hh, reduceIte, Bool.false_eq_true]
          exact ih (r + 1) J _ (by omega) (by omega)
  exact key n 0 zJ0 _ (by omega) (Nat.le_refl 0)
theorem c91 {p n : Nat} {s : Int32} (hp : p < 4) (hn : x 0 0 2 = nI n) (h60 : n ≤ 60) : zcl 91 [.ref 2, .ref (aBx p), .int s] (zmem x y E) Q ↔ if x 13 p 5 < sSz (x 25 p) (x 33 0) n + s then Q (.inl (some (.int (nI 0)))) (zmem x y E) else Q (.inl (some (.int (nI 1)))) (zmem x y E) := by
  rw [e91]
  have h102 := fun (Q : zO → zM → Prop) => c102 (x := x) (y := y) (E := E) (Q := Q) (p := p) hp hn h60
  simp (disch := omega) only [p91_0, p91_1, p91_2, p91_5, p91_6, p91_7, p91_8, p91_11, p91_14, p91_15, p91_18, p91_19, h102, l_dm_ok, l_dm_0, l_dm_1, l_dm_2, l_dm_2p, l_dm_3, l_dm_4, l_dm_4p, l_dm_5, l_dm_6, l_dm_6p, l_dm_7, l_dm_7p, l_dm_8, l_dm_8p, l_dm_9, l_dm_9p, l_dm_10, l_dm_11, l_dm_12, l_dm_13, l_dm_14, l_bx_ok, l_bx_0, l_bx_1, l_bx_1p, l_bx_2, l_bx_3, l_bx_3p, l_bx_4, l_bx_5, l_bx_5p, l_bxa_ar, l_bxa_ln, l_bxa_ia, l_bxa_e, l_lea_ar, l_lea_ln, l_lea_ia, l_lea_e, l_qua_ar, l_qua_ln, l_qua_ia, l_qua_e, l_bo_ar, l_bo_ln, l_bo_ia, l_bo_is, l_bo_e, l_bo_ep, l_fc_ar, l_fc_ln, l_fc_ia, l_fc_is, l_fc_e, l_fc_ep, l_sha_ar, l_sha_ln, l_sha_ia, l_sha_e, l_rua_ar, l_rua_ln, l_rua_ia, l_rua_e, l_rua_ep, l_rua_e2, l_coa_ar, l_coa_ln, l_coa_ia, l_coa_e, zvi_int, zvl_long, zvd_double, zvr_ref, zisI_int, zisR_ref, zgI_int, zgR_ref, zkl_int, zkl_ref, zkl_none, zkl_long, zkl_double, zct_nil, zct_int, zct_ref, zct_long, zct_double, zbk_some, zbk_none, zbk_exc, nI_clamp, nI_add, nI_mul, true_and, and_true, Nat.reduceAdd, Nat.reduceMul, Nat.reduceLeDiff, Nat.reducePow, ↓reduceIte, Nat.zero_add, Nat.add_zero, Nat.reduceLT, Nat.reduceEqDiff, Nat.le_refl, zn10, zn01, zfitB0, zfitB1, znarB0, znarB1, Nat.lt_irrefl, ↓zvi_eq, ↓zvr_eq]
end ZC
