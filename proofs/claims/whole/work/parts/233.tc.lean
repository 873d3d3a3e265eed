/-! what rules tell, both ways (source: wip/whole/src/233.tc.txt, by expand2.py) -/
def jOK (c : Nat) (J : zJ) : Prop := zbl J.1 ∧ (∃ f, f < c ∧ J.2.1 = nI f) ∧ (∃ k, k < 4 ∧ J.2.2.1 = nI k) ∧ ∀ v, v ∈ J.2.2.2 → ∃ k, k < 4 ∧ v = nI k
def dOK (c : Nat) (d b : Int32) : Prop := (∃ k, k < 5 ∧ d = nI k) ∧ (d = nI 0 → ∃ f, f < c ∧ b = nI f) ∧ (d = nI 3 → ∃ k, k < 4 ∧ b = nI k)
theorem jOK_0 {c : Nat} (h : 0 < c) : jOK c zJ0 := ⟨zbl_0, ⟨0, h, rfl⟩, ⟨0, by omega, rfl⟩, fun v hv => by cases hv⟩
theorem nI_or12 {k : Nat} (hk : k < 4) : (∃ j, j < 4 ∧ nI k ||| nI 1 = nI j) ∧ ∃ j, j < 4 ∧ nI k ||| nI 2 = nI j := by
  have : k = 0 ∨ k = 1 ∨ k = 2 ∨ k = 3 := by omega
  rcases this with h | h | h | h <;> subst h
  · exact ⟨⟨1, by omega, by decide⟩, ⟨2, by omega, by decide⟩⟩
  · exact ⟨⟨1, by omega, by decide⟩, ⟨3, by omega, by decide⟩⟩
  · exact ⟨⟨3, by omega, by decide⟩, ⟨2, by omega, by decide⟩⟩
  · exact ⟨⟨3, by omega, by decide⟩, ⟨3, by omega, by decide⟩⟩
theorem jOK_ob {c : Nat} {J : zJ} {d b : Int32} (h : jOK c J) (hd : dOK c d b) : jOK c (sOb J d b) := by
  obtain ⟨h1, h2, ⟨k, hk, ek⟩, h4⟩ := h
  obtain ⟨d1, d2, d3⟩ := hd
  unfold sOb
  by_cases e0 : d = nI 0
  · rw [if_pos e0]; exact ⟨h1, d2 e0, ⟨k, hk, ek⟩, h4⟩
  rw [if_neg e0]
  by_cases e1 : d = nI 1
  · rw [if_pos e1]; exact ⟨h1, h2, by dsimp only; rw [ek]; exact (nI_or12 hk).2, h4⟩
  rw [if_neg e1]
  by_cases e2 : d = nI 2
  · rw [if_pos e2]; exact ⟨h1, h2, by dsimp only; rw [ek]; exact (nI_or12 hk).1, h4⟩
  rw [if_neg e2]
  by_cases e3 : d = nI 3
  · rw [if_pos e3]
    refine ⟨h1, h2, ⟨k, hk, ek⟩, fun v hv => ?_⟩
    rcases List.mem_append.mp hv with q | q
    · exact h4 v q
    · rw [List.mem_singleton] at q
      rw [q]; exact d3 e3
  · rw [if_neg e3]; exact ⟨zbl_1, h2, ⟨k, hk, ek⟩, h4⟩
theorem jOK_jd {c : Nat} {ru : Nat → Nat → Int32} {lf : Nat → Int32} {w : Int32} : ∀ (k r : Nat) (J : zJ), (∀ s, s < r + k → dOK c (ru 3 s) (ru 4 s)) → jOK c J → jOK c (sJd ru lf w k r J)
  | 0, _, _, _, h => h
  | k + 1, r, J, hd, h => by
    have h' := jOK_ob h (hd r (by omega))
    unfold sJd
    (repeat' split)
    · exact jOK_jd k (r + 1) _ (fun s hs => hd s (by omega)) h
    · exact jOK_jd k (r + 1) _ (fun s hs => hd s (by omega)) h'
    · exact h'
    · exact jOK_jd k (r + 1) _ (fun s hs => hd s (by omega)) h
theorem iRu_jd {x : zSt} {p c m : Nat} {lf : Nat → Int32} {w : Int32} (hc : 0 < c) (h : iRu x p c m) : jOK c (sJd (xRu x p) lf w m 0 zJ0) :=
  jOK_jd m 0 zJ0 (fun s hs => by
    have := h.2.2 s (by omega)
    exact this) (jOK_0 hc)
theorem iFl_1 {x : zSt} {p j : Nat} (h : zbl (x 20 p j) ∧ zbl (x 23 p j)) : iFl x p j &&& nI 1 = x 20 p j ∧ (if nI 1 < iFl x p j then nI 1 else nI 0) = x 23 p j := by
  unfold iFl
  rcases h.1 with e | e <;> rcases h.2 with e' | e' <;> rw [e, e'] <;> decide
theorem rJ {x y : zSt} {p n m i i' : Nat} {fc nr : Nat → Nat} {w : Int32} (hp : p < 4) (hR : iRu x p (fc p) (nr p)) (hRl : iRl x y n nr) (hl : ∀ j, j < 5 → sLf y i' j = sLf x i j) : sJd (yRu y p) (sLf y i') w (nr p) 0 zJ0 = sJd (xRu x p) (sLf x i) w (nr p) 0 zJ0 := by
  refine sJd_ext w hl (nr p) 0 zJ0 (fun j hj s hs => ?_)
  obtain ⟨⟨h1, h2, h3, h4⟩, h5, h6⟩ := hR
  obtain ⟨z, hz, ez⟩ := h3 s (by omega)
  obtain ⟨a1, a2, a3, a4, a5⟩ := hRl.2.2 p s hp (by omega)
  rw [ez, nI_clamp (by omega)] at a1 a2 a3 a4 a5
  obtain ⟨f1, f2⟩ := iFl_1 (h4 z hz)
  unfold yRu xRu
  rw [ez, nI_clamp (by omega)]
  have : j = 0 ∨ j = 1 ∨ j = 2 ∨ j = 3 ∨ j = 4 ∨ j = 5 := by omega
  rcases this with e | e | e | e | e | e <;> subst e
  · rw [if_pos rfl]; exact a1
  · rw [if_neg (by omega), if_pos rfl]; exact a2
  · rw [if_neg (by omega), if_neg (by omega), if_pos rfl, a3]; exact f1
  · rw [if_neg (by omega), if_neg (by omega), if_neg (by omega), if_pos rfl]; exact a4
  · rw [if_neg (by omega), if_neg (by omega), if_neg (by omega), if_neg (by omega), if_pos rfl]; exact a5
  · rw [if_neg (by omega), if_neg (by omega), if_neg (by omega), if_neg (by omega), if_neg (by omega), a3]; exact f2
/-- a letter written -/
def wLe (x : zSt) (i : Nat) (f s w z a t : Int32) : zSt := su (su (su (su (su (su x 30 (u2 (x 30) 0 i f)) 31 (u2 (x 31) 0 i s)) 32 (u2 (x 32) 0 i w)) 33 (u2 (x 33) 0 i z)) 34 (u2 (x 34) 0 i a)) 35 (u2 (x 35) 0 i t)
theorem wLe_o (x : zSt) (i : Nat) (f s w z a t : Int32) {c : Nat} (h : ¬ (30 ≤ c ∧ c ≤ 35)) : wLe x i f s w z a t c = x c := by
  unfold wLe
  simp only [su_eq]
  rw [if_neg (by omega), if_neg (by omega), if_neg (by omega), if_neg (by omega), if_neg (by omega), if_neg (by omega)]
theorem wLe_r (x : zSt) (i : Nat) (f s w z a t : Int32) : wLe x i f s w z a t 30 = u2 (x 30) 0 i f ∧ wLe x i f s w z a t 31 = u2 (x 31) 0 i s ∧ wLe x i f s w z a t 32 = u2 (x 32) 0 i w ∧ wLe x i f s w z a t 33 = u2 (x 33) 0 i z ∧ wLe x i f s w z a t 34 = u2 (x 34) 0 i a ∧ wLe x i f s w z a t 35 = u2 (x 35) 0 i t := ⟨rfl, rfl, rfl, rfl, rfl, rfl⟩
theorem wLe_q (x : zSt) (i : Nat) (f s w z a t : Int32) (c p k : Nat) (h : ¬ (30 ≤ c ∧ c ≤ 35 ∧ p = 0 ∧ k = i)) : wLe x i f s w z a t c p k = x c p k := by
  by_cases hc : 30 ≤ c ∧ c ≤ 35
  · obtain ⟨r0, r1, r2, r3, r4, r5⟩ := wLe_r x i f s w z a t
    have : c = 30 ∨ c = 31 ∨ c = 32 ∨ c = 33 ∨ c = 34 ∨ c = 35 := by omega
    rcases this with e | e | e | e | e | e <;> subst e
    · rw [r0, u2_eq, if_neg (by omega)]
    · rw [r1, u2_eq, if_neg (by omega)]
    · rw [r2, u2_eq, if_neg (by omega)]
    · rw [r3, u2_eq, if_neg (by omega)]
    · rw [r4, u2_eq, if_neg (by omega)]
    · rw [r5, u2_eq, if_neg (by omega)]
  · rw [wLe_o x i f s w z a t hc]
def lOK (f s w z : Int32) : Bool := rg f (nI 0) (nI 9) && (rg s (nI 0) (nI 99) && (rg w (nI 0) (nI 255) && rg z (nI 1) (nI 50)))
section ZC
variable {x y : zSt} {E : zEx} {Q : zO → zM → Prop} {M : zM}
theorem c2 {i : Nat} {f s w z a t : Int32} (hi : i < 61) : zcl 2 [.ref (aLe i), .int f, .int s, .int w, .int z, .int a, .int t] (zmem x y E) Q ↔ Q (.inl none) (zmem (wLe x i f s w z a t) y E) := by
  rw [e2]
  simp (disch := omega) only [p2_0, p2_1, p2_2, p2_5, p2_6, p2_7, p2_10, p2_11, p2_12, p2_15, p2_16, p2_18, p2_21, p2_22, p2_24, p2_27, p2_28, p2_30, p2_33, su_eq, wLe, l_le_ok, l_le_0, l_le_0p, l_le_1, l_le_1p, l_le_2, l_le_2p, l_le_3, l_le_3p, l_le_4, l_le_4p, l_le_5, l_le_5p, zvi_int, zvl_long, zvd_double, zvr_ref, zisI_int, zisR_ref, zgI_int, zgR_ref, zkl_int, zkl_ref, zkl_none, zkl_long, zkl_double, zct_nil, zct_int, zct_ref, zct_long, zct_double, zbk_some, zbk_none, zbk_exc, nI_clamp, nI_add, nI_mul, true_and, and_true, Nat.reduceAdd, Nat.reduceMul, Nat.reduceLeDiff, Nat.reducePow, ↓reduceIte, Nat.zero_add, Nat.add_zero, Nat.reduceLT, Nat.reduceEqDiff, Nat.le_refl, zn10, zn01, zfitB0, zfitB1, znarB0, znarB1, Nat.lt_irrefl, ↓zvi_eq, ↓zvr_eq]
theorem c81 {f s w z : Int32} : zcl 81 [.int f, .int s, .int w, .int z] M Q ↔ if lOK f s w z = true then Q (.inl none) M else Q (.inr 13) M := by
  rw [e81]
  unfold lOK rg
  by_cases a1 : f < nI 0
  · simp (disch := omega) only [p81_0, p81_1, p81_2, p81_4, p81_7, p81_8, p81_9, p81_11, p81_14, p81_15, p81_16, p81_19, p81_22, p81_23, p81_24, p81_26, p81_29, x81, e78, p78_0, p78_1, p78_2, p78_3, p78_6, p78_9, p78_20, x78, e82, p82_0, p82_1, p82_2, p82_5, p82_6, p82_7, p82_10, p82_11, p82_14, p82_15, a1, zvi_int, zvl_long, zvd_double, zvr_ref, zisI_int, zisR_ref, zgI_int, zgR_ref, zkl_int, zkl_ref, zkl_none, zkl_long, zkl_double, zct_nil, zct_int, zct_ref, zct_long, zct_double, zbk_some, zbk_none, zbk_exc, nI_clamp, nI_add, nI_mul, true_and, and_true, Nat.reduceAdd, Nat.reduceMul, Nat.reduceLeDiff, Nat.reducePow, ↓reduceIte, Nat.zero_add, Nat.add_zero, Nat.reduceLT, Nat.reduceEqDiff, Nat.le_refl, zn10, zn01, zfitB0, zfitB1, znarB0, znarB1, Nat.lt_irrefl, ↓zvi_eq, ↓zvr_eq, decide_true, Bool.not_true, Bool.false_and, Bool.false_eq_true]
  by_cases a2 : nI 9 < f
  · simp (disch := omega) only [p81_0, p81_1, p81_2, p81_4, p81_7, p81_8, p81_9, p81_11, p81_14, p81_15, p81_16, p81_19, p81_22, p81_23, p81_24, p81_26, p81_29, x81, e78, p78_0, p78_1, p78_2, p78_3, p78_6, p78_9, p78_20, x78, e82, p82_0, p82_1, p82_2, p82_5, p82_6, p82_7, p82_10, p82_11, p82_14, p82_15, a1, a2, zvi_int, zvl_long, zvd_double, zvr_ref, zisI_int, zisR_ref, zgI_int, zgR_ref, zkl_int, zkl_ref, zkl_none, zkl_long, zkl_double, zct_nil, zct_int, zct_ref, zct_long, zct_double, zbk_some, zbk_none, zbk_exc, nI_clamp, nI_add, nI_mul, true_and, and_true, Nat.reduceAdd, Nat.reduceMul, Nat.reduceLeDiff, Nat.reducePow, ↓reduceIte, Nat.zero_add, Nat.add_zero, Nat.reduceLT, Nat.reduceEqDiff, Nat.le_refl, zn10, zn01, zfitB0, zfitB1, znarB0, znarB1, Nat.lt_irrefl, ↓zvi_eq, ↓zvr_eq, decide_true, decide_false, Bool.not_true, Bool.not_false, Bool.false_and, Bool.and_false, Bool.false_eq_true]
  by_cases b1 : s < nI 0
  · simp (disch := omega) only [p81_0, p81_1, p81_2, p81_4, p81_7, p81_8, p81_9, p81_11, p81_14, p81_15, p81_16, p81_19, p81_22, p81_23, p81_24, p81_26, p81_29, x81, e78, p78_0, p78_1, p78_2, p78_3, p78_6, p78_9, p78_20, x78, e82, p82_0, p82_1, p82_2, p82_5, p82_6, p82_7, p82_10, p82_11, p82_14, p82_15, a1, a2, b1, zvi_int, zvl_long, zvd_double, zvr_ref, zisI_int, zisR_ref, zgI_int, zgR_ref, zkl_int, zkl_ref, zkl_none, zkl_long, zkl_double, zct_nil, zct_int, zct_ref, zct_long, zct_double, zbk_some, zbk_none, zbk_exc, nI_clamp, nI_add, nI_mul, true_and, and_true, Nat.reduceAdd, Nat.reduceMul, Nat.reduceLeDiff, Nat.reducePow, ↓reduceIte, Nat.zero_add, Nat.add_zero, Nat.reduceLT, Nat.reduceEqDiff, Nat.le_refl, zn10, zn01, zfitB0, zfitB1, znarB0, znarB1, Nat.lt_irrefl, ↓zvi_eq, ↓zvr_eq, decide_true, decide_false, Bool.not_true, Bool.not_false, Bool.false_and, Bool.and_false, Bool.true_and, Bool.false_eq_true]
  by_cases b2 : nI 99 < s
  · simp (disch := omega) only [p81_0, p81_1, p81_2, p81_4, p81_7, p81_8, p81_9, p81_11, p81_14, p81_15, p81_16, p81_19, p81_22, p81_23, p81_24, p81_26, p81_29, x81, e78, p78_0, p78_1, p78_2, p78_3, p78_6, p78_9, p78_20, x78, e82, p82_0, p82_1, p82_2, p82_5, p82_6, p82_7, p82_10, p82_11, p82_14, p82_15, a1, a2, b1, b2, zvi_int, zvl_long, zvd_double, zvr_ref, zisI_int, zisR_ref, zgI_int, zgR_ref, zkl_int, zkl_ref, zkl_none, zkl_long, zkl_double, zct_nil, zct_int, zct_ref, zct_long, zct_double, zbk_some, zbk_none, zbk_exc, nI_clamp, nI_add, nI_mul, true_and, and_true, Nat.reduceAdd, Nat.reduceMul, Nat.reduceLeDiff, Nat.reducePow, ↓reduceIte, Nat.zero_add, Nat.add_zero, Nat.reduceLT, Nat.reduceEqDiff, Nat.le_refl, zn10, zn01, zfitB0, zfitB1, znarB0, znarB1, Nat.lt_irrefl, ↓zvi_eq, ↓zvr_eq, decide_true, decide_false, Bool.not_true, Bool.not_false, Bool.false_and, Bool.and_false, Bool.true_and, Bool.false_eq_true]
  by_cases d1 : w < nI 0
  · simp (disch := omega) only [p81_0, p81_1, p81_2, p81_4, p81_7, p81_8, p81_9, p81_11, p81_14, p81_15, p81_16, p81_19, p81_22, p81_23, p81_24, p81_26, p81_29, x81, e78, p78_0, p78_1, p78_2, p78_3, p78_6, p78_9, p78_20, x78, e82, p82_0, p82_1, p82_2, p82_5, p82_6, p82_7, p82_10, p82_11, p82_14, p82_15, a1, a2, b1, b2, d1, zvi_int, zvl_long, zvd_double, zvr_ref, zisI_int, zisR_ref, zgI_int, zgR_ref, zkl_int, zkl_ref, zkl_none, zkl_long, zkl_double, zct_nil, zct_int, zct_ref, zct_long, zct_double, zbk_some, zbk_none, zbk_exc, nI_clamp, nI_add, nI_mul, true_and, and_true, Nat.reduceAdd, Nat.reduceMul, Nat.reduceLeDiff, Nat.reducePow, ↓reduceIte, Nat.zero_add, Nat.add_zero, Nat.reduceLT, Nat.reduceEqDiff, Nat.le_refl, zn10, zn01, zfitB0, zfitB1, znarB0, znarB1, Nat.lt_irrefl, ↓zvi_eq, ↓zvr_eq, decide_true, decide_false, Bool.not_true, Bool.not_false, Bool.false_and, Bool.and_false, Bool.true_and, Bool.false_eq_true]
  by_cases d2 : nI 255 < w
  · simp (disch := omega) only [p81_0, p81_1, p81_2, p81_4, p81_7, p81_8, p81_9, p81_11, p81_14, p81_15, p81_16, p81_19, p81_22, p81_23, p81_24, p81_26, p81_29, x81, e78, p78_0, p78_1, p78_2, p78_3, p78_6, p78_9, p78_20, x78, e82, p82_0, p82_1, p82_2, p82_5, p82_6, p82_7, p82_10, p82_11, p82_14, p82_15, a1, a2, b1, b2, d1, d2, zvi_int, zvl_long, zvd_double, zvr_ref, zisI_int, zisR_ref, zgI_int, zgR_ref, zkl_int, zkl_ref, zkl_none, zkl_long, zkl_double, zct_nil, zct_int, zct_ref, zct_long, zct_double, zbk_some, zbk_none, zbk_exc, nI_clamp, nI_add, nI_mul, true_and, and_true, Nat.reduceAdd, Nat.reduceMul, Nat.reduceLeDiff, Nat.reducePow, ↓reduceIte, Nat.zero_add, Nat.add_zero, Nat.reduceLT, Nat.reduceEqDiff, Nat.le_refl, zn10, zn01, zfitB0, zfitB1, znarB0, znarB1, Nat.lt_irrefl, ↓zvi_eq, ↓zvr_eq, decide_true, decide_false, Bool.not_true, Bool.not_false, Bool.false_and, Bool.and_false, Bool.true_and, Bool.false_eq_true]
  by_cases e1 : z < nI 1
  · simp (disch := omega) only [p81_0, p81_1, p81_2, p81_4, p81_7, p81_8, p81_9, p81_11, p81_14, p81_15, p81_16, p81_19, p81_22, p81_23, p81_24, p81_26, p81_29, x81, e78, p78_0, p78_1, p78_2, p78_3, p78_6, p78_9, p78_20, x78, e82, p82_0, p82_1, p82_2, p82_5, p82_6, p82_7, p82_10, p82_11, p82_14, p82_15, a1, a2, b1, b2, d1, d2, e1, zvi_int, zvl_long, zvd_double, zvr_ref, zisI_int, zisR_ref, zgI_int, zgR_ref, zkl_int, zkl_ref, zkl_none, zkl_long, zkl_double, zct_nil, zct_int, zct_ref, zct_long, zct_double, zbk_some, zbk_none, zbk_exc, nI_clamp, nI_add, nI_mul, true_and, and_true, Nat.reduceAdd, Nat.reduceMul, Nat.reduceLeDiff, Nat.reducePow, ↓reduceIte, Nat.zero_add, Nat.add_zero, Nat.reduceLT, Nat.reduceEqDiff, Nat.le_refl, zn10, zn01, zfitB0, zfitB1, znarB0, znarB1, Nat.lt_irrefl, ↓zvi_eq, ↓zvr_eq, decide_true, decide_false, Bool.not_true, Bool.not_false, Bool.false_and, Bool.and_false, Bool.true_and, Bool.false_eq_true]
  by_cases e2 : nI 50 < z
  · simp (disch := omega) only [p81_0, p81_1, p81_2, p81_4, p81_7, p81_8, p81_9, p81_11, p81_14, p81_15, p81_16, p81_19, p81_22, p81_23, p81_24, p81_26, p81_29, x81, e78, p78_0, p78_1, p78_2, p78_3, p78_6, p78_9, p78_20, x78, e82, p82_0, p82_1, p82_2, p82_5, p82_6, p82_7, p82_10, p82_11, p82_14, p82_15, a1, a2, b1, b2, d1, d2, e1, e2, zvi_int, zvl_long, zvd_double, zvr_ref, zisI_int, zisR_ref, zgI_int, zgR_ref, zkl_int, zkl_ref, zkl_none, zkl_long, zkl_double, zct_nil, zct_int, zct_ref, zct_long, zct_double, zbk_some, zbk_none, zbk_exc, nI_clamp, nI_add, nI_mul, true_and, and_true, Nat.reduceAdd, Nat.reduceMul, Nat.reduceLeDiff, Nat.reducePow, ↓reduceIte, Nat.zero_add, Nat.add_zero, Nat.reduceLT, Nat.reduceEqDiff, Nat.le_refl, zn10, zn01, zfitB0, zfitB1, znarB0, znarB1, Nat.lt_irrefl, ↓zvi_eq, ↓zvr_eq, decide_true, decide_false, Bool.not_true, Bool.not_false, Bool.false_and, Bool.and_false, Bool.true_and, Bool.false_eq_true]
  · simp (disch := omega) only [p81_0, p81_1, p81_2, p81_4, p81_7, p81_8, p81_9, p81_11, p81_14, p81_15, p81_16, p81_19, p81_22, p81_23, p81_24, p81_26, p81_29, x81, e78, p78_0, p78_1, p78_2, p78_3, p78_6, p78_9, p78_20, x78, e82, p82_0, p82_1, p82_2, p82_5, p82_6, p82_7, p82_10, p82_11, p82_14, p82_15, a1, a2, b1, b2, d1, d2, e1, e2, zvi_int, zvl_long, zvd_double, zvr_ref, zisI_int, zisR_ref, zgI_int, zgR_ref, zkl_int, zkl_ref, zkl_none, zkl_long, zkl_double, zct_nil, zct_int, zct_ref, zct_long, zct_double, zbk_some, zbk_none, zbk_exc, nI_clamp, nI_add, nI_mul, true_and, and_true, Nat.reduceAdd, Nat.reduceMul, Nat.reduceLeDiff, Nat.reducePow, ↓reduceIte, Nat.zero_add, Nat.add_zero, Nat.reduceLT, Nat.reduceEqDiff, Nat.le_refl, zn10, zn01, zfitB0, zfitB1, znarB0, znarB1, Nat.lt_irrefl, ↓zvi_eq, ↓zvr_eq, decide_false, Bool.not_false, Bool.and_self]
theorem c143 {f s w z : Int32} : zcl 143 [.int f, .int s, .int w, .int z] M Q ↔ if lOK f s w z = true then Q (.inl (some (.int (nI 1)))) M else Q (.inl (some (.int (nI 0)))) M := by
  rw [e143]
  unfold lOK rg
  by_cases a1 : f < nI 0
  · simp (disch := omega) only [p143_0, p143_1, p143_2, p143_4, p143_7, p143_10, p143_11, p143_12, p143_14, p143_17, p143_20, p143_21, p143_22, p143_25, p143_28, p143_31, p143_32, p143_33, p143_35, p143_38, p143_41, p143_42, p143_45, p143_46, e118, p118_0, p118_1, p118_2, p118_5, p118_6, p118_7, p118_10, p118_11, p118_14, p118_15, a1, zvi_int, zvl_long, zvd_double, zvr_ref, zisI_int, zisR_ref, zgI_int, zgR_ref, zkl_int, zkl_ref, zkl_none, zkl_long, zkl_double, zct_nil, zct_int, zct_ref, zct_long, zct_double, zbk_some, zbk_none, zbk_exc, nI_clamp, nI_add, nI_mul, true_and, and_true, Nat.reduceAdd, Nat.reduceMul, Nat.reduceLeDiff, Nat.reducePow, ↓reduceIte, Nat.zero_add, Nat.add_zero, Nat.reduceLT, Nat.reduceEqDiff, Nat.le_refl, zn10, zn01, zfitB0, zfitB1, znarB0, znarB1, Nat.lt_irrefl, ↓zvi_eq, ↓zvr_eq, decide_true, Bool.not_true, Bool.false_and, Bool.false_eq_true]
  by_cases a2 : nI 9 < f
  · simp (disch := omega) only [p143_0, p143_1, p143_2, p143_4, p143_7, p143_10, p143_11, p143_12, p143_14, p143_17, p143_20, p143_21, p143_22, p143_25, p143_28, p143_31, p143_32, p143_33, p143_35, p143_38, p143_41, p143_42, p143_45, p143_46, e118, p118_0, p118_1, p118_2, p118_5, p118_6, p118_7, p118_10, p118_11, p118_14, p118_15, a1, a2, zvi_int, zvl_long, zvd_double, zvr_ref, zisI_int, zisR_ref, zgI_int, zgR_ref, zkl_int, zkl_ref, zkl_none, zkl_long, zkl_double, zct_nil, zct_int, zct_ref, zct_long, zct_double, zbk_some, zbk_none, zbk_exc, nI_clamp, nI_add, nI_mul, true_and, and_true, Nat.reduceAdd, Nat.reduceMul, Nat.reduceLeDiff, Nat.reducePow, ↓reduceIte, Nat.zero_add, Nat.add_zero, Nat.reduceLT, Nat.reduceEqDiff, Nat.le_refl, zn10, zn01, zfitB0, zfitB1, znarB0, znarB1, Nat.lt_irrefl, ↓zvi_eq, ↓zvr_eq, decide_true, decide_false, Bool.not_true, Bool.not_false, Bool.false_and, Bool.and_false, Bool.false_eq_true]
  by_cases b1 : s < nI 0
  · simp (disch := omega) only [p143_0, p143_1, p143_2, p143_4, p143_7, p143_10, p143_11, p143_12, p143_14, p143_17, p143_20, p143_21, p143_22, p143_25, p143_28, p143_31, p143_32, p143_33, p143_35, p143_38, p143_41, p143_42, p143_45, p143_46, e118, p118_0, p118_1, p118_2, p118_5, p118_6, p118_7, p118_10, p118_11, p118_14, p118_15, a1, a2, b1, zvi_int, zvl_long, zvd_double, zvr_ref, zisI_int, zisR_ref, zgI_int, zgR_ref, zkl_int, zkl_ref, zkl_none, zkl_long, zkl_double, zct_nil, zct_int, zct_ref, zct_long, zct_double, zbk_some, zbk_none, zbk_exc, nI_clamp, nI_add, nI_mul, true_and, and_true, Nat.reduceAdd, Nat.reduceMul, Nat.reduceLeDiff, Nat.reducePow, ↓reduceIte, Nat.zero_add, Nat.add_zero, Nat.reduceLT, Nat.reduceEqDiff, Nat.le_refl, zn10, zn01, zfitB0, zfitB1, znarB0, znarB1, Nat.lt_irrefl, ↓zvi_eq, ↓zvr_eq, decide_true, decide_false, Bool.not_true, Bool.not_false, Bool.false_and, Bool.and_false, Bool.true_and, Bool.false_eq_true]
  by_cases b2 : nI 99 < s
  · simp (disch := omega) only [p143_0, p143_1, p143_2, p143_4, p143_7, p143_10, p143_11, p143_12, p143_14, p143_17, p143_20, p143_21, p143_22, p143_25, p143_28, p143_31, p143_32, p143_33, p143_35, p143_38, p143_41, p143_42, p143_45, p143_46, e118, p118_0, p118_1, p118_2, p118_5, p118_6, p118_7, p118_10, p118_11, p118_14, p118_15, a1, a2, b1, b2, zvi_int, zvl_long, zvd_double, zvr_ref, zisI_int, zisR_ref, zgI_int, zgR_ref, zkl_int, zkl_ref, zkl_none, zkl_long, zkl_double, zct_nil, zct_int, zct_ref, zct_long, zct_double, zbk_some, zbk_none, zbk_exc, nI_clamp, nI_add, nI_mul, true_and, and_true, Nat.reduceAdd, Nat.reduceMul, Nat.reduceLeDiff, Nat.reducePow, ↓reduceIte, Nat.zero_add, Nat.add_zero, Nat.reduceLT, Nat.reduceEqDiff, Nat.le_refl, zn10, zn01, zfitB0, zfitB1, znarB0, znarB1, Nat.lt_irrefl, ↓zvi_eq, ↓zvr_eq, decide_true, decide_false, Bool.not_true, Bool.not_false, Bool.false_and, Bool.and_false, Bool.true_and, Bool.false_eq_true]
  by_cases d1 : w < nI 0
  · simp (disch := omega) only [p143_0, p143_1, p143_2, p143_4, p143_7, p143_10, p143_11, p143_12, p143_14, p143_17, p143_20, p143_21, p143_22, p143_25, p143_28, p143_31, p143_32, p143_33, p143_35, p143_38, p143_41, p143_42, p143_45, p143_46, e118, p118_0, p118_1, p118_2, p118_5, p118_6, p118_7, p118_10, p118_11, p118_14, p118_15, a1, a2, b1, b2, d1, zvi_int, zvl_long, zvd_double, zvr_ref, zisI_int, zisR_ref, zgI_int, zgR_ref, zkl_int, zkl_ref, zkl_none, zkl_long, zkl_double, zct_nil, zct_int, zct_ref, zct_long, zct_double, zbk_some, zbk_none, zbk_exc, nI_clamp, nI_add, nI_mul, true_and, and_true, Nat.reduceAdd, Nat.reduceMul, Nat.reduceLeDiff, Nat.reducePow, ↓reduceIte, Nat.zero_add, Nat.add_zero, Nat.reduceLT, Nat.reduceEqDiff, Nat.le_refl, zn10, zn01, zfitB0, zfitB1, znarB0, znarB1, Nat.lt_irrefl, ↓zvi_eq, ↓zvr_eq, decide_true, decide_false, Bool.not_true, Bool.not_false, Bool.false_and, Bool.and_false, Bool.true_and, Bool.false_eq_true]
  by_cases d2 : nI 255 < w
  · simp (disch := omega) only [p143_0, p143_1, p143_2, p143_4, p143_7, p143_10, p143_11, p143_12, p143_14, p143_17, p143_20, p143_21, p143_22, p143_25, p143_28, p143_31, p143_32, p143_33, p143_35, p143_38, p143_41, p143_42, p143_45, p143_46, e118, p118_0, p118_1, p118_2, p118_5, p118_6, p118_7, p118_10, p118_11, p118_14, p118_15, a1, a2, b1, b2, d1, d2, zvi_int, zvl_long, zvd_double, zvr_ref, zisI_int, zisR_ref, zgI_int, zgR_ref, zkl_int, zkl_ref, zkl_none, zkl_long, zkl_double, zct_nil, zct_int, zct_ref, zct_long, zct_double, zbk_some, zbk_none, zbk_exc, nI_clamp, nI_add, nI_mul, true_and, and_true, Nat.reduceAdd, Nat.reduceMul, Nat.reduceLeDiff, Nat.reducePow, ↓reduceIte, Nat.zero_add, Nat.add_zero, Nat.reduceLT, Nat.reduceEqDiff, Nat.le_refl, zn10, zn01, zfitB0, zfitB1, znarB0, znarB1, Nat.lt_irrefl, ↓zvi_eq, ↓zvr_eq, decide_true, decide_false, Bool.not_true, Bool.not_false, Bool.false_and, Bool.and_false, Bool.true_and, Bool.false_eq_true]
  by_cases e1 : z < nI 1
  · simp (disch := omega) only [p143_0, p143_1, p143_2, p143_4, p143_7, p143_10, p143_11, p143_12, p143_14, p143_17, p143_20, p143_21, p143_22, p143_25, p143_28, p143_31, p143_32, p143_33, p143_35, p143_38, p143_41, p143_42, p143_45, p143_46, e118, p118_0, p118_1, p118_2, p118_5, p118_6, p118_7, p118_10, p118_11, p118_14, p118_15, a1, a2, b1, b2, d1, d2, e1, zvi_int, zvl_long, zvd_double, zvr_ref, zisI_int, zisR_ref, zgI_int, zgR_ref, zkl_int, zkl_ref, zkl_none, zkl_long, zkl_double, zct_nil, zct_int, zct_ref, zct_long, zct_double, zbk_some, zbk_none, zbk_exc, nI_clamp, nI_add, nI_mul, true_and, and_true, Nat.reduceAdd, Nat.reduceMul, Nat.reduceLeDiff, Nat.reducePow, ↓reduceIte, Nat.zero_add, Nat.add_zero, Nat.reduceLT, Nat.reduceEqDiff, Nat.le_refl, zn10, zn01, zfitB0, zfitB1, znarB0, znarB1, Nat.lt_irrefl, ↓zvi_eq, ↓zvr_eq, decide_true, decide_false, Bool.not_true, Bool.not_false, Bool.false_and, Bool.and_false, Bool.true_and, Bool.false_eq_true]
  by_cases e2 : nI 50 < z
  · simp (disch := omega) only [p143_0, p143_1, p143_2, p143_4, p143_7, p143_10, p143_11, p143_12, p143_14, p143_17, p143_20, p143_21, p143_22, p143_25, p143_28, p143_31, p143_32, p143_33, p143_35, p143_38, p143_41, p143_42, p143_45, p143_46, e118, p118_0, p118_1, p118_2, p118_5, p118_6, p118_7, p118_10, p118_11, p118_14, p118_15, a1, a2, b1, b2, d1, d2, e1, e2, zvi_int, zvl_long, zvd_double, zvr_ref, zisI_int, zisR_ref, zgI_int, zgR_ref, zkl_int, zkl_ref, zkl_none, zkl_long, zkl_double, zct_nil, zct_int, zct_ref, zct_long, zct_double, zbk_some, zbk_none, zbk_exc, nI_clamp, nI_add, nI_mul, true_and, and_true, Nat.reduceAdd, Nat.reduceMul, Nat.reduceLeDiff, Nat.reducePow, ↓reduceIte, Nat.zero_add, Nat.add_zero, Nat.reduceLT, Nat.reduceEqDiff, Nat.le_refl, zn10, zn01, zfitB0, zfitB1, znarB0, znarB1, Nat.lt_irrefl, ↓zvi_eq, ↓zvr_eq, decide_true, decide_false, Bool.not_true, Bool.not_false, Bool.false_and, Bool.and_false, Bool.true_and, Bool.false_eq_true]
  · simp (disch := omega) only [p143_0, p143_1, p143_2, p143_4, p143_7, p143_10, p143_11, p143_12, p143_14, p143_17, p143_20, p143_21, p143_22, p143_25, p143_28, p143_31, p143_32, p143_33, p143_35, p143_38, p143_41, p143_42, p143_45, p143_46, e118, p118_0, p118_1, p118_2, p118_5, p118_6, p118_7, p118_10, p118_11, p118_14, p118_15, a1, a2, b1, b2, d1, d2, e1, e2, zvi_int, zvl_long, zvd_double, zvr_ref, zisI_int, zisR_ref, zgI_int, zgR_ref, zkl_int, zkl_ref, zkl_none, zkl_long, zkl_double, zct_nil, zct_int, zct_ref, zct_long, zct_double, zbk_some, zbk_none, zbk_exc, nI_clamp, nI_add, nI_mul, true_and, and_true, Nat.reduceAdd, Nat.reduceMul, Nat.reduceLeDiff, Nat.reducePow, ↓reduceIte, Nat.zero_add, Nat.add_zero, Nat.reduceLT, Nat.reduceEqDiff, Nat.le_refl, zn10, zn01, zfitB0, zfitB1, znarB0, znarB1, Nat.lt_irrefl, ↓zvi_eq, ↓zvr_eq, decide_false, Bool.not_false, Bool.and_self]
theorem c144 {n : Nat} {f s w z a t : Int32} (hn : y 0 0 2 = nI n) (h60 : n ≤ 60) (ht : y 0 0 6 = t) : zcl 144 [.ref 409, .int f, .int s, .int w, .int z, .int a] (zmem x y E) Q ↔ Q (.inl none) (zmem x (wLe y n f s w z a t) E) := by
  rw [e144]
  simp (disch := omega) only [p144_0, p144_1, p144_4, p144_5, p144_8, p144_9, p144_10, p144_11, p144_14, p144_15, p144_18, p144_19, p144_20, p144_21, p144_24, p144_25, p144_28, p144_29, p144_30, p144_31, p144_34, p144_35, p144_38, p144_40, p144_41, p144_42, p144_45, p144_46, p144_49, p144_50, p144_53, p144_54, p144_55, p144_58, p144_59, p144_62, p144_64, p144_65, su_eq, hn, ht, l_md_ok, l_md_0, l_md_0p, l_md_1, l_md_1p, l_md_2, l_md_2p, l_md_3, l_md_3p, l_md_4, l_md_4p, l_md_5, l_md_6, l_md_7, l_md_8, l_md_9, l_md_10, l_md_11, l_md_12, l_md_13, l_md_14, l_md_15, l_md_16, l_md_17, l_md_17p, l_md_18, l_md_19, l_md_20, l_md_21, l_md_22, l_md_23, l_md_24, l_md_25, l_md_26, l_md_27, l_md_28, l_md_29, l_md_30, l_md_30p, l_md_31, l_md_32, l_md_33, l_md_34, l_md_34p, l_md_35, l_md_35p, l_md_36, l_md_36p, l_md_37, l_md_37p, l_md_38, l_mfrom_ar, l_mfrom_ln, l_mfrom_ia, l_mfrom_is, l_mfrom_e, l_mfrom_ep, l_msubject_ar, l_msubject_ln, l_msubject_ia, l_msubject_is, l_msubject_e, l_msubject_ep, l_mwords_ar, l_mwords_ln, l_mwords_ia, l_mwords_is, l_mwords_e, l_mwords_ep, l_msize_ar, l_msize_ln, l_msize_ia, l_msize_is, l_msize_e, l_msize_ep, l_mtime_ar, l_mtime_ln, l_mtime_ia, l_mtime_is, l_mtime_e, l_mtime_ep, l_manswers_ar, l_manswers_ln, l_manswers_ia, l_manswers_is, l_manswers_e, l_manswers_ep, zvi_int, zvl_long, zvd_double, zvr_ref, zisI_int, zisR_ref, zgI_int, zgR_ref, zkl_int, zkl_ref, zkl_none, zkl_long, zkl_double, zct_nil, zct_int, zct_ref, zct_long, zct_double, zbk_some, zbk_none, zbk_exc, nI_clamp, nI_add, nI_mul, true_and, and_true, Nat.reduceAdd, Nat.reduceMul, Nat.reduceLeDiff, Nat.reducePow, ↓reduceIte, Nat.zero_add, Nat.add_zero, Nat.reduceLT, Nat.reduceEqDiff, Nat.le_refl, zn10, zn01, zfitB0, zfitB1, znarB0, znarB1, Nat.lt_irrefl, ↓zvi_eq, ↓zvr_eq]
  refine Iff.of_eq (congrArg (fun z => Q (.inl none) (zmem x z E)) (funext fun c => ?_))
  unfold wLe
  simp only [su_eq, Nat.reduceEqDiff, reduceIte]
  by_cases h1 : c = 34
  · subst h1; rfl
  by_cases h2 : c = 35
  · subst h2; rfl
  simp only [h1, h2, reduceIte]
end ZC
theorem iRl_put {x y y' : zSt} {n : Nat} {nr : Nat → Nat} (h : iRl x y n nr) (hy : ∀ c p i, ¬ c = 2 → ¬ c = 4 → ¬ (30 ≤ c ∧ c ≤ 35 ∧ p = 0 ∧ i = n) → y' c p i = y c p i) : iRl x y' n nr := by
  obtain ⟨h6, h7, h8⟩ := h
  refine ⟨fun c hc => ?_, fun c i a1 a2 hi => ?_, fun p r hp hr => ?_⟩
  · rw [← h6 c hc]
    unfold iSh at hc
    exact funext fun q => funext fun k => hy c q k (by omega) (by omega) (by omega)
  · rw [hy c 0 i (by omega) (by omega) (by omega)]; exact h7 c i a1 a2 hi
  · have := h8 p r hp hr
    unfold iRr at this ⊢
    rw [hy 18 _ _ (by omega) (by omega) (by omega), hy 19 _ _ (by omega) (by omega) (by omega), hy 20 _ _ (by omega) (by omega) (by omega), hy 21 _ _ (by omega) (by omega) (by omega), hy 22 _ _ (by omega) (by omega) (by omega)]
    exact this
theorem zEqA_w {x x' : zSt} {f s w z a t : Int32} (h : zEq x' (wLe x 60 f s w z a t)) : zEqA x' x := fun c p i hc h60 => by
  rw [h c hc, wLe_q x 60 f s w z a t c p i (by omega)]
