/-! the law's loop: by program (wip/whole/gen/emit_loop.py) -/
theorem zand31 (v : Int32) : ∃ c, c < 32 ∧ v &&& nI 31 = nI c := by
  refine ⟨(v.toBitVec &&& 31#32).toNat, ?_, ?_⟩
  · rw [BitVec.toNat_and, show (31#32).toNat = 2 ^ 5 - 1 from rfl, Nat.and_two_pow_sub_one_eq_mod]; omega
  · apply Int32.toBitVec_inj.mp
    rw [Int32.toBitVec_and, show (nI 31).toBitVec = 31#32 by decide]
    show _ = BitVec.ofNat 32 _
    simp
theorem law_lp {L : Nat} {xs : Nat → Int32} (hL : L ≤ 4096) {Q : zO → zM → Prop} (hQ : ∀ M, Q (.inl (some (.int (nI 1)))) M) : ∀ (k i : Nat) (x y : zSt) (E : zEx) (b va vu : Nat) (l6 l7 l8 : Option Value), L < i + 8 * k + 8 → i ≤ 5000 → b + 2000 * k < 2000000 → va + 8 * k ≤ 100000 → vu + 480 * k ≤ 1000000 → gI L xs x y E b → zwp zm_211 (28, [some (.ref 0), some (.ref 1), some (.ref 409), some (.ref 438), some (.ref 439), some (.int (nI i)), l6, l7, l8], [], zmem x y E, va, vu) Q := by
  intro k
  induction k with
  | zero =>
    intro i x y E b va vu l6 l7 l8 h1 h2 h3 h4 h5 hg
    obtain ⟨hI, hE, hX⟩ := id hg
    have hlt : nI L - nI 8 < nI i := by
      rw [zsub_lt (by omega) (by omega) (by omega), nI_add, nI_ltI (by omega) (by omega)]; omega
    have hnar : (narrow .boolean (.int (nI 1)) = .int (nI 1)) = True := eq_true (by decide)
    have ha : ∀ x y, zarr (zmem x y E) 0 = True := fun x y => sc_arr hE
    have hn : ∀ x y, zlen' (zmem x y E) 0 = L := fun x y => sc_ln hE
    rw [p211_28]
    simp (disch := omega) only [p115_0, p115_1, p115_4, p211_30, p211_31, p211_32, p211_34, p211_35, p211_38, p211_39, p211_41, p211_42, p211_44, p211_2540, p211_2541, ha, hn, hlt, hnar, zle_t, zvi_int, zvl_long, zvd_double, zvr_ref, zisI_int, zisR_ref, zgI_int, zgR_ref, zkl_int, zkl_ref, zkl_none, zkl_long, zkl_double, zct_nil, zct_int, zct_ref, zct_long, zct_double, zbk_some, zbk_none, zbk_exc, nI_clamp, nI_add, nI_mul, true_and, and_true, Nat.reduceAdd, Nat.reduceMul, Nat.reduceLeDiff, Nat.reducePow, ↓reduceIte, Nat.zero_add, Nat.add_zero, Nat.reduceLT, Nat.reduceEqDiff, Nat.le_refl, zn10, zn01, zfitB0, zfitB1, znarB0, znarB1, Nat.lt_irrefl, ↓zvi_eq, ↓zvr_eq]
    exact hQ _
  | succ k ih =>
    intro i x y E b va vu l6 l7 l8 h1 h2 h3 h4 h5 hg
    obtain ⟨hI, hE, hX⟩ := id hg
    have ha : ∀ x y, zarr (zmem x y E) 0 = True := fun x y => sc_arr hE
    have hn : ∀ x y, zlen' (zmem x y E) 0 = L := fun x y => sc_ln hE
    have hnar : (narrow .boolean (.int (nI 1)) = .int (nI 1)) = True := eq_true (by decide)
    by_cases hi : L < i + 8
    · have hlt : nI L - nI 8 < nI i := by
        rw [zsub_lt (by omega) (by omega) (by omega), nI_add, nI_ltI (by omega) (by omega)]; omega
      rw [p211_28]
      simp (disch := omega) only [p115_0, p115_1, p115_4, p211_30, p211_31, p211_32, p211_34, p211_35, p211_38, p211_39, p211_41, p211_42, p211_44, p211_2540, p211_2541, ha, hn, hlt, hnar, zle_t, zvi_int, zvl_long, zvd_double, zvr_ref, zisI_int, zisR_ref, zgI_int, zgR_ref, zkl_int, zkl_ref, zkl_none, zkl_long, zkl_double, zct_nil, zct_int, zct_ref, zct_long, zct_double, zbk_some, zbk_none, zbk_exc, nI_clamp, nI_add, nI_mul, true_and, and_true, Nat.reduceAdd, Nat.reduceMul, Nat.reduceLeDiff, Nat.reducePow, ↓reduceIte, Nat.zero_add, Nat.add_zero, Nat.reduceLT, Nat.reduceEqDiff, Nat.le_refl, zn10, zn01, zfitB0, zfitB1, znarB0, znarB1, Nat.lt_irrefl, ↓zvi_eq, ↓zvr_eq]
      exact hQ _
    · have hlt : ¬ nI L - nI 8 < nI i := by
        rw [zsub_lt (by omega) (by omega) (by omega), nI_add, nI_ltI (by omega) (by omega)]; omega
      have s1 : ∀ (x y : zSt) (j : Nat), j < L → zias (zmem x y E) 0 (nI j) = True := fun x y j hj => sc_is hE hj hL
      have r1 : ∀ (x y : zSt) (j : Nat), zrd (zmem x y E) 0 j = .int (xs j) := fun x y j => sc_rd.trans (hX j)
      have tail : gT L xs b i va vu Q := by
        intro x y E va' vu' l6 l7 l8 hg' hv1 hv2
        rw [p211_2534, p211_2537]
        have := ih (i + 8) x y E (b + 2000) va' vu' l6 l7 l8 (by omega) (by omega) (by omega) (by omega) (by omega) hg'
        simp only [zkl_ref, nI_add]
        exact this
      have hi8 : i + 8 ≤ L := by omega
      have q1 : b < 2000000 := by omega
      have q2 : va ≤ 100000 := by omega
      have q3 : vu ≤ 1000000 := by omega
      rw [p211_28]
      simp (disch := omega) only [p115_0, p115_1, p115_4, p211_30, p211_31, p211_32, p211_34, p211_35, p211_38, p211_39, p211_41, p211_42, p211_44, ha, hn, hlt, s1, r1, zle_t, zvi_int, zvl_long, zvd_double, zvr_ref, zisI_int, zisR_ref, zgI_int, zgR_ref, zkl_int, zkl_ref, zkl_none, zkl_long, zkl_double, zct_nil, zct_int, zct_ref, zct_long, zct_double, zbk_some, zbk_none, zbk_exc, nI_clamp, nI_add, nI_mul, true_and, and_true, Nat.reduceAdd, Nat.reduceMul, Nat.reduceLeDiff, Nat.reducePow, ↓reduceIte, Nat.zero_add, Nat.add_zero, Nat.reduceLT, Nat.reduceEqDiff, Nat.le_refl, zn10, zn01, zfitB0, zfitB1, znarB0, znarB1, Nat.lt_irrefl, ↓zvi_eq, ↓zvr_eq]
      obtain ⟨c, hc, e⟩ := zand31 (xs i)
      rw [e, p211_45]
      have hcs : c = 0 ∨ c = 1 ∨ c = 2 ∨ c = 3 ∨ c = 4 ∨ c = 5 ∨ c = 6 ∨ c = 7 ∨ c = 8 ∨ c = 9 ∨ c = 10 ∨ c = 11 ∨ c = 12 ∨ c = 13 ∨ c = 14 ∨ c = 15 ∨ c = 16 ∨ c = 17 ∨ c = 18 ∨ c = 19 ∨ c = 20 ∨ c = 21 ∨ c = 22 ∨ c = 23 ∨ c = 24 ∨ c = 25 ∨ c = 26 ∨ c = 27 ∨ c = 28 ∨ c = 29 ∨ c = 30 ∨ c = 31 := by omega
      rcases hcs with rfl | rfl | rfl | rfl | rfl | rfl | rfl | rfl | rfl | rfl | rfl | rfl | rfl | rfl | rfl | rfl | rfl | rfl | rfl | rfl | rfl | rfl | rfl | rfl | rfl | rfl | rfl | rfl | rfl | rfl | rfl | rfl
      · simp (disch := omega) only [nI_eq, Nat.reduceEqDiff, ↓reduceIte]
        exact law_0 hL hi8 q1 q2 q3 hg tail
      · simp (disch := omega) only [nI_eq, Nat.reduceEqDiff, ↓reduceIte]
        exact law_1 hL hi8 q1 q2 q3 hg tail
      · simp (disch := omega) only [nI_eq, Nat.reduceEqDiff, ↓reduceIte]
        exact law_2 hL hi8 q1 q2 q3 hg tail
      · simp (disch := omega) only [nI_eq, Nat.reduceEqDiff, ↓reduceIte]
        exact law_3 hL hi8 q1 q2 q3 hg tail
      · simp (disch := omega) only [nI_eq, Nat.reduceEqDiff, ↓reduceIte]
        exact law_4 hL hi8 q1 q2 q3 hg tail
      · simp (disch := omega) only [nI_eq, Nat.reduceEqDiff, ↓reduceIte]
        exact law_5 hL hi8 q1 q2 q3 hg tail
      · simp (disch := omega) only [nI_eq, Nat.reduceEqDiff, ↓reduceIte]
        exact law_6 hL hi8 q1 q2 q3 hg tail
      · simp (disch := omega) only [nI_eq, Nat.reduceEqDiff, ↓reduceIte]
        exact law_7 hL hi8 q1 q2 q3 hg tail
      · simp (disch := omega) only [nI_eq, Nat.reduceEqDiff, ↓reduceIte]
        exact law_8 hL hi8 q1 q2 q3 hg tail
      · simp (disch := omega) only [nI_eq, Nat.reduceEqDiff, ↓reduceIte]
        exact law_9 hL hi8 q1 q2 q3 hg tail
      · simp (disch := omega) only [nI_eq, Nat.reduceEqDiff, ↓reduceIte]
        exact law_10 hL hi8 q1 q2 q3 hg tail
      · simp (disch := omega) only [nI_eq, Nat.reduceEqDiff, ↓reduceIte]
        exact law_11 hL hi8 q1 q2 q3 hg tail
      · simp (disch := omega) only [nI_eq, Nat.reduceEqDiff, ↓reduceIte]
        exact law_12 hL hi8 q1 q2 q3 hg tail
      · simp (disch := omega) only [nI_eq, Nat.reduceEqDiff, ↓reduceIte]
        exact law_13 hL hi8 q1 q2 q3 hg tail
      · simp (disch := omega) only [nI_eq, Nat.reduceEqDiff, ↓reduceIte]
        exact law_14 hL hi8 q1 q2 q3 hg tail
      · simp (disch := omega) only [nI_eq, Nat.reduceEqDiff, ↓reduceIte]
        exact law_15 hL hi8 q1 q2 q3 hg tail
      · simp (disch := omega) only [nI_eq, Nat.reduceEqDiff, ↓reduceIte]
        exact law_16 hL hi8 q1 q2 q3 hg tail
      · simp (disch := omega) only [nI_eq, Nat.reduceEqDiff, ↓reduceIte]
        exact law_17 hL hi8 q1 q2 q3 hg tail
      · simp (disch := omega) only [nI_eq, Nat.reduceEqDiff, ↓reduceIte]
        exact law_18 hL hi8 q1 q2 q3 hg tail
      · simp (disch := omega) only [nI_eq, Nat.reduceEqDiff, ↓reduceIte]
        exact law_19 hL hi8 q1 q2 q3 hg tail
      · simp (disch := omega) only [nI_eq, Nat.reduceEqDiff, ↓reduceIte]
        exact law_20 hL hi8 q1 q2 q3 hg tail
      · simp (disch := omega) only [nI_eq, Nat.reduceEqDiff, ↓reduceIte]
        exact law_21 hL hi8 q1 q2 q3 hg tail
      · simp (disch := omega) only [nI_eq, Nat.reduceEqDiff, ↓reduceIte]
        exact law_22 hL hi8 q1 q2 q3 hg tail
      · simp (disch := omega) only [nI_eq, Nat.reduceEqDiff, ↓reduceIte]
        exact law_23 hL hi8 q1 q2 q3 hg tail
      · simp (disch := omega) only [nI_eq, Nat.reduceEqDiff, ↓reduceIte]
        exact law_24 hL hi8 q1 q2 q3 hg tail
      · simp (disch := omega) only [nI_eq, Nat.reduceEqDiff, ↓reduceIte]
        exact law_25 hL hi8 q1 q2 q3 hg tail
      · simp (disch := omega) only [nI_eq, Nat.reduceEqDiff, ↓reduceIte]
        exact law_26 hL hi8 q1 q2 q3 hg tail
      · simp (disch := omega) only [nI_eq, Nat.reduceEqDiff, ↓reduceIte]
        exact law_27 hL hi8 q1 q2 q3 hg tail
      · simp (disch := omega) only [nI_eq, Nat.reduceEqDiff, ↓reduceIte]
        exact law_28 hL hi8 q1 q2 q3 hg tail
      · simp (disch := omega) only [nI_eq, Nat.reduceEqDiff, ↓reduceIte]
        exact law_29 hL hi8 q1 q2 q3 hg tail
      · simp (disch := omega) only [nI_eq, Nat.reduceEqDiff, ↓reduceIte]
        exact law_30 hL hi8 q1 q2 q3 hg tail
      · simp (disch := omega) only [nI_eq, Nat.reduceEqDiff, ↓reduceIte]
        exact law_31 hL hi8 q1 q2 q3 hg tail
