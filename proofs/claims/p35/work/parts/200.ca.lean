/-! contracts of the class's methods: threads (source: wip/p35/src/200.ca.txt, by expand.py) -/
/-- a loop beside a pure one -/
theorem zforR {X T : Type} {n : Nat} {f : Nat → T → T} {P : Nat → X → (zO → zM → Prop) → Prop} {R : Nat → T → X → Prop} (h : ∀ i t x, i < n → R i t x → ∃ x', R (i + 1) (f i t) x' ∧ ∀ Q, P i x Q ↔ P (i + 1) x' Q) (t : T) (x : X) (h0 : R 0 t x) : ∀ k, k ≤ n → ∃ x', R k (zfo f k t) x' ∧ ∀ Q, P 0 x Q ↔ P k x' Q
  | 0, _ => ⟨x, h0, fun _ => Iff.rfl⟩
  | k + 1, hk => by
    obtain ⟨x1, g1, g2⟩ := zforR h t x h0 k (by omega)
    obtain ⟨x2, g3, g4⟩ := h k _ x1 (by omega) g1
    exact ⟨x2, g3, fun Q => (g2 Q).trans (g4 Q)⟩
def oI (v : Option Nat) : Int32 := match v with
  | none => -1
  | some j => nI j
theorem oI_none : oI none = -1 := rfl
theorem oI_some (j : Nat) : oI (some j) = nI j := rfl
theorem oI_m1 {v : Option Nat} (h : ∀ j, v = some j → j < 60) : (oI v = -1) = (v = none) := by
  cases v with
  | none => exact propext ⟨fun _ => rfl, fun _ => rfl⟩
  | some j => exact propext ⟨fun e => absurd e (nI_m1 (by have := h j rfl; omega)), fun e => by cases e⟩
/-- the class's store beside the pure one: outside, and while a thread is followed -/
def tR0 (x0 : zSt) (n : Nat) (T : tT) (x : zSt) : Prop := (∀ c, (c < 7 ∨ 11 < c) → x c = x0 c) ∧ (∀ i, i < n → x 8 0 i = oI (T.1 i)) ∧ (∀ i, i < n → x 9 0 i = nI (T.2.1 i)) ∧ (∀ i, i < n → x 10 0 i = nI (T.2.2.1 i)) ∧ x 7 0 5 = nI T.2.2.2.2
def tR (x0 : zSt) (n : Nat) (T : tT) (x : zSt) : Prop := tR0 x0 n T x ∧ x 7 0 4 = nI T.2.2.2.1.length ∧ ∀ j, j < T.2.2.2.1.length → x 11 0 j = nI (T.2.2.2.1.getD j 0)
def xKe (x : zSt) (p : Nat) : Nat → Bool := fun i => !decide (x 25 p i = -1)
def xSe (x : zSt) (p : Nat) : Nat → Bool := fun i => zbit (x 27 p i) (nI 0)
def sRh (x : zSt) (p m root k : Nat) : zSt :=
  su (su (if zbit (x 27 p m) (nI 0) = true then su (su x 8 (u2 (x 8) 0 m (nI root))) 9 (u2 (x 9) 0 root (x 9 0 root + nI 1)) else su (su (su x 8 (u2 (x 8) 0 m (nI root))) 9 (u2 (x 9) 0 root (x 9 0 root + nI 1))) 10 (u2 (x 10) 0 root (x 10 0 root + nI 1))) 11 (u2 (x 11) 0 k (nI m))) 7 (u2 (x 7) 0 4 (nI (k + 1)))
section ZC
variable {x y : zSt} {E : zEx} {Q : zO → zM → Prop}
theorem c29 {p m root k : Nat} (hp : p < 4) (hm : m < 60) (hr : root < 60) (hk : k < 60) (h7 : x 7 0 4 = nI k) : zcl 29 [.ref 12, .ref (aBx p), .int (nI m), .int (nI root)] (zmem x y E) Q ↔ Q (.inl none) (zmem (sRh x p m root k) y E) := by
  rw [e29]
  unfold sRh
  by_cases hs : zbit (x 27 p m) (nI 0) = true
  · simp (disch := omega) only [p29_0, p29_1, p29_4, p29_5, p29_6, p29_7, p29_8, p29_11, p29_12, p29_13, p29_14, p29_15, p29_16, p29_17, p29_18, p29_21, p29_22, p29_23, p29_24, p29_27, p29_30, p29_31, p29_34, p29_35, p29_36, p29_37, p29_38, p29_39, p29_40, p29_41, p29_44, p29_45, p29_48, p29_49, p29_52, p29_53, p29_56, p29_57, p29_60, p29_61, p29_62, p29_63, p29_63i, p29_64, p29_67, p29_68, p29_69, p29_72, c6, su_eq, u2_eq, h7, hs, nI_ltI, hk, and_self, l_tm_ok, l_tm_0, l_tm_1, l_tm_2, l_tm_3, l_tm_4, l_tm_4p, l_tm_5, l_tm_5p, l_bx_ok, l_bx_0, l_bx_1, l_bx_1p, l_bx_2, l_bx_3, l_bx_3p, l_bx_4, l_bx_5, l_bx_5p, l_co_ok, l_co_0, l_co_0p, l_co_1, l_co_1p, l_co_2, l_co_2p, l_co_3, l_co_3p, l_co_4, l_co_4p, l_co_5, l_co_5p, l_rt_ar, l_rt_ln, l_rt_ia, l_rt_is, l_rt_e, l_rt_ep, l_cc_ar, l_cc_ln, l_cc_ia, l_cc_is, l_cc_e, l_cc_ep, l_ns_ar, l_ns_ln, l_ns_ia, l_ns_is, l_ns_e, l_ns_ep, l_rc_ar, l_rc_ln, l_rc_ia, l_rc_is, l_rc_e, l_rc_ep, l_sha_ar, l_sha_ln, l_sha_ia, l_sha_e, l_rua_ar, l_rua_ln, l_rua_ia, l_rua_e, l_rua_ep, l_rua_e2, l_coa_ar, l_coa_ln, l_coa_ia, l_coa_e, zvi_int, zvl_long, zvd_double, zvr_ref, zisI_int, zisR_ref, zgI_int, zgR_ref, zkl_int, zkl_ref, zkl_none, zkl_long, zkl_double, zct_nil, zct_int, zct_ref, zct_long, zct_double, zbk_some, zbk_none, zbk_exc, nI_clamp, nI_add, nI_mul, true_and, and_true, Nat.reduceAdd, Nat.reduceMul, Nat.reduceLeDiff, Nat.reducePow, ↓reduceIte, Nat.zero_add, Nat.add_zero, Nat.reduceLT, Nat.reduceEqDiff, Nat.le_refl, zn10, zn01, zfitB0, zfitB1, znarB0, znarB1, Nat.lt_irrefl, ↓zvi_eq, ↓zvr_eq]
  · simp (disch := omega) only [p29_0, p29_1, p29_4, p29_5, p29_6, p29_7, p29_8, p29_11, p29_12, p29_13, p29_14, p29_15, p29_16, p29_17, p29_18, p29_21, p29_22, p29_23, p29_24, p29_27, p29_30, p29_31, p29_34, p29_35, p29_36, p29_37, p29_38, p29_39, p29_40, p29_41, p29_44, p29_45, p29_48, p29_49, p29_52, p29_53, p29_56, p29_57, p29_60, p29_61, p29_62, p29_63, p29_63i, p29_64, p29_67, p29_68, p29_69, p29_72, c6, su_eq, u2_eq, h7, hs, nI_ltI, hk, and_self, l_tm_ok, l_tm_0, l_tm_1, l_tm_2, l_tm_3, l_tm_4, l_tm_4p, l_tm_5, l_tm_5p, l_bx_ok, l_bx_0, l_bx_1, l_bx_1p, l_bx_2, l_bx_3, l_bx_3p, l_bx_4, l_bx_5, l_bx_5p, l_co_ok, l_co_0, l_co_0p, l_co_1, l_co_1p, l_co_2, l_co_2p, l_co_3, l_co_3p, l_co_4, l_co_4p, l_co_5, l_co_5p, l_rt_ar, l_rt_ln, l_rt_ia, l_rt_is, l_rt_e, l_rt_ep, l_cc_ar, l_cc_ln, l_cc_ia, l_cc_is, l_cc_e, l_cc_ep, l_ns_ar, l_ns_ln, l_ns_ia, l_ns_is, l_ns_e, l_ns_ep, l_rc_ar, l_rc_ln, l_rc_ia, l_rc_is, l_rc_e, l_rc_ep, l_sha_ar, l_sha_ln, l_sha_ia, l_sha_e, l_rua_ar, l_rua_ln, l_rua_ia, l_rua_e, l_rua_ep, l_rua_e2, l_coa_ar, l_coa_ln, l_coa_ia, l_coa_e, zvi_int, zvl_long, zvd_double, zvr_ref, zisI_int, zisR_ref, zgI_int, zgR_ref, zkl_int, zkl_ref, zkl_none, zkl_long, zkl_double, zct_nil, zct_int, zct_ref, zct_long, zct_double, zbk_some, zbk_none, zbk_exc, nI_clamp, nI_add, nI_mul, true_and, and_true, Nat.reduceAdd, Nat.reduceMul, Nat.reduceLeDiff, Nat.reducePow, ↓reduceIte, Nat.zero_add, Nat.add_zero, Nat.reduceLT, Nat.reduceEqDiff, Nat.le_refl, zn10, zn01, zfitB0, zfitB1, znarB0, znarB1, Nat.lt_irrefl, ↓zvi_eq, ↓zvr_eq, Bool.false_eq_true]
theorem c27 {p m : Nat} (hp : p < 4) (hm : m < 60) : zcl 27 [.ref 12, .ref (aBx p), .int (nI m)] (zmem x y E) Q ↔ if x 8 0 m = -1 then (if x 25 p m = -1 then Q (.inl (some (.int (nI 0)))) (zmem x y E) else Q (.inl (some (.int (nI 1)))) (zmem x y E)) else Q (.inl (some (.int (nI 0)))) (zmem x y E) := by
  rw [e27]
  simp (disch := omega) only [p27_0, p27_1, p27_4, p27_5, p27_6, p27_7, p27_10, p27_11, p27_14, p27_15, p27_16, p27_19, p27_22, p27_23, p27_26, p27_27, c5, l_tm_ok, l_tm_0, l_tm_1, l_tm_2, l_tm_3, l_tm_4, l_tm_4p, l_tm_5, l_tm_5p, l_bx_ok, l_bx_0, l_bx_1, l_bx_1p, l_bx_2, l_bx_3, l_bx_3p, l_bx_4, l_bx_5, l_bx_5p, l_co_ok, l_co_0, l_co_0p, l_co_1, l_co_1p, l_co_2, l_co_2p, l_co_3, l_co_3p, l_co_4, l_co_4p, l_co_5, l_co_5p, l_rt_ar, l_rt_ln, l_rt_ia, l_rt_is, l_rt_e, l_rt_ep, l_cc_ar, l_cc_ln, l_cc_ia, l_cc_is, l_cc_e, l_cc_ep, l_ns_ar, l_ns_ln, l_ns_ia, l_ns_is, l_ns_e, l_ns_ep, l_rc_ar, l_rc_ln, l_rc_ia, l_rc_is, l_rc_e, l_rc_ep, l_sha_ar, l_sha_ln, l_sha_ia, l_sha_e, l_rua_ar, l_rua_ln, l_rua_ia, l_rua_e, l_rua_ep, l_rua_e2, l_coa_ar, l_coa_ln, l_coa_ia, l_coa_e, zvi_int, zvl_long, zvd_double, zvr_ref, zisI_int, zisR_ref, zgI_int, zgR_ref, zkl_int, zkl_ref, zkl_none, zkl_long, zkl_double, zct_nil, zct_int, zct_ref, zct_long, zct_double, zbk_some, zbk_none, zbk_exc, nI_clamp, nI_add, nI_mul, true_and, and_true, Nat.reduceAdd, Nat.reduceMul, Nat.reduceLeDiff, Nat.reducePow, ↓reduceIte, Nat.zero_add, Nat.add_zero, Nat.reduceLT, Nat.reduceEqDiff, Nat.le_refl, zn10, zn01, zfitB0, zfitB1, znarB0, znarB1, Nat.lt_irrefl, ↓zvi_eq, ↓zvr_eq]
def zAbs (v : Int32) : Int32 := if 0 ≤ v then v else 0 - v
def sBs (x : zSt) (w : Int32) (a b : Nat) : Bool := decide (x 34 0 a = nI b) || decide (x 34 0 b = nI a) || (decide (x 31 0 a = x 31 0 b) && !decide (w < zAbs (x 35 0 a - x 35 0 b)))
theorem c30 {a b : Nat} {w : Int32} (ha : a < 60) (hb : b < 60) : zcl 30 [.ref 4, .int (nI a), .int (nI b), .int w] (zmem x y E) Q ↔ if sBs x w a b = true then Q (.inl (some (.int (nI 1)))) (zmem x y E) else Q (.inl (some (.int (nI 0)))) (zmem x y E) := by
  rw [e30]
  simp (disch := omega) only [p30_0, p30_1, p30_2, p30_3, p30_6, p30_7, p30_10, p30_11, p30_12, p30_13, p30_16, p30_17, p30_20, p30_21, p30_22, p30_23, p30_24, p30_25, p30_28, p30_29, p30_30, p30_31, p30_34, p30_37, p30_38, p30_39, p30_40, p30_43, p30_44, p30_45, p30_46, p30_49, p30_50, p30_53, p30_54, p30_57, p30_58, p30_61, p30_62, l_lea_ar, l_lea_ia, l_lea_e, l_le_ok, l_le_0, l_le_0p, l_le_1, l_le_1p, l_le_2, l_le_2p, l_le_3, l_le_3p, l_le_4, l_le_4p, l_le_5, l_le_5p, zvi_int, zvl_long, zvd_double, zvr_ref, zisI_int, zisR_ref, zgI_int, zgR_ref, zkl_int, zkl_ref, zkl_none, zkl_long, zkl_double, zct_nil, zct_int, zct_ref, zct_long, zct_double, zbk_some, zbk_none, zbk_exc, nI_clamp, nI_add, nI_mul, true_and, and_true, Nat.reduceAdd, Nat.reduceMul, Nat.reduceLeDiff, Nat.reducePow, ↓reduceIte, Nat.zero_add, Nat.add_zero, Nat.reduceLT, Nat.reduceEqDiff, Nat.le_refl, zn10, zn01, zfitB0, zfitB1, znarB0, znarB1, Nat.lt_irrefl, ↓zvi_eq, ↓zvr_eq, sBs]
  by_cases h1 : x 34 0 a = nI b
  · simp only [h1, reduceIte, decide_true, Bool.true_or]
  by_cases h2 : x 34 0 b = nI a
  · simp only [h1, h2, reduceIte, decide_true, Bool.true_or, Bool.or_true]
  by_cases h3 : x 31 0 a = x 31 0 b
  · by_cases h4 : w < zAbs (x 35 0 a - x 35 0 b)
    · have h4' := h4
      unfold zAbs at h4'
      simp only [h1, h2, h3, h4, h4', reduceIte, decide_true, decide_false, Bool.false_or, Bool.not_true, Bool.and_false, Bool.false_eq_true]
    · have h4' := h4
      unfold zAbs at h4'
      simp only [h1, h2, h3, h4, h4', reduceIte, decide_true, decide_false, Bool.false_or, Bool.not_false, Bool.and_true, Bool.false_eq_true]
  · simp only [h1, h2, h3, reduceIte, decide_false, Bool.false_or, Bool.false_and, Bool.false_eq_true]
theorem tR_re {x0 : zSt} {n p m root : Nat} {T : tT} (h : tR x0 n T x) (hm : m < n) (hr : root < n) : tR x0 n (tRe (xSe x0 p) root T m) (sRh x p m root T.2.2.2.1.length) := by
  obtain ⟨⟨h0, h1, h2, h3, h4⟩, h5, h6⟩ := h
  have e27 : x 27 = x0 27 := h0 27 (by omega)
  refine ⟨⟨fun c hc => ?_, fun i hi => ?_, fun i hi => ?_, fun i hi => ?_, ?_⟩, ?_, fun j hj => ?_⟩
  · rw [← h0 c hc]
    have h7 : ¬ c = 7 := by omega
    have h8 : ¬ c = 8 := by omega
    have h9 : ¬ c = 9 := by omega
    have h10 : ¬ c = 10 := by omega
    have h11 : ¬ c = 11 := by omega
    unfold sRh
    split <;> simp only [su_eq, h7, h8, h9, h10, h11, reduceIte]
  · show sRh x p m root T.2.2.2.1.length 8 0 i = oI (tu T.1 m (some root) i)
    have : sRh x p m root T.2.2.2.1.length 8 = u2 (x 8) 0 m (nI root) := by
      unfold sRh; split <;> rfl
    rw [this, u2_eq]
    unfold tu
    by_cases e : i = m
    · rw [if_pos ⟨rfl, e⟩, if_pos e]; rfl
    · rw [if_neg (fun q => e q.2), if_neg e]; exact h1 i hi
  · show sRh x p m root T.2.2.2.1.length 9 0 i = nI (tu T.2.1 root (T.2.1 root + 1) i)
    have : sRh x p m root T.2.2.2.1.length 9 = u2 (x 9) 0 root (x 9 0 root + nI 1) := by
      unfold sRh; split <;> rfl
    rw [this, u2_eq]
    unfold tu
    by_cases e : i = root
    · rw [if_pos ⟨rfl, e⟩, if_pos e, h2 root hr, nI_add]
    · rw [if_neg (fun q => e q.2), if_neg e]; exact h2 i hi
  · show sRh x p m root T.2.2.2.1.length 10 0 i = nI ((if xSe x0 p m = true then T.2.2.1 else tu T.2.2.1 root (T.2.2.1 root + 1)) i)
    unfold xSe
    rw [← e27]
    by_cases hs : zbit (x 27 p m) (nI 0) = true
    · have : sRh x p m root T.2.2.2.1.length 10 = x 10 := by
        unfold sRh; rw [if_pos hs]; rfl
      rw [this, if_pos hs]; exact h3 i hi
    · have : sRh x p m root T.2.2.2.1.length 10 = u2 (x 10) 0 root (x 10 0 root + nI 1) := by
        unfold sRh; rw [if_neg hs]; rfl
      rw [this, u2_eq, if_neg hs]
      unfold tu
      by_cases e : i = root
      · rw [if_pos ⟨rfl, e⟩, if_pos e, h3 root hr, nI_add]
      · rw [if_neg (fun q => e q.2), if_neg e]; exact h3 i hi
  · have : sRh x p m root T.2.2.2.1.length 7 = u2 (x 7) 0 4 (nI (T.2.2.2.1.length + 1)) := by
      unfold sRh; split <;> rfl
    rw [this]; exact h4
  · have : sRh x p m root T.2.2.2.1.length 7 = u2 (x 7) 0 4 (nI (T.2.2.2.1.length + 1)) := by
      unfold sRh; split <;> rfl
    rw [this, u2_eq, if_pos ⟨rfl, rfl⟩]
    show _ = nI (T.2.2.2.1 ++ [m]).length
    rw [List.length_append, List.length_singleton]
  · have : sRh x p m root T.2.2.2.1.length 11 = u2 (x 11) 0 T.2.2.2.1.length (nI m) := by
      unfold sRh; split <;> rfl
    have hj : j < (T.2.2.2.1 ++ [m]).length := hj
    show _ = nI ((T.2.2.2.1 ++ [m]).getD j 0)
    rw [List.length_append, List.length_singleton] at hj
    rw [this, u2_eq]
    by_cases e : j = T.2.2.2.1.length
    · rw [if_pos ⟨rfl, e⟩, List.getD_eq_getElem?_getD, e, List.getElem?_append_right (Nat.le_refl _)]
      simp
    · rw [if_neg (fun q => e q.2), h6 j (by omega), List.getD_eq_getElem?_getD, List.getD_eq_getElem?_getD, List.getElem?_append_left (by omega)]
end ZC
def xAd (x : zSt) (n : Nat) (w : Int32) : Nat → Nat → Bool := fun a b => decide (a < n) && decide (b < n) && sBs x w a b
section ZC
variable {y : zSt} {E : zEx} {x0 : zSt} {n p : Nat} {w : Int32} {T0 : tT} {root : Nat}
theorem sBs_eq {x x0 : zSt} (h : ∀ c, (c < 7 ∨ 11 < c) → x c = x0 c) (w : Int32) (a b : Nat) : sBs x w a b = sBs x0 w a b := by
  unfold sBs
  rw [h 34 (by omega), h 31 (by omega), h 35 (by omega)]
theorem tI_len {kept seen : Nat → Bool} {adj : Nat → Nat → Bool} {T : tT} {cur m : Nat} (h : tI kept seen adj n T0 root T) (hm : m < n) (hk : kept m = true) (hr : T.1 m = none) (hc : cur ∈ T.2.2.2.1) (ha : adj cur m = true) : T.2.2.2.1.length < n := by
  have g := tI_re h hm hk hr hc ha
  have := tpig n _ g.2.2.2.1 (fun a ha => (g.2.2.1 a ha).1)
  rw [show (tRe seen root T m).2.2.2.1 = T.2.2.2.1 ++ [m] from rfl, List.length_append, List.length_singleton] at this
  omega
/-- one from whom is reached -/
theorem c28_in (hT0 : ∀ o j, o < n → T0.1 o = some j → j < 60) (hp : p < 4) (h60 : n ≤ 60) {i : Nat} (hi : i < 60) {cur : Nat} {T : tT} {x : zSt} (h : tI (xKe x0 p) (xSe x0 p) (xAd x0 n w) n T0 root T) (hc : cur ∈ T.2.2.2.1) (hci : i < T.2.2.2.1.length ∧ T.2.2.2.1.getD i 0 = cur) (hr : tR x0 n T x) : ∃ x', tR x0 n (tIn (xKe x0 p) (xSe x0 p) (xAd x0 n w) root cur n T) x' ∧ ∀ Q : zO → zM → Prop, zwp zm_28 (36, [some (.ref 12), some (.ref (aBx p)), some (.ref 4), some (.int (nI n)), some (.int w), some (.int (nI root)), some (.int (nI i)), some (.int (nI 0))], [], zmem x y E, 0, 0) Q ↔ zwp zm_28 (85, [some (.ref 12), some (.ref (aBx p)), some (.ref 4), some (.int (nI n)), some (.int w), some (.int (nI root)), some (.int (nI i)), some (.int (nI n))], [], zmem x' y E, 0, 0) Q := by
  have hrn : root < n := (h.2.2.1 root h.2.2.2.2.2.2.2).1
  have hcn : cur < n := (h.2.2.1 cur hc).1
  obtain ⟨x', ⟨g1, -⟩, g3⟩ := zforR (n := n) (f := fun o T => if tIs (xKe x0 p) (xAd x0 n w) cur o T = true then tRe (xSe x0 p) root T o else T) (P := fun o x Q => zwp zm_28 (36, [some (.ref 12), some (.ref (aBx p)), some (.ref 4), some (.int (nI n)), some (.int w), some (.int (nI root)), some (.int (nI i)), some (.int (nI o))], [], zmem x y E, 0, 0) Q) (R := fun o T x => tR x0 n T x ∧ tI (xKe x0 p) (xSe x0 p) (xAd x0 n w) n T0 root T ∧ cur ∈ T.2.2.2.1 ∧ i < T.2.2.2.1.length ∧ T.2.2.2.1.getD i 0 = cur) (fun o T x ho hR => by
    obtain ⟨hr, h, hc, hl, hci⟩ := hR
    have e25 : x 25 = x0 25 := hr.1.1 25 (by omega)
    have e8 := hr.1.2.1 o ho
    have e11 : x 11 0 i = nI cur := by rw [hr.2.2 i hl, hci]
    have h30 := fun (Q : zO → zM → Prop) => c30 (x := x) (y := y) (E := E) (Q := Q) (a := cur) (b := o) (w := w) (by omega) (by omega)
    rw [sBs_eq hr.1.1] at h30
    have hj : ∀ j, T.1 o = some j → j < 60 := fun j e => by
      by_cases e0 : T0.1 o = none
      · rcases h.2.1 o ho e0 with q | q
        · rw [q] at e; cases e
        · rw [(h.2.2.1 o q).2.2.2] at e; cases e; omega
      · exact hT0 o j ho (by rw [← h.1 o ho e0]; exact e)
    have e8' : (x 8 0 o = -1) = (T.1 o = none) := by rw [e8]; exact oI_m1 hj
    have eK : xKe x0 p o = !decide (x 25 p o = -1) := by rw [e25]; rfl
    have eA : xAd x0 n w cur o = sBs x0 w cur o := by unfold xAd; rw [decide_eq_true hcn, decide_eq_true ho]; rfl
    have hs : tIs (xKe x0 p) (xAd x0 n w) cur o T = (!decide (x 25 p o = -1) && (T.1 o).isNone && sBs x0 w cur o) := by
      unfold tIs
      rw [eK, eA]
    by_cases hq : tIs (xKe x0 p) (xAd x0 n w) cur o T = true
    · have hq' := hq
      simp only [tIs, Bool.and_eq_true, Option.isNone_iff_eq_none] at hq'
      have hlen := tI_len h ho hq'.1.1 hq'.1.2 hc hq'.2
      rw [hs] at hq
      simp only [Bool.and_eq_true, Bool.not_eq_true', decide_eq_false_iff_not, Option.isNone_iff_eq_none] at hq
      refine ⟨sRh x p o root T.2.2.2.1.length, ?_, fun Q => ?_⟩
      · rw [if_pos (by simpa only [tIs, Bool.and_eq_true, Option.isNone_iff_eq_none] using hq')]
        refine ⟨tR_re hr ho hrn, tI_re h ho hq'.1.1 hq'.1.2 hc hq'.2, List.mem_append_left _ hc, ?_, ?_⟩
        · show i < (T.2.2.2.1 ++ [o]).length
          rw [List.length_append]; omega
        · show (T.2.2.2.1 ++ [o]).getD i 0 = cur
          rw [List.getD_eq_getElem?_getD, List.getElem?_append_left hl, ← List.getD_eq_getElem?_getD]; exact hci
      · have h29 := fun (Q : zO → zM → Prop) => c29 (x := x) (y := y) (E := E) (Q := Q) (p := p) (m := o) (root := root) hp (by omega) (by omega) (by omega) hr.2.1
        have q1 := hq.1.1
        have q2 := hq.2
        have q3 : x 8 0 o = -1 := by rw [e8']; exact hq.1.2
        rw [p28_36]
        simp (disch := omega) only [p28_0, p28_1, p28_2, p28_5, p28_6, p28_7, p28_9, p28_11, p28_14, p28_15, p28_17, p28_19, p28_21, p28_24, p28_26, p28_27, p28_30, p28_33, p28_34, p28_38, p28_39, p28_42, p28_43, p28_44, p28_46, p28_49, p28_52, p28_53, p28_54, p28_57, p28_59, p28_60, p28_62, p28_64, p28_67, p28_70, p28_71, p28_72, p28_74, p28_76, p28_79, p28_82, p28_88, p28_91, c27, h30, h29, e11, q1, q2, q3, nI_ltI, ho, l_tm_ok, l_tm_0, l_tm_1, l_tm_2, l_tm_3, l_tm_4, l_tm_4p, l_tm_5, l_tm_5p, l_rt_ar, l_rt_ln, l_rt_ia, l_rt_is, l_rt_e, l_rt_ep, l_cc_ar, l_cc_ln, l_cc_ia, l_cc_is, l_cc_e, l_cc_ep, l_ns_ar, l_ns_ln, l_ns_ia, l_ns_is, l_ns_e, l_ns_ep, l_rc_ar, l_rc_ln, l_rc_ia, l_rc_is, l_rc_e, l_rc_ep, zvi_int, zvl_long, zvd_double, zvr_ref, zisI_int, zisR_ref, zgI_int, zgR_ref, zkl_int, zkl_ref, zkl_none, zkl_long, zkl_double, zct_nil, zct_int, zct_ref, zct_long, zct_double, zbk_some, zbk_none, zbk_exc, nI_clamp, nI_add, nI_mul, true_and, and_true, Nat.reduceAdd, Nat.reduceMul, Nat.reduceLeDiff, Nat.reducePow, ↓reduceIte, Nat.zero_add, Nat.add_zero, Nat.reduceLT, Nat.reduceEqDiff, Nat.le_refl, zn10, zn01, zfitB0, zfitB1, znarB0, znarB1, Nat.lt_irrefl, ↓zvi_eq, ↓zvr_eq]
    · refine ⟨x, ?_, fun Q => ?_⟩
      · rw [if_neg hq]
        exact ⟨hr, h, hc, hl, hci⟩
      · rw [hs] at hq
        rw [p28_36]
        by_cases q1 : x 8 0 o = -1
        · by_cases q2 : x 25 p o = -1
          · simp (disch := omega) only [p28_0, p28_1, p28_2, p28_5, p28_6, p28_7, p28_9, p28_11, p28_14, p28_15, p28_17, p28_19, p28_21, p28_24, p28_26, p28_27, p28_30, p28_33, p28_34, p28_38, p28_39, p28_42, p28_43, p28_44, p28_46, p28_49, p28_52, p28_53, p28_54, p28_57, p28_59, p28_60, p28_62, p28_64, p28_67, p28_70, p28_71, p28_72, p28_74, p28_76, p28_79, p28_82, p28_88, p28_91, c27, h30, e11, q1, q2, nI_ltI, ho, l_tm_ok, l_tm_0, l_tm_1, l_tm_2, l_tm_3, l_tm_4, l_tm_4p, l_tm_5, l_tm_5p, l_rt_ar, l_rt_ln, l_rt_ia, l_rt_is, l_rt_e, l_rt_ep, l_cc_ar, l_cc_ln, l_cc_ia, l_cc_is, l_cc_e, l_cc_ep, l_ns_ar, l_ns_ln, l_ns_ia, l_ns_is, l_ns_e, l_ns_ep, l_rc_ar, l_rc_ln, l_rc_ia, l_rc_is, l_rc_e, l_rc_ep, zvi_int, zvl_long, zvd_double, zvr_ref, zisI_int, zisR_ref, zgI_int, zgR_ref, zkl_int, zkl_ref, zkl_none, zkl_long, zkl_double, zct_nil, zct_int, zct_ref, zct_long, zct_double, zbk_some, zbk_none, zbk_exc, nI_clamp, nI_add, nI_mul, true_and, and_true, Nat.reduceAdd, Nat.reduceMul, Nat.reduceLeDiff, Nat.reducePow, ↓reduceIte, Nat.zero_add, Nat.add_zero, Nat.reduceLT, Nat.reduceEqDiff, Nat.le_refl, zn10, zn01, zfitB0, zfitB1, znarB0, znarB1, Nat.lt_irrefl, ↓zvi_eq, ↓zvr_eq]
          · have q3 : ¬ sBs x0 w cur o = true := fun q3 => hq (by
              rw [e8'] at q1
              simp only [q1, q2, q3, decide_false, Bool.not_false, Option.isNone_none, Bool.and_self])
            simp (disch := omega) only [p28_0, p28_1, p28_2, p28_5, p28_6, p28_7, p28_9, p28_11, p28_14, p28_15, p28_17, p28_19, p28_21, p28_24, p28_26, p28_27, p28_30, p28_33, p28_34, p28_38, p28_39, p28_42, p28_43, p28_44, p28_46, p28_49, p28_52, p28_53, p28_54, p28_57, p28_59, p28_60, p28_62, p28_64, p28_67, p28_70, p28_71, p28_72, p28_74, p28_76, p28_79, p28_82, p28_88, p28_91, c27, h30, e11, q1, q2, q3, nI_ltI, ho, l_tm_ok, l_tm_0, l_tm_1, l_tm_2, l_tm_3, l_tm_4, l_tm_4p, l_tm_5, l_tm_5p, l_rt_ar, l_rt_ln, l_rt_ia, l_rt_is, l_rt_e, l_rt_ep, l_cc_ar, l_cc_ln, l_cc_ia, l_cc_is, l_cc_e, l_cc_ep, l_ns_ar, l_ns_ln, l_ns_ia, l_ns_is, l_ns_e, l_ns_ep, l_rc_ar, l_rc_ln, l_rc_ia, l_rc_is, l_rc_e, l_rc_ep, zvi_int, zvl_long, zvd_double, zvr_ref, zisI_int, zisR_ref, zgI_int, zgR_ref, zkl_int, zkl_ref, zkl_none, zkl_long, zkl_double, zct_nil, zct_int, zct_ref, zct_long, zct_double, zbk_some, zbk_none, zbk_exc, nI_clamp, nI_add, nI_mul, true_and, and_true, Nat.reduceAdd, Nat.reduceMul, Nat.reduceLeDiff, Nat.reducePow, ↓reduceIte, Nat.zero_add, Nat.add_zero, Nat.reduceLT, Nat.reduceEqDiff, Nat.le_refl, zn10, zn01, zfitB0, zfitB1, znarB0, znarB1, Nat.lt_irrefl, ↓zvi_eq, ↓zvr_eq, Bool.false_eq_true]
        · simp (disch := omega) only [p28_0, p28_1, p28_2, p28_5, p28_6, p28_7, p28_9, p28_11, p28_14, p28_15, p28_17, p28_19, p28_21, p28_24, p28_26, p28_27, p28_30, p28_33, p28_34, p28_38, p28_39, p28_42, p28_43, p28_44, p28_46, p28_49, p28_52, p28_53, p28_54, p28_57, p28_59, p28_60, p28_62, p28_64, p28_67, p28_70, p28_71, p28_72, p28_74, p28_76, p28_79, p28_82, p28_88, p28_91, c27, h30, e11, q1, nI_ltI, ho, l_tm_ok, l_tm_0, l_tm_1, l_tm_2, l_tm_3, l_tm_4, l_tm_4p, l_tm_5, l_tm_5p, l_rt_ar, l_rt_ln, l_rt_ia, l_rt_is, l_rt_e, l_rt_ep, l_cc_ar, l_cc_ln, l_cc_ia, l_cc_is, l_cc_e, l_cc_ep, l_ns_ar, l_ns_ln, l_ns_ia, l_ns_is, l_ns_e, l_ns_ep, l_rc_ar, l_rc_ln, l_rc_ia, l_rc_is, l_rc_e, l_rc_ep, zvi_int, zvl_long, zvd_double, zvr_ref, zisI_int, zisR_ref, zgI_int, zgR_ref, zkl_int, zkl_ref, zkl_none, zkl_long, zkl_double, zct_nil, zct_int, zct_ref, zct_long, zct_double, zbk_some, zbk_none, zbk_exc, nI_clamp, nI_add, nI_mul, true_and, and_true, Nat.reduceAdd, Nat.reduceMul, Nat.reduceLeDiff, Nat.reducePow, ↓reduceIte, Nat.zero_add, Nat.add_zero, Nat.reduceLT, Nat.reduceEqDiff, Nat.le_refl, zn10, zn01, zfitB0, zfitB1, znarB0, znarB1, Nat.lt_irrefl, ↓zvi_eq, ↓zvr_eq]) T x ⟨hr, h, hc, hci⟩ n (Nat.le_refl n)
  refine ⟨x', g1, fun Q => (g3 Q).trans ?_⟩
  rw [p28_36]
  simp (disch := omega) only [p28_0, p28_1, p28_2, p28_5, p28_6, p28_7, p28_9, p28_11, p28_14, p28_15, p28_17, p28_19, p28_21, p28_24, p28_26, p28_27, p28_30, p28_33, p28_34, p28_38, p28_39, p28_42, p28_43, p28_44, p28_46, p28_49, p28_52, p28_53, p28_54, p28_57, p28_59, p28_60, p28_62, p28_64, p28_67, p28_70, p28_71, p28_72, p28_74, p28_76, p28_79, p28_82, p28_88, p28_91, nI_ltI, l_tm_ok, l_tm_0, l_tm_1, l_tm_2, l_tm_3, l_tm_4, l_tm_4p, l_tm_5, l_tm_5p, l_rt_ar, l_rt_ln, l_rt_ia, l_rt_is, l_rt_e, l_rt_ep, l_cc_ar, l_cc_ln, l_cc_ia, l_cc_is, l_cc_e, l_cc_ep, l_ns_ar, l_ns_ln, l_ns_ia, l_ns_is, l_ns_e, l_ns_ep, l_rc_ar, l_rc_ln, l_rc_ia, l_rc_is, l_rc_e, l_rc_ep, zvi_int, zvl_long, zvd_double, zvr_ref, zisI_int, zisR_ref, zgI_int, zgR_ref, zkl_int, zkl_ref, zkl_none, zkl_long, zkl_double, zct_nil, zct_int, zct_ref, zct_long, zct_double, zbk_some, zbk_none, zbk_exc, nI_clamp, nI_add, nI_mul, true_and, and_true, Nat.reduceAdd, Nat.reduceMul, Nat.reduceLeDiff, Nat.reducePow, ↓reduceIte, Nat.zero_add, Nat.add_zero, Nat.reduceLT, Nat.reduceEqDiff, Nat.le_refl, zn10, zn01, zfitB0, zfitB1, znarB0, znarB1, Nat.lt_irrefl, ↓zvi_eq, ↓zvr_eq]
theorem c28_lp (hT0 : ∀ o j, o < n → T0.1 o = some j → j < 60) (hp : p < 4) (h60 : n ≤ 60) : ∀ (k i : Nat) (T : tT) (x : zSt) (l7 : Option Value), i + k = 60 → tI (xKe x0 p) (xSe x0 p) (xAd x0 n w) n T0 root T → tR x0 n T x → ∃ x', tR x0 n (tFo (xKe x0 p) (xSe x0 p) (xAd x0 n w) root n k i T) x' ∧ ∀ Q : zO → zM → Prop, zwp zm_28 (17, [some (.ref 12), some (.ref (aBx p)), some (.ref 4), some (.int (nI n)), some (.int w), some (.int (nI root)), some (.int (nI i)), l7], [], zmem x y E, 0, 0) Q ↔ Q (.inl none) (zmem x' y E) := by
  intro k
  induction k with
  | zero =>
    intro i T x l7 hk h hr
    have : i = 60 := by omega
    subst this
    refine ⟨x, hr, fun Q => ?_⟩
    rw [p28_17]
    simp (disch := omega) only [p28_0, p28_1, p28_2, p28_5, p28_6, p28_7, p28_9, p28_11, p28_14, p28_15, p28_19, p28_21, p28_24, p28_26, p28_27, p28_30, p28_33, p28_34, p28_36, p28_38, p28_39, p28_42, p28_43, p28_44, p28_46, p28_49, p28_52, p28_53, p28_54, p28_57, p28_59, p28_60, p28_62, p28_64, p28_67, p28_70, p28_71, p28_72, p28_74, p28_76, p28_79, p28_82, p28_85, p28_88, p28_91, nI_ltI, l_tm_ok, l_tm_0, l_tm_1, l_tm_2, l_tm_3, l_tm_4, l_tm_4p, l_tm_5, l_tm_5p, l_rt_ar, l_rt_ln, l_rt_ia, l_rt_is, l_rt_e, l_rt_ep, l_cc_ar, l_cc_ln, l_cc_ia, l_cc_is, l_cc_e, l_cc_ep, l_ns_ar, l_ns_ln, l_ns_ia, l_ns_is, l_ns_e, l_ns_ep, l_rc_ar, l_rc_ln, l_rc_ia, l_rc_is, l_rc_e, l_rc_ep, zvi_int, zvl_long, zvd_double, zvr_ref, zisI_int, zisR_ref, zgI_int, zgR_ref, zkl_int, zkl_ref, zkl_none, zkl_long, zkl_double, zct_nil, zct_int, zct_ref, zct_long, zct_double, zbk_some, zbk_none, zbk_exc, nI_clamp, nI_add, nI_mul, true_and, and_true, Nat.reduceAdd, Nat.reduceMul, Nat.reduceLeDiff, Nat.reducePow, ↓reduceIte, Nat.zero_add, Nat.add_zero, Nat.reduceLT, Nat.reduceEqDiff, Nat.le_refl, zn10, zn01, zfitB0, zfitB1, znarB0, znarB1, Nat.lt_irrefl, ↓zvi_eq, ↓zvr_eq]
  | succ k ih =>
    intro i T x l7 hk h hr
    have h9 : i < 60 := by omega
    have hl := tpig n T.2.2.2.1 h.2.2.2.1 (fun m hm => (h.2.2.1 m hm).1)
    have e7 := hr.2.1
    by_cases hi : i < T.2.2.2.1.length
    · have hc : T.2.2.2.1.getD i 0 ∈ T.2.2.2.1 := by
        rw [List.getD_eq_getElem?_getD, List.getElem?_eq_getElem hi, Option.getD_some]
        exact List.getElem_mem hi
      obtain ⟨x1, g1, g2⟩ := c28_in (y := y) (E := E) hT0 hp h60 h9 h hc ⟨hi, rfl⟩ hr
      obtain ⟨t1, -, -, -⟩ := tIn_ok h hc n (Nat.le_refl n)
      obtain ⟨x2, g3, g4⟩ := ih (i + 1) _ x1 (some (.int (nI n))) (by omega) t1 g1
      refine ⟨x2, ?_, fun Q => ?_⟩
      · unfold tFo
        rw [if_pos hi]
        exact g3
      · rw [p28_17]
        simp (disch := omega) only [p28_0, p28_1, p28_2, p28_5, p28_6, p28_7, p28_9, p28_11, p28_14, p28_15, p28_19, p28_21, p28_24, p28_26, p28_27, p28_30, p28_33, p28_34, p28_38, p28_39, p28_42, p28_43, p28_44, p28_46, p28_49, p28_52, p28_53, p28_54, p28_57, p28_59, p28_60, p28_62, p28_64, p28_67, p28_70, p28_71, p28_72, p28_74, p28_76, p28_79, p28_82, p28_88, p28_91, e7, nI_ltI, hi, h9, l_tm_ok, l_tm_0, l_tm_1, l_tm_2, l_tm_3, l_tm_4, l_tm_4p, l_tm_5, l_tm_5p, l_rt_ar, l_rt_ln, l_rt_ia, l_rt_is, l_rt_e, l_rt_ep, l_cc_ar, l_cc_ln, l_cc_ia, l_cc_is, l_cc_e, l_cc_ep, l_ns_ar, l_ns_ln, l_ns_ia, l_ns_is, l_ns_e, l_ns_ep, l_rc_ar, l_rc_ln, l_rc_ia, l_rc_is, l_rc_e, l_rc_ep, zvi_int, zvl_long, zvd_double, zvr_ref, zisI_int, zisR_ref, zgI_int, zgR_ref, zkl_int, zkl_ref, zkl_none, zkl_long, zkl_double, zct_nil, zct_int, zct_ref, zct_long, zct_double, zbk_some, zbk_none, zbk_exc, nI_clamp, nI_add, nI_mul, true_and, and_true, Nat.reduceAdd, Nat.reduceMul, Nat.reduceLeDiff, Nat.reducePow, ↓reduceIte, Nat.zero_add, Nat.add_zero, Nat.reduceLT, Nat.reduceEqDiff, Nat.le_refl, zn10, zn01, zfitB0, zfitB1, znarB0, znarB1, Nat.lt_irrefl, ↓zvi_eq, ↓zvr_eq]
        rw [g2 Q, p28_85]
        simp (disch := omega) only [p28_0, p28_1, p28_2, p28_5, p28_6, p28_7, p28_9, p28_11, p28_14, p28_15, p28_19, p28_21, p28_24, p28_26, p28_27, p28_30, p28_33, p28_34, p28_38, p28_39, p28_42, p28_43, p28_44, p28_46, p28_49, p28_52, p28_53, p28_54, p28_57, p28_59, p28_60, p28_62, p28_64, p28_67, p28_70, p28_71, p28_72, p28_74, p28_76, p28_79, p28_82, p28_88, p28_91, l_tm_ok, l_tm_0, l_tm_1, l_tm_2, l_tm_3, l_tm_4, l_tm_4p, l_tm_5, l_tm_5p, l_rt_ar, l_rt_ln, l_rt_ia, l_rt_is, l_rt_e, l_rt_ep, l_cc_ar, l_cc_ln, l_cc_ia, l_cc_is, l_cc_e, l_cc_ep, l_ns_ar, l_ns_ln, l_ns_ia, l_ns_is, l_ns_e, l_ns_ep, l_rc_ar, l_rc_ln, l_rc_ia, l_rc_is, l_rc_e, l_rc_ep, zvi_int, zvl_long, zvd_double, zvr_ref, zisI_int, zisR_ref, zgI_int, zgR_ref, zkl_int, zkl_ref, zkl_none, zkl_long, zkl_double, zct_nil, zct_int, zct_ref, zct_long, zct_double, zbk_some, zbk_none, zbk_exc, nI_clamp, nI_add, nI_mul, true_and, and_true, Nat.reduceAdd, Nat.reduceMul, Nat.reduceLeDiff, Nat.reducePow, ↓reduceIte, Nat.zero_add, Nat.add_zero, Nat.reduceLT, Nat.reduceEqDiff, Nat.le_refl, zn10, zn01, zfitB0, zfitB1, znarB0, znarB1, Nat.lt_irrefl, ↓zvi_eq, ↓zvr_eq]
        exact g4 Q
    · refine ⟨x, ?_, fun Q => ?_⟩
      · unfold tFo
        rw [if_neg hi]
        exact hr
      · rw [p28_17]
        simp (disch := omega) only [p28_0, p28_1, p28_2, p28_5, p28_6, p28_7, p28_9, p28_11, p28_14, p28_15, p28_19, p28_21, p28_24, p28_26, p28_27, p28_30, p28_33, p28_34, p28_38, p28_39, p28_42, p28_43, p28_44, p28_46, p28_49, p28_52, p28_53, p28_54, p28_57, p28_59, p28_60, p28_62, p28_64, p28_67, p28_70, p28_71, p28_72, p28_74, p28_76, p28_79, p28_82, p28_88, p28_91, e7, nI_ltI, hi, h9, l_tm_ok, l_tm_0, l_tm_1, l_tm_2, l_tm_3, l_tm_4, l_tm_4p, l_tm_5, l_tm_5p, l_rt_ar, l_rt_ln, l_rt_ia, l_rt_is, l_rt_e, l_rt_ep, l_cc_ar, l_cc_ln, l_cc_ia, l_cc_is, l_cc_e, l_cc_ep, l_ns_ar, l_ns_ln, l_ns_ia, l_ns_is, l_ns_e, l_ns_ep, l_rc_ar, l_rc_ln, l_rc_ia, l_rc_is, l_rc_e, l_rc_ep, zvi_int, zvl_long, zvd_double, zvr_ref, zisI_int, zisR_ref, zgI_int, zgR_ref, zkl_int, zkl_ref, zkl_none, zkl_long, zkl_double, zct_nil, zct_int, zct_ref, zct_long, zct_double, zbk_some, zbk_none, zbk_exc, nI_clamp, nI_add, nI_mul, true_and, and_true, Nat.reduceAdd, Nat.reduceMul, Nat.reduceLeDiff, Nat.reducePow, ↓reduceIte, Nat.zero_add, Nat.add_zero, Nat.reduceLT, Nat.reduceEqDiff, Nat.le_refl, zn10, zn01, zfitB0, zfitB1, znarB0, znarB1, Nat.lt_irrefl, ↓zvi_eq, ↓zvr_eq]
theorem c28 {T : tT} {x : zSt} (hT0 : ∀ o j, o < n → T.1 o = some j → j < 60) (hp : p < 4) (h60 : n ≤ 60) (hrn : root < n) (h : tI (xKe x0 p) (xSe x0 p) (xAd x0 n w) n T root (tSt (xSe x0 p) root T)) (hr : tR0 x0 n (T.1, T.2.1, T.2.2.1, [], T.2.2.2.2 + 1) x) : ∃ x', tR x0 n (tFo (xKe x0 p) (xSe x0 p) (xAd x0 n w) root n 60 0 (tSt (xSe x0 p) root T)) x' ∧ ∀ Q : zO → zM → Prop, zcl 28 [.ref 12, .ref (aBx p), .ref 4, .int (nI n), .int w, .int (nI root)] (zmem x y E) Q ↔ Q (.inl none) (zmem x' y E) := by
  have h1 : tR x0 n (T.1, T.2.1, T.2.2.1, [], T.2.2.2.2 + 1) (su x 7 (u2 (x 7) 0 4 (nI 0))) := by
    obtain ⟨g0, g1, g2, g3, g4⟩ := hr
    refine ⟨⟨fun c hc => ?_, g1, g2, g3, g4⟩, rfl, fun j hj => absurd hj (Nat.not_lt_zero j)⟩
    rw [su_eq, if_neg (by omega)]
    exact g0 c hc
  have h2 := tR_re (p := p) h1 hrn hrn
  obtain ⟨x', g1, g2⟩ := c28_lp (y := y) (E := E) hT0 hp h60 60 0 (tSt (xSe x0 p) root T) _ none rfl h h2
  refine ⟨x', g1, fun Q => ?_⟩
  have h29 := fun (Q : zO → zM → Prop) => c29 (x := su x 7 (u2 (x 7) 0 4 (nI 0))) (y := y) (E := E) (Q := Q) (p := p) (m := root) (root := root) (k := 0) hp (by omega) (by omega) (by omega) rfl
  rw [e28]
  simp (disch := omega) only [p28_0, p28_1, p28_2, p28_5, p28_6, p28_7, p28_9, p28_11, p28_14, p28_15, p28_19, p28_21, p28_24, p28_26, p28_27, p28_30, p28_33, p28_34, p28_36, p28_38, p28_39, p28_42, p28_43, p28_44, p28_46, p28_49, p28_52, p28_53, p28_54, p28_57, p28_59, p28_60, p28_62, p28_64, p28_67, p28_70, p28_71, p28_72, p28_74, p28_76, p28_79, p28_82, p28_85, p28_88, p28_91, h29, l_tm_ok, l_tm_0, l_tm_1, l_tm_2, l_tm_3, l_tm_4, l_tm_4p, l_tm_5, l_tm_5p, l_rt_ar, l_rt_ln, l_rt_ia, l_rt_is, l_rt_e, l_rt_ep, l_cc_ar, l_cc_ln, l_cc_ia, l_cc_is, l_cc_e, l_cc_ep, l_ns_ar, l_ns_ln, l_ns_ia, l_ns_is, l_ns_e, l_ns_ep, l_rc_ar, l_rc_ln, l_rc_ia, l_rc_is, l_rc_e, l_rc_ep, zvi_int, zvl_long, zvd_double, zvr_ref, zisI_int, zisR_ref, zgI_int, zgR_ref, zkl_int, zkl_ref, zkl_none, zkl_long, zkl_double, zct_nil, zct_int, zct_ref, zct_long, zct_double, zbk_some, zbk_none, zbk_exc, nI_clamp, nI_add, nI_mul, true_and, and_true, Nat.reduceAdd, Nat.reduceMul, Nat.reduceLeDiff, Nat.reducePow, ↓reduceIte, Nat.zero_add, Nat.add_zero, Nat.reduceLT, Nat.reduceEqDiff, Nat.le_refl, zn10, zn01, zfitB0, zfitB1, znarB0, znarB1, Nat.lt_irrefl, ↓zvi_eq, ↓zvr_eq]
  exact g2 Q
theorem tSt_I {kept seen : Nat → Bool} {adj : Nat → Nat → Bool} {i : Nat} {T : tT} (h : tO kept seen adj n i T) (hi : i < n) (ki : kept i = true) (ri : T.1 i = none) : tI kept seen adj n T i (tSt seen i T) := by
  refine ⟨fun m hm hm0 => ?_, fun m hm hm0 => ?_, fun m hm => ?_, by simp [tSt, tRe], fun c hc m hm => ?_, tC_re (T := (T.1, T.2.1, T.2.2.1, [], T.2.2.2.2 + 1)) h.2.2.2.2.1 hi ri, rfl, by simp [tSt, tRe]⟩
  · show tu T.1 i (some i) m = T.1 m
    unfold tu
    rw [if_neg (fun q => by subst q; exact hm0 ri)]
  · show tu T.1 i (some i) m = none ∨ m ∈ ([] ++ [i] : List Nat)
    unfold tu
    by_cases e : m = i
    · exact Or.inr (by simp [e])
    · rw [if_neg e]; exact Or.inl hm0
  · have hm : m ∈ ([] ++ [i] : List Nat) := hm
    rw [List.nil_append, List.mem_singleton] at hm
    subst hm
    refine ⟨hi, ki, ri, ?_⟩
    show tu T.1 m (some m) m = some m
    unfold tu; rw [if_pos rfl]
  · have hm : m ∈ ([] ++ [i] : List Nat) := hm
    rw [List.nil_append, List.mem_singleton] at hm
    rw [hm]
end ZC
abbrev xDr (x : zSt) (p n : Nat) (w : Int32) : tT := tDr (xKe x p) (xSe x p) (xAd x n w) n n
section ZC
variable {y : zSt} {E : zEx} {x : zSt} {n p : Nat} {w : Int32}
theorem c25 (hp : p < 4) (h60 : n ≤ 60) (hsym : ∀ a b, xAd x n w a b = xAd x n w b a) : ∃ x', tR0 x n (xDr x p n w) x' ∧ ∀ Q : zO → zM → Prop, zcl 25 [.ref 12, .ref (aBx p), .ref 4, .int (nI n), .int w] (zmem x y E) Q ↔ Q (.inl none) (zmem x' y E) := by
  obtain ⟨x1, ⟨a1, a2, a3⟩, a4⟩ := zforR (T := Unit) (n := n) (f := fun _ t => t) (P := fun o x Q => zwp zm_25 (8, [some (.ref 12), some (.ref (aBx p)), some (.ref 4), some (.int (nI n)), some (.int w), some (.int (nI o))], [], zmem x y E, 0, 0) Q) (R := fun o _ z => (∀ c, (c < 7 ∨ 11 < c) → z c = x c) ∧ (∀ j, j < o → z 8 0 j = -1 ∧ z 9 0 j = nI 0 ∧ z 10 0 j = nI 0) ∧ z 7 0 5 = nI 0) (fun o _ z ho hR => by
    refine ⟨su (su (su z 8 (u2 (z 8) 0 o (-1))) 9 (u2 (z 9) 0 o (nI 0))) 10 (u2 (z 10) 0 o (nI 0)), ⟨fun c hc => ?_, fun j hj => ?_, hR.2.2⟩, fun Q => ?_⟩
    · rw [su_eq, if_neg (by omega), su_eq, if_neg (by omega), su_eq, if_neg (by omega)]
      exact hR.1 c hc
    · show u2 (z 8) 0 o (-1) 0 j = -1 ∧ u2 (z 9) 0 o (nI 0) 0 j = nI 0 ∧ u2 (z 10) 0 o (nI 0) 0 j = nI 0
      simp only [u2_eq, true_and]
      by_cases e : j = o
      · simp only [e, reduceIte, and_self]
      · simp only [e, reduceIte]
        exact hR.2.1 j (by omega)
    · rw [p25_8]
      simp (disch := omega) only [p25_0, p25_1, p25_2, p25_5, p25_6, p25_10, p25_11, p25_14, p25_15, p25_18, p25_20, p25_21, p25_22, p25_23, p25_26, p25_28, p25_29, p25_30, p25_31, p25_34, p25_36, p25_37, p25_38, p25_41, p25_44, p25_45, p25_49, p25_50, p25_53, p25_54, p25_55, p25_57, p25_60, p25_63, p25_64, p25_64i, p25_65, p25_68, p25_69, p25_70, p25_73, p25_74, p25_75, p25_76, p25_77, p25_79, p25_81, p25_84, p25_87, p25_90, nI_ltI, ho, su_eq, l_tm_ok, l_tm_0, l_tm_1, l_tm_2, l_tm_3, l_tm_4, l_tm_4p, l_tm_5, l_tm_5p, l_rt_ar, l_rt_ln, l_rt_ia, l_rt_is, l_rt_e, l_rt_ep, l_cc_ar, l_cc_ln, l_cc_ia, l_cc_is, l_cc_e, l_cc_ep, l_ns_ar, l_ns_ln, l_ns_ia, l_ns_is, l_ns_e, l_ns_ep, l_rc_ar, l_rc_ln, l_rc_ia, l_rc_is, l_rc_e, l_rc_ep, zvi_int, zvl_long, zvd_double, zvr_ref, zisI_int, zisR_ref, zgI_int, zgR_ref, zkl_int, zkl_ref, zkl_none, zkl_long, zkl_double, zct_nil, zct_int, zct_ref, zct_long, zct_double, zbk_some, zbk_none, zbk_exc, nI_clamp, nI_add, nI_mul, true_and, and_true, Nat.reduceAdd, Nat.reduceMul, Nat.reduceLeDiff, Nat.reducePow, ↓reduceIte, Nat.zero_add, Nat.add_zero, Nat.reduceLT, Nat.reduceEqDiff, Nat.le_refl, zn10, zn01, zfitB0, zfitB1, znarB0, znarB1, Nat.lt_irrefl, ↓zvi_eq, ↓zvr_eq]) () (su x 7 (u2 (x 7) 0 5 (nI 0))) ⟨fun c hc => by rw [su_eq, if_neg (by omega)], fun j hj => absurd hj (Nat.not_lt_zero j), rfl⟩ n (Nat.le_refl n)
  have hs : tR0 x n (fun _ => none, fun _ => 0, fun _ => 0, [], 0) x1 := ⟨a1, fun i hi => (a2 i hi).1, fun i hi => (a2 i hi).2.1, fun i hi => (a2 i hi).2.2, a3⟩
  obtain ⟨x2, ⟨b1, -⟩, b2⟩ := zforR (n := n) (f := fun i T => if (xKe x p i && (T.1 i).isNone) = true then tFo (xKe x p) (xSe x p) (xAd x n w) i n 60 0 (tSt (xSe x p) i T) else T) (P := fun o z Q => zwp zm_25 (47, [some (.ref 12), some (.ref (aBx p)), some (.ref 4), some (.int (nI n)), some (.int w), some (.int (nI o))], [], zmem z y E, 0, 0) Q) (R := fun o T z => tR0 x n T z ∧ tO (xKe x p) (xSe x p) (xAd x n w) n o T) (fun o T z ho hR => by
    obtain ⟨hr, hO⟩ := hR
    have hT0 : ∀ o j, o < n → T.1 o = some j → j < 60 := fun o j ho e => by have := (hO.2.1 o j ho e).2.1; omega
    have e25 : z 25 = x 25 := hr.1 25 (by omega)
    have e8' : (z 8 0 o = -1) = (T.1 o = none) := by rw [hr.2.1 o ho]; exact oI_m1 (fun j e => hT0 o j ho e)
    have hO' := tO_step h60 hsym ho hO
    by_cases hq : (xKe x p o && (T.1 o).isNone) = true
    · have hq' := hq
      rw [Bool.and_eq_true, Option.isNone_iff_eq_none] at hq'
      have hq1 : ¬ z 25 p o = -1 := by
        rw [e25]
        have := hq'.1
        unfold xKe at this
        simpa using this
      have hq2 : z 8 0 o = -1 := by rw [e8']; exact hq'.2
      have e7 := hr.2.2.2.2
      obtain ⟨z', g1, g2⟩ := c28 (y := y) (E := E) (w := w) (x := su z 7 (u2 (z 7) 0 5 (nI (T.2.2.2.2 + 1)))) hT0 hp h60 ho (tSt_I hO ho hq'.1 hq'.2) (by
        obtain ⟨g0, g1, g2, g3, g4⟩ := hr
        refine ⟨fun c hc => ?_, g1, g2, g3, rfl⟩
        rw [su_eq, if_neg (by omega)]
        exact g0 c hc)
      rw [if_pos hq] at hO'
      refine ⟨z', ?_, fun Q => ?_⟩
      · rw [if_pos hq]
        exact ⟨g1.1, hO'⟩
      · rw [p25_47]
        simp (disch := omega) only [p25_0, p25_1, p25_2, p25_5, p25_6, p25_8, p25_10, p25_11, p25_14, p25_15, p25_18, p25_20, p25_21, p25_22, p25_23, p25_26, p25_28, p25_29, p25_30, p25_31, p25_34, p25_36, p25_37, p25_38, p25_41, p25_44, p25_45, p25_49, p25_50, p25_53, p25_54, p25_55, p25_57, p25_60, p25_63, p25_64, p25_64i, p25_65, p25_68, p25_69, p25_70, p25_73, p25_74, p25_75, p25_76, p25_77, p25_79, p25_81, p25_84, p25_87, p25_90, c27, nI_ltI, ho, hq1, hq2, e7, g2, l_tm_ok, l_tm_0, l_tm_1, l_tm_2, l_tm_3, l_tm_4, l_tm_4p, l_tm_5, l_tm_5p, l_rt_ar, l_rt_ln, l_rt_ia, l_rt_is, l_rt_e, l_rt_ep, l_cc_ar, l_cc_ln, l_cc_ia, l_cc_is, l_cc_e, l_cc_ep, l_ns_ar, l_ns_ln, l_ns_ia, l_ns_is, l_ns_e, l_ns_ep, l_rc_ar, l_rc_ln, l_rc_ia, l_rc_is, l_rc_e, l_rc_ep, zvi_int, zvl_long, zvd_double, zvr_ref, zisI_int, zisR_ref, zgI_int, zgR_ref, zkl_int, zkl_ref, zkl_none, zkl_long, zkl_double, zct_nil, zct_int, zct_ref, zct_long, zct_double, zbk_some, zbk_none, zbk_exc, nI_clamp, nI_add, nI_mul, true_and, and_true, Nat.reduceAdd, Nat.reduceMul, Nat.reduceLeDiff, Nat.reducePow, ↓reduceIte, Nat.zero_add, Nat.add_zero, Nat.reduceLT, Nat.reduceEqDiff, Nat.le_refl, zn10, zn01, zfitB0, zfitB1, znarB0, znarB1, Nat.lt_irrefl, ↓zvi_eq, ↓zvr_eq]
    · rw [if_neg hq] at hO'
      refine ⟨z, ?_, fun Q => ?_⟩
      · rw [if_neg hq]
        exact ⟨hr, hO'⟩
      · rw [p25_47]
        by_cases q1 : z 8 0 o = -1
        · have q2 : z 25 p o = -1 := by
            by_cases q2 : z 25 p o = -1
            · exact q2
            · exfalso
              apply hq
              rw [e8'] at q1
              rw [e25] at q2
              unfold xKe
              simp only [q1, q2, decide_false, Bool.not_false, Option.isNone_none, Bool.and_self]
          simp (disch := omega) only [p25_0, p25_1, p25_2, p25_5, p25_6, p25_8, p25_10, p25_11, p25_14, p25_15, p25_18, p25_20, p25_21, p25_22, p25_23, p25_26, p25_28, p25_29, p25_30, p25_31, p25_34, p25_36, p25_37, p25_38, p25_41, p25_44, p25_45, p25_49, p25_50, p25_53, p25_54, p25_55, p25_57, p25_60, p25_63, p25_64, p25_64i, p25_65, p25_68, p25_69, p25_70, p25_73, p25_74, p25_75, p25_76, p25_77, p25_79, p25_81, p25_84, p25_87, p25_90, c27, nI_ltI, ho, q1, q2, l_tm_ok, l_tm_0, l_tm_1, l_tm_2, l_tm_3, l_tm_4, l_tm_4p, l_tm_5, l_tm_5p, l_rt_ar, l_rt_ln, l_rt_ia, l_rt_is, l_rt_e, l_rt_ep, l_cc_ar, l_cc_ln, l_cc_ia, l_cc_is, l_cc_e, l_cc_ep, l_ns_ar, l_ns_ln, l_ns_ia, l_ns_is, l_ns_e, l_ns_ep, l_rc_ar, l_rc_ln, l_rc_ia, l_rc_is, l_rc_e, l_rc_ep, zvi_int, zvl_long, zvd_double, zvr_ref, zisI_int, zisR_ref, zgI_int, zgR_ref, zkl_int, zkl_ref, zkl_none, zkl_long, zkl_double, zct_nil, zct_int, zct_ref, zct_long, zct_double, zbk_some, zbk_none, zbk_exc, nI_clamp, nI_add, nI_mul, true_and, and_true, Nat.reduceAdd, Nat.reduceMul, Nat.reduceLeDiff, Nat.reducePow, ↓reduceIte, Nat.zero_add, Nat.add_zero, Nat.reduceLT, Nat.reduceEqDiff, Nat.le_refl, zn10, zn01, zfitB0, zfitB1, znarB0, znarB1, Nat.lt_irrefl, ↓zvi_eq, ↓zvr_eq]
        · simp (disch := omega) only [p25_0, p25_1, p25_2, p25_5, p25_6, p25_8, p25_10, p25_11, p25_14, p25_15, p25_18, p25_20, p25_21, p25_22, p25_23, p25_26, p25_28, p25_29, p25_30, p25_31, p25_34, p25_36, p25_37, p25_38, p25_41, p25_44, p25_45, p25_49, p25_50, p25_53, p25_54, p25_55, p25_57, p25_60, p25_63, p25_64, p25_64i, p25_65, p25_68, p25_69, p25_70, p25_73, p25_74, p25_75, p25_76, p25_77, p25_79, p25_81, p25_84, p25_87, p25_90, c27, nI_ltI, ho, q1, l_tm_ok, l_tm_0, l_tm_1, l_tm_2, l_tm_3, l_tm_4, l_tm_4p, l_tm_5, l_tm_5p, l_rt_ar, l_rt_ln, l_rt_ia, l_rt_is, l_rt_e, l_rt_ep, l_cc_ar, l_cc_ln, l_cc_ia, l_cc_is, l_cc_e, l_cc_ep, l_ns_ar, l_ns_ln, l_ns_ia, l_ns_is, l_ns_e, l_ns_ep, l_rc_ar, l_rc_ln, l_rc_ia, l_rc_is, l_rc_e, l_rc_ep, zvi_int, zvl_long, zvd_double, zvr_ref, zisI_int, zisR_ref, zgI_int, zgR_ref, zkl_int, zkl_ref, zkl_none, zkl_long, zkl_double, zct_nil, zct_int, zct_ref, zct_long, zct_double, zbk_some, zbk_none, zbk_exc, nI_clamp, nI_add, nI_mul, true_and, and_true, Nat.reduceAdd, Nat.reduceMul, Nat.reduceLeDiff, Nat.reducePow, ↓reduceIte, Nat.zero_add, Nat.add_zero, Nat.reduceLT, Nat.reduceEqDiff, Nat.le_refl, zn10, zn01, zfitB0, zfitB1, znarB0, znarB1, Nat.lt_irrefl, ↓zvi_eq, ↓zvr_eq]) (fun _ => none, fun _ => 0, fun _ => 0, [], 0) x1 ⟨hs, tDr_ok h60 hsym 0 (Nat.zero_le n)⟩ n (Nat.le_refl n)
  refine ⟨x2, b1, fun Q => ?_⟩
  rw [e25]
  simp (disch := omega) only [p25_0, p25_1, p25_2, p25_5, p25_6, p25_10, p25_11, p25_14, p25_15, p25_18, p25_20, p25_21, p25_22, p25_23, p25_26, p25_28, p25_29, p25_30, p25_31, p25_34, p25_36, p25_37, p25_38, p25_41, p25_44, p25_45, p25_47, p25_49, p25_50, p25_53, p25_54, p25_55, p25_57, p25_60, p25_63, p25_64, p25_64i, p25_65, p25_68, p25_69, p25_70, p25_73, p25_74, p25_75, p25_76, p25_77, p25_79, p25_81, p25_84, p25_87, p25_90, l_tm_ok, l_tm_0, l_tm_1, l_tm_2, l_tm_3, l_tm_4, l_tm_4p, l_tm_5, l_tm_5p, l_rt_ar, l_rt_ln, l_rt_ia, l_rt_is, l_rt_e, l_rt_ep, l_cc_ar, l_cc_ln, l_cc_ia, l_cc_is, l_cc_e, l_cc_ep, l_ns_ar, l_ns_ln, l_ns_ia, l_ns_is, l_ns_e, l_ns_ep, l_rc_ar, l_rc_ln, l_rc_ia, l_rc_is, l_rc_e, l_rc_ep, zvi_int, zvl_long, zvd_double, zvr_ref, zisI_int, zisR_ref, zgI_int, zgR_ref, zkl_int, zkl_ref, zkl_none, zkl_long, zkl_double, zct_nil, zct_int, zct_ref, zct_long, zct_double, zbk_some, zbk_none, zbk_exc, nI_clamp, nI_add, nI_mul, true_and, and_true, Nat.reduceAdd, Nat.reduceMul, Nat.reduceLeDiff, Nat.reducePow, ↓reduceIte, Nat.zero_add, Nat.add_zero, Nat.reduceLT, Nat.reduceEqDiff, Nat.le_refl, zn10, zn01, zfitB0, zfitB1, znarB0, znarB1, Nat.lt_irrefl, ↓zvi_eq, ↓zvr_eq]
  rw [a4 Q, p25_8]
  simp (disch := omega) only [p25_0, p25_1, p25_2, p25_5, p25_6, p25_10, p25_11, p25_14, p25_15, p25_18, p25_20, p25_21, p25_22, p25_23, p25_26, p25_28, p25_29, p25_30, p25_31, p25_34, p25_36, p25_37, p25_38, p25_41, p25_44, p25_45, p25_49, p25_50, p25_53, p25_54, p25_55, p25_57, p25_60, p25_63, p25_64, p25_64i, p25_65, p25_68, p25_69, p25_70, p25_73, p25_74, p25_75, p25_76, p25_77, p25_79, p25_81, p25_84, p25_87, p25_90, nI_ltI, l_tm_ok, l_tm_0, l_tm_1, l_tm_2, l_tm_3, l_tm_4, l_tm_4p, l_tm_5, l_tm_5p, l_rt_ar, l_rt_ln, l_rt_ia, l_rt_is, l_rt_e, l_rt_ep, l_cc_ar, l_cc_ln, l_cc_ia, l_cc_is, l_cc_e, l_cc_ep, l_ns_ar, l_ns_ln, l_ns_ia, l_ns_is, l_ns_e, l_ns_ep, l_rc_ar, l_rc_ln, l_rc_ia, l_rc_is, l_rc_e, l_rc_ep, zvi_int, zvl_long, zvd_double, zvr_ref, zisI_int, zisR_ref, zgI_int, zgR_ref, zkl_int, zkl_ref, zkl_none, zkl_long, zkl_double, zct_nil, zct_int, zct_ref, zct_long, zct_double, zbk_some, zbk_none, zbk_exc, nI_clamp, nI_add, nI_mul, true_and, and_true, Nat.reduceAdd, Nat.reduceMul, Nat.reduceLeDiff, Nat.reducePow, ↓reduceIte, Nat.zero_add, Nat.add_zero, Nat.reduceLT, Nat.reduceEqDiff, Nat.le_refl, zn10, zn01, zfitB0, zfitB1, znarB0, znarB1, Nat.lt_irrefl, ↓zvi_eq, ↓zvr_eq]
  rw [b2 Q, p25_47]
  simp (disch := omega) only [p25_0, p25_1, p25_2, p25_5, p25_6, p25_10, p25_11, p25_14, p25_15, p25_18, p25_20, p25_21, p25_22, p25_23, p25_26, p25_28, p25_29, p25_30, p25_31, p25_34, p25_36, p25_37, p25_38, p25_41, p25_44, p25_45, p25_49, p25_50, p25_53, p25_54, p25_55, p25_57, p25_60, p25_63, p25_64, p25_64i, p25_65, p25_68, p25_69, p25_70, p25_73, p25_74, p25_75, p25_76, p25_77, p25_79, p25_81, p25_84, p25_87, p25_90, nI_ltI, l_tm_ok, l_tm_0, l_tm_1, l_tm_2, l_tm_3, l_tm_4, l_tm_4p, l_tm_5, l_tm_5p, l_rt_ar, l_rt_ln, l_rt_ia, l_rt_is, l_rt_e, l_rt_ep, l_cc_ar, l_cc_ln, l_cc_ia, l_cc_is, l_cc_e, l_cc_ep, l_ns_ar, l_ns_ln, l_ns_ia, l_ns_is, l_ns_e, l_ns_ep, l_rc_ar, l_rc_ln, l_rc_ia, l_rc_is, l_rc_e, l_rc_ep, zvi_int, zvl_long, zvd_double, zvr_ref, zisI_int, zisR_ref, zgI_int, zgR_ref, zkl_int, zkl_ref, zkl_none, zkl_long, zkl_double, zct_nil, zct_int, zct_ref, zct_long, zct_double, zbk_some, zbk_none, zbk_exc, nI_clamp, nI_add, nI_mul, true_and, and_true, Nat.reduceAdd, Nat.reduceMul, Nat.reduceLeDiff, Nat.reducePow, ↓reduceIte, Nat.zero_add, Nat.add_zero, Nat.reduceLT, Nat.reduceEqDiff, Nat.le_refl, zn10, zn01, zfitB0, zfitB1, znarB0, znarB1, Nat.lt_irrefl, ↓zvi_eq, ↓zvr_eq]
theorem c26 {x' : zSt} {T : tT} {m j : Nat} {what : Int32} {Q : zO → zM → Prop} (h60 : n ≤ 60) (hr : tR0 x n T x') (hm : m < n) (hj : j < n) (e : T.1 m = some j) : zcl 26 [.ref 12, .int (nI m), .int what] (zmem x' y E) Q ↔ Q (.inl (some (.int (if what = nI 0 then nI j else if what = nI 1 then nI (T.2.1 j) else nI (T.2.2.1 j))))) (zmem x' y E) := by
  have e8 : x' 8 0 m = nI j := by rw [hr.2.1 m hm, e]; rfl
  have e9 := hr.2.2.1 j hj
  have e10 := hr.2.2.2.1 j hj
  have hm1 : ¬ nI j = -1 := nI_m1 (by omega)
  rw [e26]
  simp (disch := omega) only [p26_0, p26_1, p26_4, p26_5, p26_6, p26_7, p26_8, p26_11, p26_12, p26_13, p26_16, p26_17, p26_18, p26_19, p26_20, p26_23, p26_24, p26_27, p26_28, p26_29, p26_32, p26_33, p26_36, p26_37, p26_38, e8, e9, e10, hm1, l_tm_ok, l_tm_0, l_tm_1, l_tm_2, l_tm_3, l_tm_4, l_tm_4p, l_tm_5, l_tm_5p, l_rt_ar, l_rt_ln, l_rt_ia, l_rt_is, l_rt_e, l_rt_ep, l_cc_ar, l_cc_ln, l_cc_ia, l_cc_is, l_cc_e, l_cc_ep, l_ns_ar, l_ns_ln, l_ns_ia, l_ns_is, l_ns_e, l_ns_ep, l_rc_ar, l_rc_ln, l_rc_ia, l_rc_is, l_rc_e, l_rc_ep, zvi_int, zvl_long, zvd_double, zvr_ref, zisI_int, zisR_ref, zgI_int, zgR_ref, zkl_int, zkl_ref, zkl_none, zkl_long, zkl_double, zct_nil, zct_int, zct_ref, zct_long, zct_double, zbk_some, zbk_none, zbk_exc, nI_clamp, nI_add, nI_mul, true_and, and_true, Nat.reduceAdd, Nat.reduceMul, Nat.reduceLeDiff, Nat.reducePow, ↓reduceIte, Nat.zero_add, Nat.add_zero, Nat.reduceLT, Nat.reduceEqDiff, Nat.le_refl, zn10, zn01, zfitB0, zfitB1, znarB0, znarB1, Nat.lt_irrefl, ↓zvi_eq, ↓zvr_eq]
  by_cases h0 : what = nI 0
  · simp only [h0, reduceIte]
  · by_cases h1 : what = nI 1
    · simp only [h0, h1, zn10, reduceIte]
    · simp only [h0, h1, reduceIte]
end ZC
