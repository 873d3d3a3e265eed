/-! the calls, one by one: threads (source: wip/p35/src/232.tb.txt, by expand2.py) -/
theorem zAbs_sub {a b : Nat} (ha : a < 100000000) (hb : b < 100000000) : zAbs (nI a - nI b) = nI (if b ≤ a then a - b else b - a) := by
  unfold zAbs
  by_cases h : b ≤ a
  · rw [if_pos h, nI_sub h, if_pos (nI_pos' (by omega))]
  · rw [if_neg h]
    have e : (0 : Int32) - (nI a - nI b) = nI b - nI a := by
      rw [Int32.sub_eq_add_neg, Int32.neg_sub, Int32.zero_add]
    have hn : ¬ (0 : Int32) ≤ nI a - nI b := by
      rw [Int32.le_iff_toInt_le, nI_subI (by omega) (by omega)]
      have : (0 : Int32).toInt = 0 := rfl
      omega
    rw [if_neg hn, e, nI_sub (by omega)]
theorem xAd_sym {x : zSt} {n t w : Nat} (hL : iLe x n t) (ht9 : t ≤ 9999) : ∀ a b, xAd x n (nI w) a b = xAd x n (nI w) b a := by
  intro a b
  unfold xAd
  by_cases ha : a < n
  · by_cases hb : b < n
    · obtain ⟨-, -, tm, h1, h2⟩ := hL
      rw [decide_eq_true ha, decide_eq_true hb]
      unfold sBs
      obtain ⟨ea, hta⟩ := h1 a ha
      obtain ⟨eb, htb⟩ := h1 b hb
      rw [ea, eb, zAbs_sub (by omega) (by omega), zAbs_sub (by omega) (by omega)]
      have e1 : (if tm b ≤ tm a then tm a - tm b else tm b - tm a) = (if tm a ≤ tm b then tm b - tm a else tm a - tm b) := by
        by_cases h : tm b ≤ tm a
        · by_cases h' : tm a ≤ tm b
          · rw [if_pos h, if_pos h']; omega
          · rw [if_pos h, if_neg h']
        · rw [if_neg h, if_pos (by omega)]
      rw [e1, Bool.or_comm (decide (x 34 0 a = nI b))]
      congr 2
      exact congrArg (fun z => z && _) (decide_eq_decide.mpr ⟨Eq.symm, Eq.symm⟩)
    · rw [decide_eq_false hb]; simp
  · rw [decide_eq_false ha]; simp
theorem xAd_mBs {x y : zSt} {n t w : Nat} {nr : Nat → Nat} (hL : iLe x n t) (h60 : n ≤ 60) (ht9 : t ≤ 9999) (hRl : iRl x y n nr) : ∀ m o, o < m → m < n → xAd x n (nI w) m o = mBs y (nI w) m o := by
  intro m o ho hm
  obtain ⟨hA, -, tm, h1, h2⟩ := hL
  obtain ⟨em, htm⟩ := h1 m hm
  obtain ⟨eo, hto⟩ := h1 o (by omega)
  have hmo := h2 o m ho hm
  unfold xAd sBs mBs
  rw [decide_eq_true hm, decide_eq_true (show o < n by omega), hRl.2.1 34 m (by omega) (by omega) hm, hRl.2.1 31 m (by omega) (by omega) hm, hRl.2.1 31 o (by omega) (by omega) (by omega), hRl.2.1 35 m (by omega) (by omega) hm, hRl.2.1 35 o (by omega) (by omega) (by omega), em, eo, zAbs_sub (by omega) (by omega), if_pos hmo, nI_sub hmo]
  have : ¬ x 34 0 o = nI m := by
    rcases hA o (by omega) with e | ⟨k, hk, e⟩
    · rw [e]; exact fun q => nI_m1 (k := m) (by omega) q.symm
    · rw [e]; exact fun q => by have := (nI_eq (by omega) (by omega)).mp q; omega
  rw [decide_eq_false this]
  simp
theorem zEq_tR0 {x x' : zSt} {n : Nat} {T : tT} (h : tR0 x n T x') : zEq x' x := fun c hc => h.1 c (by omega)
theorem sSt_ext {sh an an' : Nat → Int32} {n : Nat} (h60 : n ≤ 60) (h : ∀ j, j < n → an' j = an j) (hc : ∀ j, j < n → an j = -1 ∨ ∃ i, i < j ∧ an j = nI i) : ∀ (k : Nat) (m : Int32), (m = -1 ∨ ∃ j, j < n ∧ m = nI j) → sSt sh an' k m = sSt sh an k m
  | 0, _, _ => rfl
  | k + 1, m, hm => by
    unfold sSt
    rcases hm with e | ⟨j, hj, e⟩
    · rw [if_pos e, if_pos e]
    · subst e
      rw [if_neg (nI_m1 (by omega)), if_neg (nI_m1 (by omega)), nI_clamp (by omega), h j hj]
      split
      · rfl
      · rw [sSt_ext h60 h hc k (an j) (by
          rcases hc j hj with e | ⟨i, hi, e⟩
          · exact Or.inl e
          · exact Or.inr ⟨i, by omega, e⟩)]
/-- what both tell of a copy's thread -/
theorem sTv_mTv {x y : zSt} {p n w m wn : Nat} (h60 : n ≤ 60) (hsym : ∀ a b, xAd x n (nI w) a b = xAd x n (nI w) b a) (hm : m < n) (hk : ¬ x 25 p m = -1) (hwn : wn < 3) (y25 : y 25 = x 25) (y27 : y 27 = x 27) : sTv (xDr x p n (nI w)) m (nI wn) = mTv y (mRo (xKe x p) (xAd x n (nI w)) n) p n m (nI wn) := by
  have hO := tDr_ok (kept := xKe x p) (seen := xSe x p) (adj := xAd x n (nI w)) h60 hsym n (Nat.le_refl n)
  have hT := tO_lab hO
  have hR := mRo_ok (kept := xKe x p) hsym n
  have hu : ∀ i, i < n → (xDr x p n (nI w)).1 i = mRo (xKe x p) (xAd x n (nI w)) n i := fun i hi => tLab_uniq hT hR hi
  obtain ⟨j, e, hj, -⟩ := hT.2.1 m hm (by unfold xKe; rw [decide_eq_false hk]; rfl)
  have hC := hO.2.2.2.2.1
  have e' : (xDr x p n (nI w)).1 m = some j := e
  have er : mRo (xKe x p) (xAd x n (nI w)) n m = some j := by rw [← hu m hm]; exact e'
  have hse : xSe y p = xSe x p := by unfold xSe; rw [y27]
  have h3 : ¬ nI wn = nI 3 := fun q => by have := (nI_eq (by omega) (by omega)).mp q; omega
  unfold sTv mTv
  rw [e', er, if_neg h3, hse]
  have c1 : tcnt (fun o => decide (mRo (xKe x p) (xAd x n (nI w)) n o = some j)) n = (xDr x p n (nI w)).2.1 j := by
    rw [hC.1 j]
    exact tcnt_ext n (fun o ho => by rw [← hu o ho])
  have c2 : tcnt (fun o => decide (mRo (xKe x p) (xAd x n (nI w)) n o = some j) && !xSe x p o) n = (xDr x p n (nI w)).2.2.1 j := by
    rw [hC.2 j]
    exact tcnt_ext n (fun o ho => by rw [← hu o ho])
  rw [c1, c2]
  rfl
section ZT
variable {x y : zSt} {E : zEx} {b : Nat}
end ZT
