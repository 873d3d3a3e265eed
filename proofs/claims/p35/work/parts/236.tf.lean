/-! sending: the arrivals (source: wip/p35/src/236.tf.txt, by expand2.py) -/
theorem rLp_ok {G : Nat → List Nat} (hG : ∀ p, p < 4 → ∀ k, k ∈ G p → k < 4) : ∀ (k i : Nat) (l : List Nat), l.Nodup → (∀ p, p ∈ l → p < 4) → (rLp G k i l).Nodup ∧ ∀ p, p ∈ rLp G k i l → p < 4
  | 0, _, _, hd, hl => ⟨hd, hl⟩
  | k + 1, i, l, hd, hl => by
    unfold rLp
    by_cases hi : i < l.length
    · have hm : l.getD i 0 ∈ l := by
        rw [List.getD_eq_getElem?_getD, List.getElem?_eq_getElem hi, Option.getD_some]
        exact List.getElem_mem hi
      rw [if_pos hi]
      exact rLp_ok hG k (i + 1) _ (rAdd_nd _ l hd) (rAdd_all _ l hl (hG _ (hl _ hm)))
    · rw [if_neg hi]; exact ⟨hd, hl⟩
/-- what an arrival leaves -/
def aH (x' x : zSt) : Prop := (∀ c, (c = 5 ∨ c = 6 ∨ c = 13 ∨ (17 ≤ c ∧ c ≤ 23) ∨ 30 ≤ c) → x' c = x c) ∧ x' 0 0 2 = x 0 0 2
theorem aH_refl (x : zSt) : aH x x := ⟨fun _ _ => rfl, rfl⟩
theorem aH_trans {a b c : zSt} (h : aH a b) (h' : aH b c) : aH a c := ⟨fun k hk => (h.1 k hk).trans (h'.1 k hk), h.2.trans h'.2⟩
theorem aH_su {x : zSt} {c : Nat} {g : Nat → Nat → Int32} (h : ¬ (c = 5 ∨ c = 6 ∨ c = 13 ∨ (17 ≤ c ∧ c ≤ 23) ∨ 30 ≤ c)) (h0 : ¬ c = 0) : aH (su x c g) x := ⟨fun k hk => by rw [su_eq, if_neg (fun e => h (by rw [← e]; exact hk))], by rw [su_eq, if_neg (fun e => h0 e.symm)]⟩
theorem aH_pJ (x : zSt) (J : zJ) : aH (pJ x J) x := ⟨fun c hc => pJ_o x J (by omega) (by omega), rfl⟩
theorem aH_lay (x : zSt) (p i k : Nat) : aH (sLay x p i k) x := by
  have h1 : aH (su (su (su (su x 25 (u2 (x 25) p i (nI k))) 26 (u2 (x 26) p i (x 16 p k))) 29 (u2 (x 29) p i (x 0 0 6))) 16 (u2 (x 16) p k (x 16 p k + nI 1))) x :=
    aH_trans (aH_su (by omega) (by omega)) (aH_trans (aH_su (by omega) (by omega)) (aH_trans (aH_su (by omega) (by omega)) (aH_su (by omega) (by omega))))
  unfold sLay sRe
  refine aH_trans (aH_trans (aH_su (by omega) (by omega)) ⟨fun c hc => ?_, ?_⟩) h1
  · rw [su_eq, if_neg (by omega)]
  · rw [su_eq, if_pos rfl, u2_eq, if_neg (by omega)]
theorem aH_arr (x : zSt) (p i n : Nat) (J : zJ) : aH (sArr x p i n J) x := by
  unfold sArr
  split
  · split
    · exact aH_trans (aH_su (by omega) (by omega)) (aH_trans (aH_pJ _ J) (aH_su (by omega) (by omega)))
    · exact aH_trans (aH_lay _ p i _) (aH_trans (aH_su (by omega) (by omega)) (aH_trans (aH_pJ _ J) (aH_su (by omega) (by omega))))
  · exact aH_trans (aH_pJ _ J) (aH_su (by omega) (by omega))
theorem aH_J {x x' : zSt} (h : aH x' x) (p i m : Nat) : sJd (xRu x' p) (sLf x' i) (-1) m 0 zJ0 = sJd (xRu x p) (sLf x i) (-1) m 0 zJ0 :=
  sJd_ext _ (fun j hj => by unfold sLf; rw [h.1 (30 + j) (by omega)]) m 0 _ (fun j hj s _ => by unfold xRu; rw [h.1 (18 + j) (by omega), h.1 17 (by omega)])
theorem aH_zRul {x x' : zSt} (h : aH x' x) {p n : Nat} (hR : zRul x p n) : zRul x' p n := by
  unfold zRul at hR ⊢
  rw [h.1 13 (by omega), h.1 17 (by omega), h.1 20 (by omega), h.1 23 (by omega)]
  exact hR
theorem sArr_25 {x : zSt} {p q i n : Nat} {J : zJ} (h : ¬ q = p) : sArr x p i n J 25 q = x 25 q := by
  unfold sArr
  split
  · split
    · rfl
    · rw [sLay_25, u2_other _ _ _ _ h]; rfl
  · rfl
/-- one more message -/
def mBu (n : Nat) (y : zSt) : zSt := su y 0 (u2 (y 0) 0 2 (nI (n + 1)))
theorem mBu_o (n : Nat) (y : zSt) {c : Nat} (h : ¬ c = 0) : mBu n y c = y c := by
  unfold mBu; rw [su_eq, if_neg h]
theorem mBu_0 (n : Nat) (y : zSt) (p i : Nat) (h : ¬ (p = 0 ∧ i = 2)) : mBu n y 0 p i = y 0 p i := by
  unfold mBu; rw [su_eq, if_pos rfl, u2_eq, if_neg h]
theorem mBu_su (n : Nat) (y : zSt) {c : Nat} (h : ¬ c = 0) (g : Nat → Nat → Int32) : mBu n (su y c g) = su (mBu n y) c g := zS_ext fun d p i => by
  unfold mBu
  simp only [su_eq]
  by_cases h1 : d = 0
  · subst h1
    rw [if_pos rfl, if_neg (fun e => h e.symm), if_pos rfl, if_neg (fun e => h e.symm)]
  · rw [if_neg h1]
    by_cases h2 : d = c
    · rw [if_pos h2, if_pos h2]
    · rw [if_neg h2, if_neg h2, if_neg h1]
theorem mBu_lay (n : Nat) (y : zSt) (p i k : Nat) : mBu n (sLay y p i k) = sLay (mBu n y) p i k := by
  have e0 : ∀ z : zSt, mBu n (sRe z p i) = sRe (mBu n z) p i := fun z => by
    unfold sRe
    rw [mBu_su n _ (by omega)]
    have e9 : mBu n z 0 0 9 = z 0 0 9 := mBu_0 n z 0 9 (by omega)
    have e28 : mBu n z 28 = z 28 := mBu_o n z (by omega)
    rw [e9, e28]
    congr 1
    refine zS_ext fun c q j => ?_
    unfold mBu
    by_cases h : c = 0
    · subst h
      simp only [su_eq, ↓reduceIte, u2_eq]
      by_cases h2 : q = 0 ∧ j = 2
      · rw [if_pos h2, if_neg (by omega), if_pos h2]
      · rw [if_neg h2]
        by_cases h9 : q = 0 ∧ j = 9
        · rw [if_pos h9, if_pos h9]
        · rw [if_neg h9, if_neg h9, if_neg h2]
    · simp only [su_eq, if_neg h]
  have e16 : mBu n y 16 = y 16 := mBu_o n y (by omega)
  have e25 : mBu n y 25 = y 25 := mBu_o n y (by omega)
  have e26 : mBu n y 26 = y 26 := mBu_o n y (by omega)
  have e29 : mBu n y 29 = y 29 := mBu_o n y (by omega)
  have e6 : mBu n y 0 0 6 = y 0 0 6 := mBu_0 n y 0 6 (by omega)
  unfold sLay
  rw [e0, mBu_su n _ (by omega), mBu_su n _ (by omega), mBu_su n _ (by omega), mBu_su n _ (by omega), e16, e25, e26, e29, e6]
section ZG
variable {n qn t w l b : Nat} {fc nr : Nat → Nat} {x y : zSt}
theorem cG_y {y' : zSt} (h : cG n qn t w l fc nr b x y) (hy : ∀ c, ¬ c = 2 → ¬ c = 4 → y' c = y c) : cG n qn t w l fc nr b x y' :=
  ⟨h.1, h.2.1, h.2.2.1, h.2.2.2.1, h.2.2.2.2.1, iRl_y h.2.2.2.2.2 hy⟩
theorem cG_x {x' : zSt} (h : cG n qn t w l fc nr b x y) (hx : zEq x' x) : cG n qn t w l fc nr b x' y := by
  obtain ⟨h1, h2, h3, h4, h5, h6, h7, h8⟩ := h
  have e0 := hx 0 (by omega)
  have e13 := hx 13 (by omega)
  have e14 := hx 14 (by omega)
  have e15 := hx 15 (by omega)
  have e16 := hx 16 (by omega)
  have e17 := hx 17 (by omega)
  have e18 := hx 18 (by omega)
  have e19 := hx 19 (by omega)
  have e20 := hx 20 (by omega)
  have e21 := hx 21 (by omega)
  have e22 := hx 22 (by omega)
  have e23 := hx 23 (by omega)
  have e24 := hx 24 (by omega)
  have e25 := hx 25 (by omega)
  have e26 := hx 26 (by omega)
  have e27 := hx 27 (by omega)
  have e29 := hx 29 (by omega)
  have e30 := hx 30 (by omega)
  have e33 := hx 33 (by omega)
  have e34 := hx 34 (by omega)
  have e35 := hx 35 (by omega)
  have e36 := hx 36 (by omega)
  have e37 := hx 37 (by omega)
  refine ⟨?_, fun p hp => ?_, fun p hp => ?_, ?_, ?_, fun c hc => ?_, fun c i a1 a2 hi => ?_, fun p r hp hr => ?_⟩
  · unfold iSc at h1 ⊢; rw [e0]; exact h1
  · have := h2 p hp
    unfold iBx zBx iNum iCo at this ⊢
    rw [e13, e14, e15, e16, e24, e25, e26, e27, e29]
    exact this
  · have := h3 p hp
    unfold iRu zRul iRo at this ⊢
    rw [e13, e17, e20, e21, e22, e23]
    exact this
  · unfold iLe at h4 ⊢
    rw [e30, e33, e34, e35]; exact h4
  · unfold zQs at h5 ⊢; rw [e36, e37]; exact h5
  · rw [h6 c hc]
    exact (hx c (by unfold iSh at hc; omega)).symm
  · rw [h7 c i a1 a2 hi, hx c (by omega)]
  · have := h8 p r hp hr
    unfold iRr iFl at this ⊢
    rw [e17, e18, e19, e20, e21, e22, e23]
    exact this
theorem cG_24 {p i : Nat} (h : cG n qn t w l fc nr b x y) : cG n qn t w l fc nr b (su x 24 (u2 (x 24) p i (nI 1))) (su y 24 (u2 (y 24) p i (nI 1))) := by
  obtain ⟨h1, h2, h3, h4, h5, h6⟩ := h
  refine ⟨h1, fun q hq => ?_, h3, h4, h5, iRl_su h6 (iSh_b (by omega) (by omega)) (by rw [iRl_sh h6 (iSh_b (c := 24) (by omega) (by omega))])⟩
  obtain ⟨z1, z2, z3, d1, d2, d3⟩ := h2 q hq
  refine ⟨z1, z2, z3, d1, fun j hj => ?_, d3⟩
  show zbl (u2 (x 24) p i (nI 1) q j)
  rw [u2_eq]
  split
  · exact zbl_1
  · exact d2 j hj
theorem cG_27 {p i k : Nat} {v : Int32} (hk : k < 4) (hv : v = nI k) (h : cG n qn t w l fc nr b x y) : cG n qn t w l fc nr b (su x 27 (u2 (x 27) p i v)) (su y 27 (u2 (y 27) p i v)) := by
  obtain ⟨h1, h2, h3, h4, h5, h6⟩ := h
  refine ⟨h1, fun q hq => ?_, h3, h4, h5, iRl_su h6 (iSh_b (by omega) (by omega)) (by rw [iRl_sh h6 (iSh_b (c := 27) (by omega) (by omega))])⟩
  obtain ⟨⟨b1, b2, b3, b4, b5⟩, z2, z3, z4⟩ := h2 q hq
  refine ⟨⟨b1, b2, b3, b4, fun j hj => ?_⟩, z2, z3, z4⟩
  show ∃ k, k < 4 ∧ u2 (x 27) p i v q j = nI k
  rw [u2_eq]
  split
  · exact ⟨k, hk, hv⟩
  · exact b5 j hj
theorem cG_1 {g g' : Nat → Nat → Int32} (e : g' = g) (h : cG n qn t w l fc nr b x y) : cG n qn t w l fc nr b (su x 1 g) (su y 1 g') := by
  obtain ⟨h1, h2, h3, h4, h5, h6⟩ := h
  exact ⟨h1, h2, h3, h4, h5, iRl_su h6 iSh_1 e⟩
/-- one arrival, on both sides -/
theorem cG_arr {p : Nat} {J : zJ} (hb : b < 900000000) (hp : p < 4) (h60 : n < 60) (h : cG (n + 1) qn t w l fc nr b x (mBu n y)) (hJ : jOK (fc p) J) (h25 : x 25 p n = -1) (j0 : y 2 0 3 = J.1) (j1 : y 2 0 1 = J.2.1) (j2 : y 2 0 2 = J.2.2.1) : cG (n + 1) qn t w l fc nr (b + 1) (sArr x p n (n + 1) J) (mBu n (mKp y p n n)) := by
  obtain ⟨-, ⟨f, hf, ef⟩, ⟨k, hk, ek⟩, -⟩ := hJ
  have hR := h.2.2.2.2.2
  have hfc := (h.2.1 p hp).1.2.1
  have y13 : y 13 = x 13 := (mBu_o n y (by omega)).symm.trans (iRl_sh hR (iSh_a (by omega) (by omega)))
  have y25 : y 25 = x 25 := (mBu_o n y (by omega)).symm.trans (iRl_sh hR (iSh_b (by omega) (by omega)))
  have y1 : y 1 = x 1 := (mBu_o n y (by omega)).symm.trans (iRl_sh hR iSh_1)
  have yz : ∀ i, i < n + 1 → y 33 0 i = x 33 0 i := fun i hi => (congrFun (congrFun (mBu_o n y (c := 33) (by omega)) 0) i).symm.trans (hR.2.1 33 i (by omega) (by omega) hi)
  have yf : y 30 0 n = x 30 0 n := (congrFun (congrFun (mBu_o n y (c := 30) (by omega)) 0) n).symm.trans (hR.2.1 30 n (by omega) (by omega) (by omega))
  have es : sSz (x 25 p) (x 33 0) (n + 1) = sSz (x 25 p) (x 33 0) n := by
    show (if x 25 p n = -1 then sSz (x 25 p) (x 33 0) n else sSz (x 25 p) (x 33 0) n + x 33 0 n) = _
    rw [if_pos h25]
  have es' : sSz (y 25 p) (y 33 0) n = sSz (x 25 p) (x 33 0) n := sSz_ext (by rw [y25]) (fun i hi => yz i (by omega))
  have h1 : cG (n + 1) qn t w l fc nr b (pJ (su x 24 (u2 (x 24) p n (nI 1))) J) (mBu n (su y 24 (u2 (y 24) p n (nI 1)))) := by
    refine cG_x ?_ (zEq_pJ _ J)
    rw [mBu_su n y (by omega)]
    have := cG_24 (p := p) (i := n) h
    rw [show mBu n y 24 = y 24 from mBu_o n y (by omega)] at this
    exact this
  unfold sArr mKp
  rw [j0, es, es', y13, yz n (by omega), yf, j2, j1]
  by_cases hj : J.1 = nI 0
  · rw [if_pos hj, if_pos hj]
    by_cases hfull : x 13 p 5 < sSz (x 25 p) (x 33 0) n + x 33 0 n
    · rw [if_pos hfull, if_pos hfull, mBu_su n _ (by omega)]
      exact cG_le (cG_1 (by rw [y1]) h1) (by omega)
    · rw [if_neg hfull, if_neg hfull, mBu_lay, mBu_su n _ (by omega)]
      refine cG_lay (b := b) (by omega) hp (by omega) (by rw [ef, nI_clamp (by omega)]; exact hf) ?_
      have h2 := cG_27 (p := p) (i := n) (v := J.2.2.1) hk ek h1
      have e1 : pJ (su x 24 (u2 (x 24) p n (nI 1))) J 27 = x 27 := rfl
      have e2 : mBu n (su y 24 (u2 (y 24) p n (nI 1))) 27 = y 27 := rfl
      rw [e1, e2] at h2
      exact h2
  · rw [if_neg hj, if_neg hj]
    exact cG_le h1 (by omega)
end ZG
