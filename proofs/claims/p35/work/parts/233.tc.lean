/-! what rules tell, both ways (source: wip/p35/src/233.tc.txt, by expand2.py) -/
def jOK (c : Nat) (J : zJ) : Prop := zbl J.1 ∧ (∃ f, f < c ∧ J.2.1 = nI f) ∧ (∃ k, k < 4 ∧ J.2.2.1 = nI k) ∧ ∀ v, v ∈ J.2.2.2 → ∃ k, k < 4 ∧ v = nI k
def dOK (c : Nat) (d b : Int32) : Prop := (∃ k, k < 5 ∧ d = nI k) ∧ (d = nI 0 → ∃ f, f < c ∧ b = nI f) ∧ (d = nI 3 → ∃ k, k < 4 ∧ b = nI k)
theorem jOK_0 {c : Nat} (h : 0 < c) : jOK c zJ0 := ⟨zbl_0, ⟨0, h, rfl⟩, ⟨0, by omega, rfl⟩, fun v hv => by cases hv⟩
theorem nI_or12 {k : Nat} (hk : k < 4) : (∃ j, j < 4 ∧ nI k ||| nI 1 = nI j) ∧ ∃ j, j < 4 ∧ nI k ||| nI 2 = nI j := by
  have : k = 0 ∨ k = 1 ∨ k = 2 ∨ k = 3 := by omega
  rcases this with h | h | h | h <;> subst h
  · exact ⟨⟨1, by omega, by decide⟩, ⟨2, by omega, by decide⟩⟩
  · exact ⟨⟨1, by omega, by decide⟩, ⟨3, by omega, by decide⟩⟩
  · exact ⟨⟨3, by omega, by decide⟩, ⟨2, by omega, by decide⟩⟩
  · exact ⟨⟨3, by omega, by decide⟩, ⟨3, by omega, by decide⟩⟩
theorem jOK_ob {c : Nat} {J : zJ} {d b : Int32} (h : jOK c J) (hd : dOK c d b) : jOK c (sOb J d b) := by
  obtain ⟨h1, h2, ⟨k, hk, ek⟩, h4⟩ := h
  obtain ⟨d1, d2, d3⟩ := hd
  unfold sOb
  by_cases e0 : d = nI 0
  · rw [if_pos e0]; exact ⟨h1, d2 e0, ⟨k, hk, ek⟩, h4⟩
  rw [if_neg e0]
  by_cases e1 : d = nI 1
  · rw [if_pos e1]; exact ⟨h1, h2, by dsimp only; rw [ek]; exact (nI_or12 hk).2, h4⟩
  rw [if_neg e1]
  by_cases e2 : d = nI 2
  · rw [if_pos e2]; exact ⟨h1, h2, by dsimp only; rw [ek]; exact (nI_or12 hk).1, h4⟩
  rw [if_neg e2]
  by_cases e3 : d = nI 3
  · rw [if_pos e3]
    refine ⟨h1, h2, ⟨k, hk, ek⟩, fun v hv => ?_⟩
    rcases List.mem_append.mp hv with q | q
    · exact h4 v q
    · rw [List.mem_singleton] at q
      rw [q]; exact d3 e3
  · rw [if_neg e3]; exact ⟨zbl_1, h2, ⟨k, hk, ek⟩, h4⟩
theorem jOK_jd {c : Nat} {ru : Nat → Nat → Int32} {lf : Nat → Int32} {w : Int32} : ∀ (k r : Nat) (J : zJ), (∀ s, s < r + k → dOK c (ru 3 s) (ru 4 s)) → jOK c J → jOK c (sJd ru lf w k r J)
  | 0, _, _, _, h => h
  | k + 1, r, J, hd, h => by
    have h' := jOK_ob h (hd r (by omega))
    unfold sJd
    (repeat' split)
    · exact jOK_jd k (r + 1) _ (fun s hs => hd s (by omega)) h
    · exact jOK_jd k (r + 1) _ (fun s hs => hd s (by omega)) h'
    · exact h'
    · exact jOK_jd k (r + 1) _ (fun s hs => hd s (by omega)) h
theorem iRu_jd {x : zSt} {p c m : Nat} {lf : Nat → Int32} {w : Int32} (hc : 0 < c) (h : iRu x p c m) : jOK c (sJd (xRu x p) lf w m 0 zJ0) :=
  jOK_jd m 0 zJ0 (fun s hs => by
    have := h.2.2 s (by omega)
    exact this) (jOK_0 hc)
theorem iFl_1 {x : zSt} {p j : Nat} (h : zbl (x 20 p j) ∧ zbl (x 23 p j)) : iFl x p j &&& nI 1 = x 20 p j ∧ (if nI 1 < iFl x p j then nI 1 else nI 0) = x 23 p j := by
  unfold iFl
  rcases h.1 with e | e <;> rcases h.2 with e' | e' <;> rw [e, e'] <;> decide
theorem rJ {x y : zSt} {p n m i i' : Nat} {fc nr : Nat → Nat} {w : Int32} (hp : p < 4) (hR : iRu x p (fc p) (nr p)) (hRl : iRl x y n nr) (hl : ∀ j, j < 5 → sLf y i' j = sLf x i j) : sJd (yRu y p) (sLf y i') w (nr p) 0 zJ0 = sJd (xRu x p) (sLf x i) w (nr p) 0 zJ0 := by
  refine sJd_ext w hl (nr p) 0 zJ0 (fun j hj s hs => ?_)
  obtain ⟨⟨h1, h2, h3, h4⟩, h5, h6⟩ := hR
  obtain ⟨z, hz, ez⟩ := h3 s (by omega)
  obtain ⟨a1, a2, a3, a4, a5⟩ := hRl.2.2 p s hp (by omega)
  rw [ez, nI_clamp (by omega)] at a1 a2 a3 a4 a5
  obtain ⟨f1, f2⟩ := iFl_1 (h4 z hz)
  unfold yRu xRu
  rw [ez, nI_clamp (by omega)]
  have : j = 0 ∨ j = 1 ∨ j = 2 ∨ j = 3 ∨ j = 4 ∨ j = 5 := by omega
  rcases this with e | e | e | e | e | e <;> subst e
  · rw [if_pos rfl]; exact a1
  · rw [if_neg (by omega), if_pos rfl]; exact a2
  · rw [if_neg (by omega), if_neg (by omega), if_pos rfl, a3]; exact f1
  · rw [if_neg (by omega), if_neg (by omega), if_neg (by omega), if_pos rfl]; exact a4
  · rw [if_neg (by omega), if_neg (by omega), if_neg (by omega), if_neg (by omega), if_pos rfl]; exact a5
  · rw [if_neg (by omega), if_neg (by omega), if_neg (by omega), if_neg (by omega), if_neg (by omega), a3]; exact f2
/-- a letter written -/
def wLe (x : zSt) (i : Nat) (f s w z a t : Int32) : zSt := su (su (su (su (su (su x 30 (u2 (x 30) 0 i f)) 31 (u2 (x 31) 0 i s)) 32 (u2 (x 32) 0 i w)) 33 (u2 (x 33) 0 i z)) 34 (u2 (x 34) 0 i a)) 35 (u2 (x 35) 0 i t)
theorem wLe_o (x : zSt) (i : Nat) (f s w z a t : Int32) {c : Nat} (h : ¬ (30 ≤ c ∧ c ≤ 35)) : wLe x i f s w z a t c = x c := by
  unfold wLe
  simp only [su_eq]
  rw [if_neg (by omega), if_neg (by omega), if_neg (by omega), if_neg (by omega), if_neg (by omega), if_neg (by omega)]
theorem wLe_r (x : zSt) (i : Nat) (f s w z a t : Int32) : wLe x i f s w z a t 30 = u2 (x 30) 0 i f ∧ wLe x i f s w z a t 31 = u2 (x 31) 0 i s ∧ wLe x i f s w z a t 32 = u2 (x 32) 0 i w ∧ wLe x i f s w z a t 33 = u2 (x 33) 0 i z ∧ wLe x i f s w z a t 34 = u2 (x 34) 0 i a ∧ wLe x i f s w z a t 35 = u2 (x 35) 0 i t := ⟨rfl, rfl, rfl, rfl, rfl, rfl⟩
theorem wLe_q (x : zSt) (i : Nat) (f s w z a t : Int32) (c p k : Nat) (h : ¬ (30 ≤ c ∧ c ≤ 35 ∧ p = 0 ∧ k = i)) : wLe x i f s w z a t c p k = x c p k := by
  by_cases hc : 30 ≤ c ∧ c ≤ 35
  · obtain ⟨r0, r1, r2, r3, r4, r5⟩ := wLe_r x i f s w z a t
    have : c = 30 ∨ c = 31 ∨ c = 32 ∨ c = 33 ∨ c = 34 ∨ c = 35 := by omega
    rcases this with e | e | e | e | e | e <;> subst e
    · rw [r0, u2_eq, if_neg (by omega)]
    · rw [r1, u2_eq, if_neg (by omega)]
    · rw [r2, u2_eq, if_neg (by omega)]
    · rw [r3, u2_eq, if_neg (by omega)]
    · rw [r4, u2_eq, if_neg (by omega)]
    · rw [r5, u2_eq, if_neg (by omega)]
  · rw [wLe_o x i f s w z a t hc]
def lOK (f s w z : Int32) : Bool := rg f (nI 0) (nI 9) && (rg s (nI 0) (nI 99) && (rg w (nI 0) (nI 255) && rg z (nI 1) (nI 50)))
section ZC
variable {x y : zSt} {E : zEx} {Q : zO → zM → Prop} {M : zM}
theorem c2 {i : Nat} {f s w z a t : Int32} (hi : i < 61) : zcl 2 [.ref (aLe i), .int f, .int s, .int w, .int z, .int a, .int t] (zmem x y E) Q ↔ Q (.inl none) (zmem (wLe x i f s w z a t) y E) := by
  rw [e2]
  simp (disch := omega) only [p2_0, p2_1, p2_2, p2_5, p2_6, p2_7, p2_10, p2_11, p2_12, p2_15, p2_16, p2_18, p2_21, p2_22, p2_24, p2_27, p2_28, p2_30, p2_33, su_eq, wLe, l_le_ok, l_le_0, l_le_0p, l_le_1, l_le_1p, l_le_2, l_le_2p, l_le_3, l_le_3p, l_le_4, l_le_4p, l_le_5, l_le_5p, zvi_int, zvl_long, zvd_double, zvr_ref, zisI_int, zisR_ref, zgI_int, zgR_ref, zkl_int, zkl_ref, zkl_none, zkl_long, zkl_double, zct_nil, zct_int, zct_ref, zct_long, zct_double, zbk_some, zbk_none, zbk_exc, nI_clamp, nI_add, nI_mul, true_and, and_true, Nat.reduceAdd, Nat.reduceMul, Nat.reduceLeDiff, Nat.reducePow, ↓reduceIte, Nat.zero_add, Nat.add_zero, Nat.reduceLT, Nat.reduceEqDiff, Nat.le_refl, zn10, zn01, zfitB0, zfitB1, znarB0, znarB1, Nat.lt_irrefl, ↓zvi_eq, ↓zvr_eq]
theorem c81 {f s w z : Int32} (h : lOK f s w z = true) : zcl 81 [.int f, .int s, .int w, .int z] M Q ↔ Q (.inl none) M := by
  unfold lOK rg at h
  simp only [Bool.and_eq_true, Bool.not_eq_true', decide_eq_false_iff_not] at h
  obtain ⟨⟨a1, a2⟩, ⟨b1, b2⟩, ⟨d1, d2⟩, e1, e2⟩ := h
  rw [e81]
  simp (disch := omega) only [p81_0, p81_1, p81_2, p81_4, p81_7, p81_8, p81_9, p81_11, p81_14, p81_15, p81_16, p81_19, p81_22, p81_23, p81_24, p81_26, p81_29, e78, p78_0, p78_1, p78_2, p78_3, p78_6, p78_9, p78_20, e82, p82_0, p82_1, p82_2, p82_5, p82_6, p82_7, p82_10, p82_11, p82_14, p82_15, a1, a2, b1, b2, d1, d2, e1, e2, zvi_int, zvl_long, zvd_double, zvr_ref, zisI_int, zisR_ref, zgI_int, zgR_ref, zkl_int, zkl_ref, zkl_none, zkl_long, zkl_double, zct_nil, zct_int, zct_ref, zct_long, zct_double, zbk_some, zbk_none, zbk_exc, nI_clamp, nI_add, nI_mul, true_and, and_true, Nat.reduceAdd, Nat.reduceMul, Nat.reduceLeDiff, Nat.reducePow, ↓reduceIte, Nat.zero_add, Nat.add_zero, Nat.reduceLT, Nat.reduceEqDiff, Nat.le_refl, zn10, zn01, zfitB0, zfitB1, znarB0, znarB1, Nat.lt_irrefl, ↓zvi_eq, ↓zvr_eq]
end ZC
theorem iRl_put {x y y' : zSt} {n : Nat} {nr : Nat → Nat} (h : iRl x y n nr) (hy : ∀ c p i, ¬ c = 2 → ¬ c = 4 → ¬ (30 ≤ c ∧ c ≤ 35 ∧ p = 0 ∧ i = n) → y' c p i = y c p i) : iRl x y' n nr := by
  obtain ⟨h6, h7, h8⟩ := h
  refine ⟨fun c hc => ?_, fun c i a1 a2 hi => ?_, fun p r hp hr => ?_⟩
  · rw [← h6 c hc]
    unfold iSh at hc
    exact funext fun q => funext fun k => hy c q k (by omega) (by omega) (by omega)
  · rw [hy c 0 i (by omega) (by omega) (by omega)]; exact h7 c i a1 a2 hi
  · have := h8 p r hp hr
    unfold iRr at this ⊢
    rw [hy 18 _ _ (by omega) (by omega) (by omega), hy 19 _ _ (by omega) (by omega) (by omega), hy 20 _ _ (by omega) (by omega) (by omega), hy 21 _ _ (by omega) (by omega) (by omega), hy 22 _ _ (by omega) (by omega) (by omega)]
    exact this
theorem zEqA_w {x x' : zSt} {f s w z a t : Int32} (h : zEq x' (wLe x 60 f s w z a t)) : zEqA x' x := fun c p i hc h60 => by
  rw [h c hc, wLe_q x 60 f s w z a t c p i (by omega)]
