/-! the calls, one by one: a message asked about (source: wip/p35/src/235.te.txt, by expand2.py) -/
theorem iRl_x {x x' y : zSt} {n : Nat} {nr : Nat → Nat} (h60 : n ≤ 60) (h : iRl x y n nr) (hx : ∀ c p i, ¬ (30 ≤ c ∧ c ≤ 35 ∧ p = 0 ∧ i = 60) → x' c p i = x c p i) : iRl x' y n nr := by
  obtain ⟨h6, h7, h8⟩ := h
  have hc : ∀ c, ¬ (30 ≤ c ∧ c ≤ 35) → x' c = x c := fun c hc => funext fun p => funext fun i => hx c p i (by omega)
  refine ⟨fun c hs => ?_, fun c i a1 a2 hi => ?_, fun p r hp hr => ?_⟩
  · rw [hc c (by unfold iSh at hs; omega)]; exact h6 c hs
  · rw [hx c 0 i (by omega)]; exact h7 c i a1 a2 hi
  · have := h8 p r hp hr
    unfold iRr iFl at this ⊢
    rw [hc 17 (by omega), hc 18 (by omega), hc 19 (by omega), hc 20 (by omega), hc 21 (by omega), hc 22 (by omega), hc 23 (by omega)]
    exact this
theorem zInv_put {x y y' : zSt} {n : Nat} {b : Nat} (h : zInv x y b) (hn : x 0 0 2 = nI n) (h60 : n ≤ 60) (hy : ∀ c p i, ¬ c = 2 → ¬ c = 4 → ¬ (30 ≤ c ∧ c ≤ 35 ∧ p = 0 ∧ i = n) → y' c p i = y c p i) : zInv x y' b := by
  obtain ⟨n', qn, t, w, l, fc, nr, h1, h2, h3, h4, h5, h6⟩ := h
  have e : n' = n := (nI_eq (by have := h1.2.1; omega) (by omega)).mp (h1.1.symm.trans hn)
  subst e
  exact ⟨n', qn, t, w, l, fc, nr, h1, h2, h3, h4, h5, iRl_put h6 hy⟩
theorem lOK_in {f s w z : Int32} (h : lOK f s w z = true) : (∃ a, a < 10 ∧ f = nI a) ∧ ∃ a, 1 ≤ a ∧ a ≤ 50 ∧ z = nI a := by
  unfold lOK rg at h
  simp only [Bool.and_eq_true, Bool.not_eq_true', decide_eq_false_iff_not] at h
  obtain ⟨⟨a1, a2⟩, -, -, b1, b2⟩ := h
  obtain ⟨k, -, hk, e⟩ := zrg (by omega) a1 a2 (by omega)
  obtain ⟨k', hk1, hk', e'⟩ := zrg (by omega) b1 b2 (by omega)
  exact ⟨⟨k, by omega, e⟩, k', hk1, hk', e'⟩
theorem wLe_lf (x y : zSt) (i k : Nat) (f s w z a t : Int32) : ∀ j, j < 6 → sLf (wLe y k f s w z a t) k j = sLf (wLe x i f s w z a t) i j := by
  intro j hj
  have : j = 0 ∨ j = 1 ∨ j = 2 ∨ j = 3 ∨ j = 4 ∨ j = 5 := by omega
  obtain ⟨r0, r1, r2, r3, r4, r5⟩ := wLe_r x i f s w z a t
  obtain ⟨q0, q1, q2, q3, q4, q5⟩ := wLe_r y k f s w z a t
  unfold sLf
  rcases this with e | e | e | e | e | e <;> subst e
  · rw [r0, q0, u2_eq, u2_eq, if_pos ⟨rfl, rfl⟩, if_pos ⟨rfl, rfl⟩]
  · rw [r1, q1, u2_eq, u2_eq, if_pos ⟨rfl, rfl⟩, if_pos ⟨rfl, rfl⟩]
  · rw [r2, q2, u2_eq, u2_eq, if_pos ⟨rfl, rfl⟩, if_pos ⟨rfl, rfl⟩]
  · rw [r3, q3, u2_eq, u2_eq, if_pos ⟨rfl, rfl⟩, if_pos ⟨rfl, rfl⟩]
  · rw [r4, q4, u2_eq, u2_eq, if_pos ⟨rfl, rfl⟩, if_pos ⟨rfl, rfl⟩]
  · rw [r5, q5, u2_eq, u2_eq, if_pos ⟨rfl, rfl⟩, if_pos ⟨rfl, rfl⟩]
theorem rLp_ext {G G' : Nat → List Nat} (h : ∀ p, p < 4 → G p = G' p) (hG : ∀ p, p < 4 → ∀ k, k ∈ G p → k < 4) : ∀ (k i : Nat) (l : List Nat), (∀ p, p ∈ l → p < 4) → rLp G k i l = rLp G' k i l
  | 0, _, _, _ => rfl
  | k + 1, i, l, hl => by
    unfold rLp
    by_cases hi : i < l.length
    · have hm : l.getD i 0 ∈ l := by
        rw [List.getD_eq_getElem?_getD, List.getElem?_eq_getElem hi, Option.getD_some]
        exact List.getElem_mem hi
      have h4 := hl _ hm
      rw [if_pos hi, if_pos hi, h _ h4]
      exact rLp_ext h hG k (i + 1) _ (rAdd_all _ l hl (fun q hq => hG _ h4 q (by rw [h _ h4]; exact hq)))
    · rw [if_neg hi, if_neg hi]
section ZT
variable {x y : zSt} {E : zEx} {b : Nat}
end ZT
