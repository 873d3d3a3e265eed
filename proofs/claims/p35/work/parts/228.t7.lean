/-! the calls, one by one: a rule taken away (source: wip/p35/src/228.t7.txt, by expand2.py) -/
theorem nI_sub {a b : Nat} (h : b ≤ a) : nI a - nI b = nI (a - b) := by
  have e : nI (a - b) + nI b = nI a := by rw [nI_add, Nat.sub_add_cancel h]
  rw [← e]
  exact Int32.add_sub_cancel _ _
/-- a row moved up in part -/
def sSf (g : Nat → Nat → Int32) (p k n : Nat) : Nat → Nat → Int32 := fun q i => if q = p ∧ k ≤ i ∧ i + 1 < n then g p (i + 1) else g q i
section ZC
variable {x y : zSt} {E : zEx} {Q : zO → zM → Prop}
end ZC
def mRr (y : zSt) (p k n : Nat) : zSt := su (su (su (su (su (su y 18 (sSf (y 18) p k n)) 19 (sSf (y 19) p k n)) 21 (sSf (y 21) p k n)) 22 (sSf (y 22) p k n)) 20 (sSf (y 20) p k n)) 13 (u2 (y 13) p 3 (nI (n - 1)))
/-- where a rule stood before -/
def sgm (k n i : Nat) : Nat := if k ≤ i ∧ i + 1 < n then i + 1 else if i + 1 = n then k else i
theorem zInv_rr {x y : zSt} {b p k n qn t w l : Nat} {fc nr : Nat → Nat} (hp : p < 4) (hSc : iSc x n qn t w l) (hBx : ∀ p, p < 4 → iBx x p n (fc p) b) (hRu : ∀ p, p < 4 → iRu x p (fc p) (nr p)) (hLe : iLe x n t) (hQs : zQs x qn) (hRl : iRl x y n nr) (hk : k < nr p) : zInv (sRr x p k (nr p)) (mRr (mTh y 0) p k (nr p)) (b + 2000) := by
  have y13 : y 13 = x 13 := iRl_sh hRl (iSh_a (by omega) (by omega))
  have r17 : ∀ i, sRr x p k (nr p) 17 p i = x 17 p (sgm k (nr p) i) := fun i => by
    show (if p = p ∧ k ≤ i ∧ i + 1 < nr p then x 17 p (i + 1) else if p = p ∧ i + 1 = nr p then x 17 p k else x 17 p i) = _
    unfold sgm
    simp only [true_and]
    (repeat' split) <;> rfl
  have r17o : ∀ q i, ¬ q = p → sRr x p k (nr p) 17 q i = x 17 q i := fun q i hq => by
    show (if q = p ∧ k ≤ i ∧ i + 1 < nr p then x 17 p (i + 1) else if q = p ∧ i + 1 = nr p then x 17 p k else x 17 q i) = _
    rw [if_neg (fun e => hq e.1), if_neg (fun e => hq e.1)]
  have ro : ∀ c, ¬ c = 13 → ¬ c = 17 → sRr x p k (nr p) c = x c := fun c h1 h2 => by unfold sRr; rw [su_eq, if_neg h2, su_eq, if_neg h1]
  have r13 : ∀ q i, sRr x p k (nr p) 13 q i = if q = p ∧ i = 3 then nI (nr p - 1) else x 13 q i := fun q i => rfl
  have hsg : ∀ r, r < 6 → sgm k (nr p) r < 6 := fun r hr => by
    have := (hRu p hp).1.2.1
    unfold sgm; (repeat' split) <;> omega
  have hsg2 : ∀ r, r < nr p - 1 → sgm k (nr p) r < nr p := fun r hr => by unfold sgm; (repeat' split) <;> omega
  refine ⟨n, qn, t, w, l, fc, fun q => if q = p then nr p - 1 else nr q, hSc, fun q hq => ?_, fun q hq => ?_, hLe, hQs, ?_⟩
  · obtain ⟨⟨b1, b2, b3, b4, b5⟩, b6, b7, b8⟩ := hBx q hq
    refine ⟨⟨?_, b2, b3, b4, b5⟩, b6, iNum_le b7 (by omega), b8⟩
    rw [r13, if_neg (by omega)]; exact b1
  · obtain ⟨⟨h1, h2, h3, h4⟩, h5, h6⟩ := hRu q hq
    by_cases e : q = p
    · subst e
      dsimp only
      rw [if_pos rfl]
      refine ⟨⟨?_, by omega, fun r hr => ?_, h4⟩, fun r s hr hs he => ?_, fun r hr => ?_⟩
      · rw [r13, if_pos ⟨rfl, rfl⟩]
      · rw [r17]; exact h3 _ (hsg r hr)
      · rw [r17, r17] at he
        have := h5 _ _ (hsg r hr) (hsg s hs) he
        unfold sgm at this
        (repeat' split at this) <;> omega
      · rw [r17]
        exact h6 _ (hsg2 r hr)
    · dsimp only
      rw [if_neg e]
      refine ⟨⟨?_, h2, fun r hr => ?_, h4⟩, fun r s hr hs he => ?_, fun r hr => ?_⟩
      · rw [r13, if_neg (fun z => e z.1)]; exact h1
      · rw [r17o q r e]; exact h3 r hr
      · rw [r17o q r e, r17o q s e] at he; exact h5 r s hr hs he
      · rw [r17o q r e]; exact h6 r hr
  · obtain ⟨h6, h7, h8⟩ := hRl
    have mo : ∀ c, ¬ c = 2 → ¬ c = 13 → ¬ (18 ≤ c ∧ c ≤ 22) → mRr (mTh y 0) p k (nr p) c = y c := fun c h2 h13 h18 => by
      unfold mRr
      simp only [su_eq]
      rw [if_neg h13, if_neg (by omega), if_neg (by omega), if_neg (by omega), if_neg (by omega), if_neg (by omega), mTh_o y 0 h2]
    have sf : ∀ (g : Nat → Nat → Int32) r, r < nr p - 1 → sSf g p k (nr p) p r = g p (sgm k (nr p) r) := fun g r hr => by
      unfold sSf sgm
      simp only [true_and]
      by_cases h : k ≤ r ∧ r + 1 < nr p
      · rw [if_pos h, if_pos h]
      · rw [if_neg h, if_neg h, if_neg (by omega)]
    have sfo : ∀ (g : Nat → Nat → Int32) q r, ¬ q = p → sSf g p k (nr p) q r = g q r := fun g q r hq => by
      unfold sSf
      rw [if_neg (fun e => hq e.1)]
    refine ⟨fun c hc => ?_, fun c i a1 a2 hi => ?_, fun q r hq hr => ?_⟩
    · by_cases e13 : c = 13
      · subst e13
        show u2 (y 13) p 3 (nI (nr p - 1)) = u2 (x 13) p 3 (nI (nr p - 1))
        rw [y13]
      · have hc' := hc
        unfold iSh at hc'
        rw [mo c (by omega) e13 (by omega), ro c e13 (by omega)]
        exact h6 c hc
    · rw [mo c (by omega) (by omega) (by omega), ro c (by omega) (by omega)]
      exact h7 c i a1 a2 hi
    · have m18 : mRr (mTh y 0) p k (nr p) 18 = sSf (y 18) p k (nr p) := rfl
      have m19 : mRr (mTh y 0) p k (nr p) 19 = sSf (y 19) p k (nr p) := rfl
      have m20 : mRr (mTh y 0) p k (nr p) 20 = sSf (y 20) p k (nr p) := rfl
      have m21 : mRr (mTh y 0) p k (nr p) 21 = sSf (y 21) p k (nr p) := rfl
      have m22 : mRr (mTh y 0) p k (nr p) 22 = sSf (y 22) p k (nr p) := rfl
      unfold iRr iFl
      rw [m18, m19, m20, m21, m22, ro 18 (by omega) (by omega), ro 19 (by omega) (by omega), ro 20 (by omega) (by omega), ro 21 (by omega) (by omega), ro 22 (by omega) (by omega), ro 23 (by omega) (by omega)]
      dsimp only at hr
      by_cases e : q = p
      · subst e
        rw [if_pos rfl] at hr
        rw [r17, sf _ r hr, sf _ r hr, sf _ r hr, sf _ r hr, sf _ r hr]
        exact h8 q _ hq (hsg2 r hr)
      · rw [if_neg e] at hr
        rw [r17o q r e, sfo _ q r e, sfo _ q r e, sfo _ q r e, sfo _ q r e, sfo _ q r e]
        exact h8 q r hq hr
section ZT
variable {x y : zSt} {E : zEx} {b : Nat}
end ZT
