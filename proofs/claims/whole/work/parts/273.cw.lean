/-! constructors: what new, put and reads do to the store in the making (source: wip/whole/src/273.cw.txt) -/
section ZK
variable {L : Nat} {xs : Nat → Int32} {P : Nat → Nat → Prop} {k : Nat}
theorem mS_1 : (mS L xs k P).1 = k := rfl
theorem mS_new {q : Nat × Nat} {f : Nat → Value} (hf : ∀ j, f j = nf (k + 1) j) (hq : zdk (k + 1) = q) : znew (mS L xs k P) q f = mS L xs (k + 1) (fun a j => P a j ∨ a = k + 1) := by
  refine zM_ext rfl (funext fun a => ?_) (fun a j => ?_)
  · show (if a = k + 1 then q else if a = 0 then (50, L) else if a ≤ k then zdk a else (0, 0)) = if a = 0 then (50, L) else if a ≤ k + 1 then zdk a else (0, 0)
    by_cases h : a = k + 1
    · subst h; rw [if_pos rfl, if_neg (by omega), if_pos (by omega), hq]
    · rw [if_neg h]
      by_cases h0 : a = 0
      · rw [if_pos h0, if_pos h0]
      · rw [if_neg h0, if_neg h0]
        by_cases h2 : a ≤ k
        · rw [if_pos h2, if_pos (by omega)]
        · rw [if_neg h2, if_neg (by omega)]
  · unfold mS znew
    dsimp only
    by_cases h : a = k + 1
    · subst h; rw [if_pos rfl, if_neg (by omega), if_pos (by omega), if_pos (Or.inl (Or.inr rfl))]; exact hf j
    · rw [if_neg h]
      by_cases h0 : a = 0
      · rw [if_pos h0, if_pos h0]
      · rw [if_neg h0, if_neg h0]
        by_cases h2 : a ≤ k
        · rw [if_pos h2, if_pos (show a ≤ k + 1 by omega)]
          by_cases hp : P a j ∨ ¬ j < (zdk a).2
          · rw [if_pos hp, if_pos (hp.imp Or.inl id)]
          · rw [if_neg hp, if_neg (fun q => hp (q.imp (fun q => q.elim id (fun q => absurd q h)) id))]
        · rw [if_neg h2, if_neg (by omega)]
theorem mS_put {a0 j0 : Nat} {v : Value} (h1 : 1 ≤ a0) (h2 : a0 ≤ k) (hj : j0 < (zdk a0).2) (hv : v = fin0 a0 j0) : zput (mS L xs k P) a0 j0 v = mS L xs k (fun a j => P a j ∧ ¬ (a = a0 ∧ j = j0)) := by
  refine zM_ext rfl rfl (fun a j => ?_)
  unfold mS zput
  dsimp only
  by_cases h : a = a0 ∧ j = j0
  · obtain ⟨rfl, rfl⟩ := h
    rw [if_pos ⟨rfl, rfl⟩, if_neg (by omega), if_pos h2, if_neg (fun q => q.elim (fun q => q.2 ⟨rfl, rfl⟩) (fun q => q hj))]; exact hv
  · rw [if_neg h]
    by_cases h0 : a = 0
    · rw [if_pos h0, if_pos h0]
    · rw [if_neg h0, if_neg h0]
      by_cases h3 : a ≤ k
      · rw [if_pos h3, if_pos h3]
        by_cases hp : P a j ∨ ¬ j < (zdk a).2
        · rw [if_pos hp, if_pos (hp.imp (fun q => ⟨q, h⟩) id)]
        · rw [if_neg hp, if_neg (fun q => hp (q.imp (fun q => q.1) id))]
      · rw [if_neg h3, if_neg h3]
theorem mS_rd {a j : Nat} (h1 : 1 ≤ a) (h2 : a ≤ k) (hj : j < (zdk a).2) (hp : ¬ P a j) : zrd (mS L xs k P) a j = fin0 a j := by
  unfold mS zrd
  dsimp only
  rw [if_neg (by omega), if_pos h2, if_neg (fun q => q.elim hp (fun q => q hj))]
theorem mS_ok {a c n : Nat} (h1 : 1 ≤ a) (h2 : a ≤ k) (hz : zdk a = (c, n)) : zok (mS L xs k P) a c n := by
  refine ⟨?_, ?_⟩
  · unfold zal mS
    simp only [Bool.and_eq_true, decide_eq_true_eq]
    exact ⟨h1, h2⟩
  · show (if a = 0 then (50, L) else if a ≤ k then zdk a else (0, 0)) = (c, n)
    rw [if_neg (by omega), if_pos h2, hz]
end ZK
