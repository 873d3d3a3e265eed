/-! constructors: the words at the start, the store in the making (source: wip/p35/src/311.cu.txt) -/
def x0 : zSt := fun c p i => if c = 0 then (if p = 0 ∧ i = 7 then nI 20 else if p = 0 ∧ i = 8 then nI 10 else nI 0) else if c = 13 then (if i = 1 then nI 2 else if i = 5 then nI 200 else nI 0) else if c = 14 then -1 else if c = 16 then (if p < 4 ∧ i < 8 then nI 1 else nI 0) else if c = 17 then nI i else if c = 25 then -1 else if c = 34 then -1 else nI 0
/-- the law's store's own words before the numbers are set; what lies in the cells that don't stand fast -/
def y00 : zSt := su x0 16 (fun _ _ => nI 0)
def nf (a j : Nat) : Value := if (zdk a).1 < 11 then defaultValue (zty (zdk a).1 j) else zdef (zdk a).1
def E00 (L : Nat) (xs : Nat → Int32) : zEx := (0, fun a => if a = 0 then (50, L) else (0, 0), fun a j => if a = 0 then .int (xs j) else if 411 ≤ a ∧ a ≤ 414 ∧ j < 2 then .int (-1) else if a ≤ 476 then nf a j else .null, fun c p i => if c = 1 then 411 + p else if c = 2 then 428 + p else if c = 3 then 435 + 9 * p + i else if c = 4 then 432 else 476)
def fin0 (a j : Nat) : Value := if 411 ≤ a ∧ a ≤ 414 then .int (-1) else zlay x0 y00 (E00 0 (fun _ => 0)) a j
def finC (a j : Nat) : Value := if a = 1 then nf 1 j else fin0 a j
noncomputable def mG (fin : Nat → Nat → Value) (L : Nat) (xs : Nat → Int32) (k : Nat) (P : Nat → Nat → Prop) : zM := (k, fun a => if a = 0 then (50, L) else if a ≤ k then zdk a else (0, 0), fun a j => if a = 0 then .int (xs j) else if a ≤ k then (haveI := Classical.propDecidable (P a j ∨ ¬ j < (zdk a).2); if P a j ∨ ¬ j < (zdk a).2 then nf a j else fin a j) else .null)
section ZK
variable {fin : Nat → Nat → Value} {L : Nat} {xs : Nat → Int32} {P : Nat → Nat → Prop}
theorem mS_0 : mG fin L xs 0 P = zM0 L xs := by
  refine zM_ext rfl (funext fun a => ?_) (fun a j => ?_)
  · show (if a = 0 then (50, L) else if a ≤ 0 then zdk a else (0, 0)) = if a = 0 then (50, L) else (0, 0)
    by_cases h : a = 0
    · rw [if_pos h, if_pos h]
    · rw [if_neg h, if_neg h, if_neg (by omega)]
  · unfold mG zM0
    dsimp only
    by_cases h : a = 0
    · rw [if_pos h, if_pos h]
    · rw [if_neg h, if_neg h, if_neg (by omega)]
theorem mG_po : mG finC L xs 409 (fun _ _ => False) = mG fin0 L xs 409 (fun a j => a = 1) := by
  refine zM_ext rfl rfl (fun a j => ?_)
  unfold mG
  dsimp only
  by_cases h0 : a = 0
  · rw [if_pos h0, if_pos h0]
  · rw [if_neg h0, if_neg h0]
    by_cases h2 : a ≤ 409
    · rw [if_pos h2, if_pos h2]
      by_cases hj : j < (zdk a).2
      · rw [if_neg (fun q => q.elim id (fun q => q hj))]
        by_cases h1 : a = 1
        · rw [if_pos (Or.inl h1)]
          unfold finC
          rw [if_pos h1, h1]
        · rw [if_neg (fun q => q.elim h1 (fun q => q hj))]
          unfold finC
          rw [if_neg h1]
      · rw [if_pos (Or.inr hj), if_pos (Or.inr hj)]
    · rw [if_neg h2, if_neg h2]
theorem zdk_p : ∀ a, 411 ≤ a → a ≤ 414 → zdk a = (20, 2) := by
  intro a h1 h2
  rcases (show a = 411 ∨ a = 412 ∨ a = 413 ∨ a = 414 by omega) with e | e | e | e <;> subst e <;> decide +kernel
theorem mS_end : mG fin0 L xs 476 (fun _ _ => False) = zmem x0 y00 (E00 L xs) := by
  refine zM_ext rfl (funext fun a => ?_) (fun a j => ?_)
  · show (if a = 0 then (50, L) else if a ≤ 476 then zdk a else (0, 0)) = if 1 ≤ a ∧ a ≤ 476 then zdk a else if a = 0 then (50, L) else (0, 0)
    by_cases h : a = 0
    · rw [if_pos h, if_neg (by omega), if_pos h]
    · by_cases h2 : a ≤ 476
      · rw [if_neg h, if_pos h2, if_pos ⟨by omega, h2⟩]
      · rw [if_neg h, if_neg h2, if_neg (by omega), if_neg h]
  · unfold mG zmem
    dsimp only
    by_cases h : a = 0
    · rw [if_pos h, if_neg (fun q => absurd q.1 (by omega))]
      show _ = if a = 0 then _ else _
      rw [if_pos h]
    · rw [if_neg h]
      by_cases h2 : a ≤ 476
      · rw [if_pos h2]
        by_cases hr : 411 ≤ a ∧ a ≤ 414
        · have hk := zdk_p a hr.1 hr.2
          have hz : ¬ zin a j := fun q => by
            have := q.2.2
            unfold zdl at this
            rw [if_pos hr] at this
            omega
          rw [if_neg hz]
          show _ = if a = 0 then _ else if 411 ≤ a ∧ a ≤ 414 ∧ j < 2 then _ else if a ≤ 476 then _ else _
          rw [if_neg h, hk]
          by_cases hj : j < 2
          · rw [if_neg (fun q => q.elim id (fun q => q hj)), if_pos ⟨hr.1, hr.2, hj⟩]
            unfold fin0
            rw [if_pos hr]
          · rw [if_pos (Or.inr hj), if_neg (fun q => hj q.2.2), if_pos h2]
        · have hl : zdl a = (zdk a).2 := by
            unfold zdl
            rw [if_neg hr]
          by_cases hj : j < (zdk a).2
          · have hz : zin a j := ⟨by omega, h2, by rw [hl]; exact hj⟩
            rw [if_pos hz, if_neg (fun q => q.elim id (fun q => q hj))]
            unfold fin0
            rw [if_neg hr]
            rfl
          · rw [if_pos (Or.inr hj), if_neg (fun q => hj (by have := q.2.2; rw [hl] at this; exact this))]
            show _ = if a = 0 then _ else if 411 ≤ a ∧ a ≤ 414 ∧ j < 2 then _ else if a ≤ 476 then _ else _
            rw [if_neg h, if_neg (fun q => hr ⟨q.1, q.2.1⟩), if_pos h2]
      · rw [if_neg h2, if_neg (fun q => h2 q.2.1)]
        show _ = if a = 0 then _ else if 411 ≤ a ∧ a ≤ 414 ∧ j < 2 then _ else if a ≤ 476 then _ else _
        rw [if_neg h, if_neg (fun q => by omega), if_neg h2]
end ZK
