/-! constructors: the store while it is being made (source: wip/whole/src/272.cv.txt) -/
def nf (a j : Nat) : Value := if (zdk a).1 < 11 then defaultValue (zty (zdk a).1 j) else zdef (zdk a).1
def E0 (L : Nat) (xs : Nat → Int32) : zEx := (0, fun a => if a = 0 then (50, L) else (0, 0), fun a j => if a = 0 then .int (xs j) else if a ≤ 439 then nf a j else .null, 0, 0)
def fin0 (a j : Nat) : Value := zlay x0 y0 (E0 0 (fun _ => 0)) a j
noncomputable def mS (L : Nat) (xs : Nat → Int32) (k : Nat) (P : Nat → Nat → Prop) : zM := (k, fun a => if a = 0 then (50, L) else if a ≤ k then zdk a else (0, 0), fun a j => if a = 0 then .int (xs j) else if a ≤ k then (haveI := Classical.propDecidable (P a j ∨ ¬ j < (zdk a).2); if P a j ∨ ¬ j < (zdk a).2 then nf a j else fin0 a j) else .null)
section ZK
variable {L : Nat} {xs : Nat → Int32} {P : Nat → Nat → Prop}
theorem mS_0 : mS L xs 0 P = zM0 L xs := by
  refine zM_ext rfl (funext fun a => ?_) (fun a j => ?_)
  · show (if a = 0 then (50, L) else if a ≤ 0 then zdk a else (0, 0)) = if a = 0 then (50, L) else (0, 0)
    by_cases h : a = 0
    · rw [if_pos h, if_pos h]
    · rw [if_neg h, if_neg h, if_neg (by omega)]
  · unfold mS zM0
    dsimp only
    by_cases h : a = 0
    · rw [if_pos h, if_pos h]
    · rw [if_neg h, if_neg h, if_neg (by omega)]
theorem mS_end (hP : ∀ a j, zin a j → P a j → fin0 a j = nf a j) : mS L xs 439 P = zmem x0 y0 (E0 L xs) := by
  refine zM_ext rfl (funext fun a => ?_) (fun a j => ?_)
  · show (if a = 0 then (50, L) else if a ≤ 439 then zdk a else (0, 0)) = if 1 ≤ a ∧ a ≤ 439 then zdk a else if a = 0 then (50, L) else (0, 0)
    by_cases h : a = 0
    · rw [if_pos h, if_neg (by omega), if_pos h]
    · by_cases h2 : a ≤ 439
      · rw [if_neg h, if_pos h2, if_pos ⟨by omega, h2⟩]
      · rw [if_neg h, if_neg h2, if_neg (by omega), if_neg h]
  · unfold mS zmem
    dsimp only
    by_cases h : a = 0
    · rw [if_pos h, if_neg (fun q => absurd q.1 (by omega))]
      show _ = if a = 0 then _ else _
      rw [if_pos h]
    · rw [if_neg h]
      by_cases h2 : a ≤ 439
      · rw [if_pos h2]
        by_cases hj : j < (zdk a).2
        · have hz : zin a j := ⟨by omega, h2, hj⟩
          rw [if_pos hz]
          by_cases hp : P a j
          · rw [if_pos (Or.inl hp), ← hP a j hz hp]; rfl
          · rw [if_neg (fun q => q.elim hp (fun q => q hj))]; rfl
        · rw [if_pos (Or.inr hj), if_neg (fun q => hj q.2.2)]
          show _ = if a = 0 then _ else if a ≤ 439 then _ else _
          rw [if_neg h, if_pos h2]
      · rw [if_neg h2, if_neg (fun q => h2 q.2.1)]
        show _ = if a = 0 then _ else if a ≤ 439 then _ else _
        rw [if_neg h, if_neg h2]
end ZK
