/-! the law: the script, what holds at the head of its loop (source: wip/whole/src/250.la.txt) -/
theorem zle_t {a c : Nat} (h : a ≤ c) : (a ≤ c) = True := eq_true h
theorem lg_cmp_self (v : Int64) : lg_cmp v v = nI 0 := by
  unfold lg_cmp
  simp
  rfl
section ZL
variable {x y : zSt} {E : zEx} {L : Nat}
theorem sc_kd (h : E.2.1 0 = (50, L)) : (zmem x y E).2.1 0 = (50, L) := by
  show (if 1 ≤ 0 ∧ 0 ≤ 439 then zdk 0 else E.2.1 0) = _
  rw [if_neg (by omega)]; exact h
theorem sc_rd {j : Nat} : zrd (zmem x y E) 0 j = E.2.2.1 0 j := by
  show (if zin 0 j then zlay x y E 0 j else E.2.2.1 0 j) = _
  exact if_neg (fun h => absurd h.1 (by omega))
theorem sc_is {j : Nat} (h : E.2.1 0 = (50, L)) (hj : j < L) (hL : L ≤ 4096) : zias (zmem x y E) 0 (nI j) = True := by
  refine eq_true (Or.inr ?_)
  unfold zixS
  rw [sc_kd h, nI_clamp (by omega), decide_eq_true (rfl : (0 : Nat) = 0), decide_eq_true (nI_pos' (by omega)), decide_eq_true hj]
  rfl
theorem sc_arr (h : E.2.1 0 = (50, L)) : zarr (zmem x y E) 0 = True := eq_true (Or.inr ⟨rfl, by rw [sc_kd h]⟩)
theorem sc_ln (h : E.2.1 0 = (50, L)) : zlen' (zmem x y E) 0 = L := by unfold zlen'; rw [sc_kd h]
end ZL
def gI (L : Nat) (xs : Nat → Int32) (x y : zSt) (E : zEx) (b : Nat) : Prop := zInv x y b ∧ E.2.1 0 = (50, L) ∧ ∀ j, E.2.2.1 0 j = .int (xs j)
def gT (L : Nat) (xs : Nat → Int32) (b i va vu : Nat) (Q : zO → zM → Prop) : Prop := ∀ (x y : zSt) (E : zEx) (va' vu' : Nat) (l6 l7 l8 : Option Value), gI L xs x y E (b + 2000) → va' ≤ va + 8 → vu' ≤ vu + 480 → zwp zm_211 (2534, [some (.ref 0), some (.ref 1), some (.ref 409), some (.ref 438), some (.ref 439), some (.int (nI i)), l6, l7, l8], [], zmem x y E, va', vu') Q
