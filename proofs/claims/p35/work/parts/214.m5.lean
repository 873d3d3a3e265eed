/-! contracts of the reference's methods: what is told, searches (source: wip/p35/src/214.m5.txt, by expand.py) -/
theorem tcnt_more {P : Nat → Bool} {n : Nat} : ∀ k, n ≤ k → (∀ i, n ≤ i → i < k → P i = false) → tcnt P k = tcnt P n
  | 0, h, _ => by
    have : n = 0 := by omega
    subst this; rfl
  | k + 1, h, hp => by
    by_cases e : n = k + 1
    · rw [e]
    · rw [show tcnt P (k + 1) = tcnt P k + (if P k = true then 1 else 0) from rfl, tcnt_more k (by omega) (fun i h1 h2 => hp i h1 (by omega)), hp k (by omega) (by omega)]
      simp
theorem sCt_t (c : Nat → Bool) : ∀ n, sCt c n = nI (tcnt c n)
  | 0 => rfl
  | n + 1 => by
    show (if c n = true then sCt c n + nI 1 else sCt c n) = nI (tcnt c n + if c n = true then 1 else 0)
    rw [sCt_t c n]
    split <;> simp only [nI_add, Nat.add_zero]
theorem nIa1 : nI 1 - nI 1 = nI 0 := by decide
theorem nIa0 : nI 1 - nI 0 = nI 1 := by decide
theorem xSe_and (y : zSt) (p i : Nat) : (y 27 p i &&& nI 1) = if xSe y p i = true then nI 1 else nI 0 := by
  unfold xSe
  rw [zbit0]
  rcases zand1b (y 27 p i) with h | h <;> rw [h] <;> decide
/-- a box's folders and copies are laid well (for reading) -/
def zBx (y : zSt) (p n c : Nat) : Prop := y 13 p 1 = nI c ∧ c ≤ 8 ∧ zFor (y 14 p) c ∧ (∀ i, i < 60 → y 25 p i = -1 ∨ (i < n ∧ ∃ f, f < c ∧ y 25 p i = nI f)) ∧ ∀ i, i < 60 → ∃ k, k < 4 ∧ y 27 p i = nI k
def zQs (y : zSt) (qn : Nat) : Prop := ∀ q, q < qn → (y 36 0 q = nI 4 → y 37 0 q = nI 0 ∨ y 37 0 q = nI 1) ∧ (y 36 0 q = nI 5 → ∃ a, a < 8 ∧ y 37 0 q = nI a)
theorem zite_b {c : Bool} {A B : Prop} {d : Prop} [Decidable d] (h : c = decide d) : (if d then A else B) ↔ (if c = true then A else B) := by
  rw [h]
  simp only [decide_eq_true_eq]
theorem zmk_eq {k : Nat} (hk : k < 4) {a : Int32} (ha : a = nI 0 ∨ a = nI 1) : (nI k &&& (if a = nI 0 then nI 1 else nI 2) = nI 0) ↔ ¬ zbit (nI k) a = true := by
  have : k = 0 ∨ k = 1 ∨ k = 2 ∨ k = 3 := by omega
  rcases this with h | h | h | h <;> subst h <;> rcases ha with h | h <;> subst h <;> decide
section ZC
variable {x y : zSt} {E : zEx} {Q : zO → zM → Prop}
theorem sHd_bit (y : zSt) (p m : Nat) {q : Nat} : ∀ k, q < k → k ≤ 20 → zbit (sHd y p m k) (nI q) = zbit (sHd y p m (q + 1)) (nI q)
  | 0, h, _ => by omega
  | k + 1, h, h20 => by
    by_cases e : q = k
    · rw [e]
    · have ih := sHd_bit y p m k (q := q) (by omega) (by omega)
      rw [← ih]
      show zbit (if sQh (y 36 0 k) (y 37 0 k) (y 38 0 k) (sLf y m) (y 27 p m) (sWx y p m) (sHd y p m k) = true then sHd y p m k ||| (nI 1 <<< (nI k &&& 31)) else sHd y p m k) (nI q) = _
      split
      · rw [zbit_or _ (by omega) (by omega), decide_eq_false e, Bool.or_false]
      · rfl
end ZC
