/-! contracts of the reference's methods: threads (source: wip/p35/src/213.m4.txt, by expand.py) -/
theorem oI_eq {v : Option Nat} {j : Nat} (hv : ∀ i, v = some i → i < 60) (hj : j < 60) : (oI v = nI j) = (v = some j) := by
  cases v with
  | none => exact propext ⟨fun e => absurd e.symm (nI_m1 (by omega)), fun e => by cases e⟩
  | some i =>
    have := hv i rfl
    exact propext ⟨fun e => by rw [(nI_eq (by omega) (by omega)).mp e], fun e => by cases e; rfl⟩
theorem oI_inj {v w : Option Nat} (hv : ∀ i, v = some i → i < 60) (hw : ∀ i, w = some i → i < 60) : (oI v = oI w) = (v = w) := by
  cases w with
  | none => exact oI_m1 hv
  | some j => exact oI_eq hv (hw j rfl)
theorem mI_start {kept : Nat → Bool} {adj : Nat → Nat → Bool} {m : Nat} {r0 : Nat → Option Nat} (h : tLab kept adj m r0) : mI kept adj m 0 (tu r0 m (if kept m = true then some m else none)) := by
  obtain ⟨h1, h2, h3, h4⟩ := h
  have ht : ∀ k, k < m → tu r0 m (if kept m = true then some m else none) k = r0 k := fun k hk => if_neg (by omega)
  have hm : tu r0 m (if kept m = true then some m else none) m = if kept m = true then some m else none := if_pos rfl
  refine ⟨fun k hk kk => ?_, fun k hk kk => ?_, fun a b ha hb ka kb hab => ?_, fun a ha => absurd ha (Nat.not_lt_zero a), fun c hc k j hk ej => ?_⟩
  · by_cases ek : k = m
    · subst ek; rw [hm, kk]; rfl
    · rw [ht k (by omega)]; exact h1 k (by omega) kk
  · by_cases ek : k = m
    · subst ek; rw [hm, kk]; exact ⟨k, rfl, Nat.le_refl k, kk⟩
    · rw [ht k (by omega)]; exact h2 k (by omega) kk
  · rw [ht a ha, ht b hb]; exact h3 a b ha hb ka kb hab
  · by_cases ek : k = m
    · subst ek
      rw [hm] at ej
      split at ej
      · cases ej; rfl
      · cases ej
    · rw [ht k (by omega)] at ej
      exact h4 c (fun a b ha hb => hc a b (by omega) (by omega)) k j (by omega) ej
theorem mIn_none {adj : Nat → Nat → Bool} {m o : Nat} {r : Nat → Option Nat} (h : r m = none) : mIn adj m o r = r := by
  unfold mIn
  split
  · next a b e1 e2 => rw [h] at e2; cases e2
  · rfl
theorem mIn_all_none {adj : Nat → Nat → Bool} {m : Nat} {r : Nat → Option Nat} (h : r m = none) : ∀ k, zfo (mIn adj m) k r = r
  | 0 => rfl
  | k + 1 => by
    show mIn adj m k (zfo (mIn adj m) k r) = r
    rw [mIn_all_none h k, mIn_none h]
/-- the reference's test of two messages, the later one first -/
def mBs (y : zSt) (w : Int32) (m o : Nat) : Bool := decide (y 34 0 m = nI o) || (decide (y 31 0 m = y 31 0 o) && !decide (w < y 35 0 m - y 35 0 o))
section ZC
variable {x y : zSt} {E : zEx}
theorem mI_lt {kept : Nat → Bool} {adj : Nat → Nat → Bool} {m o : Nat} {r : Nat → Option Nat} (h : mI kept adj m o r) {k : Nat} (hk : k ≤ m) : ∀ i, r k = some i → i ≤ k := by
  intro i e
  cases hkk : kept k with
  | false => rw [h.1 k hk hkk] at e; cases e
  | true =>
    obtain ⟨j, g1, g2, -⟩ := h.2.1 k hk hkk
    rw [e] at g1; cases g1; exact g2
abbrev zO4 : Type := Option Value × Option Value × Option Value × Option Value
theorem mRo_lt {adj : Nat → Nat → Bool} {n : Nat} {kept : Nat → Bool} (hsym : ∀ a b, adj a b = adj b a) {i : Nat} (hi : i < n) : ∀ j, mRo kept adj n i = some j → j ≤ i := by
  intro j e
  have h := mRo_ok (kept := kept) hsym n
  cases hk : kept i with
  | false => rw [h.1 i hi hk] at e; cases e
  | true =>
    obtain ⟨a, g1, g2, -⟩ := h.2.1 i hi hk
    rw [e] at g1; cases g1; exact g2
theorem zbit0 (s : Int32) : zbit s (nI 0) = decide (s &&& nI 1 = nI 1) := by
  rw [zbit_eq s (by omega), zand1]
/-- what the reference tells of a copy's thread -/
def mTv (y : zSt) (r : Nat → Option Nat) (p n m : Nat) (w : Int32) : Int32 := if w = nI 0 then oI (r m) else if w = nI 3 then nI (sSt (y 25 p) (y 34 0) 60 (y 34 0 m)) else if w = nI 1 then nI (tcnt (fun o => decide (r o = r m)) n) else nI (tcnt (fun o => decide (r o = r m) && !xSe y p o) n)
end ZC
