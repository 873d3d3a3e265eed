/-! quotients are numbers (source: wip/p35/src/239.fl.txt) -/
def dN (v : UInt64) : Prop := v &&& 0x7fffffffffffffff ≤ 0x7ff0000000000000
def dGd (X : FP.Core.Datum) : Prop := (∃ s, X = .inf s) ∨ ∃ s c q, X = .fin s c q ∧ c < 2 ^ 53 ∧ q ≤ 971
theorem dGd_bound (s : Bool) {c : Nat} (q : Int) (hc : c < 2 ^ 53) : dGd (FP.Core.bound FP.Core.b64 s c q) := by
  unfold FP.Core.bound
  split
  · next h => exact Or.inr ⟨s, c, q, rfl, hc, h⟩
  · exact Or.inl ⟨s, rfl⟩
theorem dGd_ratio (s : Bool) (num den : Nat) (e : Int) : dGd (FP.Core.roundRatio FP.Core.b64 s num den e) := by
  unfold FP.Core.roundRatio
  split
  · exact Or.inr ⟨s, 0, _, rfl, by decide, by decide⟩
  · unfold FP.Core.roundAt FP.Core.settle
    split
    · next h => exact dGd_bound s _ h
    · exact dGd_bound s _ (by decide)
theorem dGd_enc {X : FP.Core.Datum} (h : dGd X) : FP.Core.encode FP.Core.b64 X < 2 ^ 64 ∧ FP.Core.encode FP.Core.b64 X % 2 ^ 63 ≤ 0x7ff0000000000000 := by
  have ht : FP.Core.b64.tails = 4503599627370496 := by decide
  have he : FP.Core.b64.exps = 2048 := by decide
  have hq : FP.Core.b64.qmin = -1074 := by decide
  rcases h with ⟨s, rfl⟩ | ⟨s, c, q, rfl, hc, h⟩
  · cases s <;> decide
  · unfold FP.Core.encode FP.Core.assemble
    dsimp only
    rw [ht, he, hq]
    have hs : s.toNat ≤ 1 := by cases s <;> decide
    have hs' : s.toNat = 0 ∨ s.toNat = 1 := by omega
    split
    · rcases hs' with e | e <;> rw [e] <;> omega
    · have : ((q - -1074).toNat + 1) ≤ 2046 := by omega
      generalize (q - -1074).toNat + 1 = k at this
      rcases hs' with e | e <;> rw [e] <;> omega
theorem dN_iff (v : UInt64) : dN v ↔ v.toNat % 2 ^ 63 ≤ 0x7ff0000000000000 := by
  unfold dN
  rw [UInt64.le_iff_toNat_le, UInt64.toNat_and, show (0x7fffffffffffffff : UInt64).toNat = 2 ^ 63 - 1 from rfl, Nat.and_two_pow_sub_one_eq_mod]
  exact Iff.rfl
theorem dN_enc {X : FP.Core.Datum} (h : dGd X) : dN (UInt64.ofNat (FP.Core.encode FP.Core.b64 X)) := by
  obtain ⟨h1, h2⟩ := dGd_enc h
  rw [dN_iff, UInt64.toNat_ofNat_of_lt' h1]
  exact h2
theorem dN_i2d (v : Int32) : dN (FP.i2d v) := by
  show dN (UInt64.ofNat (FP.Core.encode FP.Core.b64 (FP.Core.round FP.Core.b64 (FP.Core.ofInt v.toInt))))
  exact dN_enc (dGd_ratio _ _ _ _)
theorem dN_dec {v : UInt64} (h : dN v) : FP.Core.decode FP.Core.b64 v.toNat ≠ .nan := by
  rw [dN_iff] at h
  have ht : FP.Core.b64.tails = 4503599627370496 := by decide
  have he : FP.Core.b64.exps = 2048 := by decide
  unfold FP.Core.decode FP.Core.fieldE FP.Core.fieldT
  rw [ht, he]
  split
  · split
    · intro h; cases h
    · omega
  · split
    · intro h; cases h
    · intro h; cases h
theorem dN_div {a b : UInt64} (ha : dN a) (hb : ∃ s c q, FP.Core.decode FP.Core.b64 b.toNat = .fin s c q ∧ ¬ c = 0) : dN (FP.ddiv a b) := by
  show dN (UInt64.ofNat (FP.Core.encode FP.Core.b64 (FP.Core.quotient FP.Core.b64 (FP.Core.decode FP.Core.b64 a.toNat) (FP.Core.decode FP.Core.b64 b.toNat))))
  refine dN_enc ?_
  obtain ⟨s, c, q, e, hc⟩ := hb
  rw [e]
  have hn := dN_dec ha
  generalize FP.Core.decode FP.Core.b64 a.toNat = A at hn ⊢
  cases A with
  | nan => exact absurd rfl hn
  | inf s' => exact Or.inl ⟨_, rfl⟩
  | fin s' c' q' =>
    unfold FP.Core.quotient
    dsimp only
    rw [if_neg hc]
    exact dGd_ratio _ _ _ _
theorem dN_cmp {v : UInt64} (h : dN v) : FP.dcmp v v = some .eq := by
  show FP.Core.order (FP.Core.decode FP.Core.b64 v.toNat) (FP.Core.decode FP.Core.b64 v.toNat) = some .eq
  have hn := dN_dec h
  generalize FP.Core.decode FP.Core.b64 v.toNat = A at hn ⊢
  have hc : ∀ i : Int, compare i i = .eq := fun i => by
    show compareOfLessAndEq i i = .eq
    unfold compareOfLessAndEq
    rw [if_neg (by omega), if_pos rfl]
  cases A with
  | nan => exact absurd rfl hn
  | inf s => exact congrArg some (hc _)
  | fin s c q => exact congrArg some (hc _)
def dFn : FP.Core.Datum → Bool
  | .fin _ c _ => !(c == 0)
  | _ => false
theorem dFn_ck : (List.range 60).all (fun k => dFn (FP.Core.decode FP.Core.b64 (FP.i2d (nI (k + 1))).toNat)) = true := by decide +kernel
theorem dN_cnt {k : Nat} (h1 : 1 ≤ k) (h2 : k ≤ 60) (v : Int32) : dN (FP.ddiv (FP.i2d v) (FP.i2d (nI k))) := by
  refine dN_div (dN_i2d v) ?_
  have := List.all_eq_true.mp dFn_ck (k - 1) (List.mem_range.mpr (by omega))
  rw [show k - 1 + 1 = k by omega] at this
  generalize FP.Core.decode FP.Core.b64 (FP.i2d (nI k)).toNat = A at this ⊢
  cases A with
  | nan => cases this
  | inf s => cases this
  | fin s c q =>
    refine ⟨s, c, q, rfl, fun e => ?_⟩
    subst e
    exact absurd this Bool.false_ne_true
theorem dN_0 : dN 0 := by unfold dN; decide
