/-! constructors: what new, put and reads do to the store in the making (source: wip/p35/src/312.cw.txt) -/
section ZK
variable {fin : Nat → Nat → Value} {L : Nat} {xs : Nat → Int32} {P : Nat → Nat → Prop} {k : Nat}
theorem mS_1 : (mG fin L xs k P).1 = k := rfl
theorem mS_new {q : Nat × Nat} {f : Nat → Value} (hf : ∀ j, f j = nf (k + 1) j) (hq : zdk (k + 1) = q) : znew (mG fin L xs k P) q f = mG fin L xs (k + 1) (fun a j => P a j ∨ a = k + 1) := by
  refine zM_ext rfl (funext fun a => ?_) (fun a j => ?_)
  · show (if a = k + 1 then q else if a = 0 then (50, L) else if a ≤ k then zdk a else (0, 0)) = if a = 0 then (50, L) else if a ≤ k + 1 then zdk a else (0, 0)
    by_cases h : a = k + 1
    · subst h; rw [if_pos rfl, if_neg (by omega), if_pos (by omega), hq]
    · rw [if_neg h]
      by_cases h0 : a = 0
      · rw [if_pos h0, if_pos h0]
      · rw [if_neg h0, if_neg h0]
        by_cases h2 : a ≤ k
        · rw [if_pos h2, if_pos (by omega)]
        · rw [if_neg h2, if_neg (by omega)]
  · unfold mG znew
    dsimp only
    by_cases h : a = k + 1
    · subst h; rw [if_pos rfl, if_neg (by omega), if_pos (by omega), if_pos (Or.inl (Or.inr rfl))]; exact hf j
    · rw [if_neg h]
      by_cases h0 : a = 0
      · rw [if_pos h0, if_pos h0]
      · rw [if_neg h0, if_neg h0]
        by_cases h2 : a ≤ k
        · rw [if_pos h2, if_pos (show a ≤ k + 1 by omega)]
          by_cases hp : P a j ∨ ¬ j < (zdk a).2
          · rw [if_pos hp, if_pos (hp.imp Or.inl id)]
          · rw [if_neg hp, if_neg (fun q => hp (q.imp (fun q => q.elim id (fun q => absurd q h)) id))]
        · rw [if_neg h2, if_neg (by omega)]
theorem mS_put {a0 j0 : Nat} {v : Value} (h1 : 1 ≤ a0) (h2 : a0 ≤ k) (hj : j0 < (zdk a0).2) (hv : v = fin a0 j0) : zput (mG fin L xs k P) a0 j0 v = mG fin L xs k (fun a j => P a j ∧ ¬ (a = a0 ∧ j = j0)) := by
  refine zM_ext rfl rfl (fun a j => ?_)
  unfold mG zput
  dsimp only
  by_cases h : a = a0 ∧ j = j0
  · obtain ⟨rfl, rfl⟩ := h
    rw [if_pos ⟨rfl, rfl⟩, if_neg (by omega), if_pos h2, if_neg (fun q => q.elim (fun q => q.2 ⟨rfl, rfl⟩) (fun q => q hj))]; exact hv
  · rw [if_neg h]
    by_cases h0 : a = 0
    · rw [if_pos h0, if_pos h0]
    · rw [if_neg h0, if_neg h0]
      by_cases h3 : a ≤ k
      · rw [if_pos h3, if_pos h3]
        by_cases hp : P a j ∨ ¬ j < (zdk a).2
        · rw [if_pos hp, if_pos (hp.imp (fun q => ⟨q, h⟩) id)]
        · rw [if_neg hp, if_neg (fun q => hp (q.imp (fun q => q.1) id))]
      · rw [if_neg h3, if_neg h3]
theorem mS_rd {a j : Nat} (h1 : 1 ≤ a) (h2 : a ≤ k) (hj : j < (zdk a).2) (hp : ¬ P a j) : zrd (mG fin L xs k P) a j = fin a j := by
  unfold mG zrd
  dsimp only
  rw [if_neg (by omega), if_pos h2, if_neg (fun q => q.elim hp (fun q => q hj))]
theorem mS_ok {a c n : Nat} (h1 : 1 ≤ a) (h2 : a ≤ k) (hz : zdk a = (c, n)) : zok (mG fin L xs k P) a c n := by
  refine ⟨?_, ?_⟩
  · unfold zal mG
    simp only [Bool.and_eq_true, decide_eq_true_eq]
    exact ⟨h1, h2⟩
  · show (if a = 0 then (50, L) else if a ≤ k then zdk a else (0, 0)) = (c, n)
    rw [if_neg (by omega), if_pos h2, hz]
end ZK
/-! constructors: conditions on any memory; which places differ from what new puts there (source: wip/p35/src/312.cw.txt) -/
section ZK
variable {M : zM} {Q : zO → zM → Prop}
theorem k_okN {c n : Nat} {f : Nat → Value} : zok (znew M (c, n) f) (M.1 + 1) c n := by
  refine ⟨?_, ?_⟩
  · unfold zal
    simp only [Bool.and_eq_true, decide_eq_true_eq]
    exact ⟨by omega, Nat.le_refl _⟩
  · show (if M.1 + 1 = M.1 + 1 then (c, n) else M.2.1 (M.1 + 1)) = (c, n)
    rw [if_pos rfl]
theorem k_arr {b c n : Nat} (h : zok M b c n) (ht : c = 20 ∨ c = 23 ∨ zqk c = true) : zarr M b = True := eq_true (Or.inl ⟨h.1, by rw [h.2]; exact ht⟩)
theorem k_len {b c n : Nat} (h : zok M b c n) : zlen' M b = n := by
  unfold zlen'
  rw [h.2]
theorem k_ix {b c n k : Nat} (h : zok M b c n) (hk : k < n) (hn : n ≤ 1000) : zix M c b (nI k) = true := by
  unfold zix
  rw [h.1, h.2, nI_clamp (by omega), decide_eq_true rfl, decide_eq_true (nI_pos' (by omega)), decide_eq_true hk]
  rfl
theorem k_ia {b c n k : Nat} (h : zok M b c n) (hk : k < n) (hn : n ≤ 1000) : zia M c b (nI k) = True := eq_true (k_ix h hk hn)
theorem k_ias {b c m n k : Nat} {f : Nat → Value} (h : zok M b (30 + c) n) (ht : zqk (30 + c) = true) (hc : c < 10) (hk : k < n) (hn : n ≤ 1000) : zias2 (znew M (c, m) f) (M.1 + 1) b (nI k) = True := by
  have h1 := k_okN (M := M) (c := c) (n := m) (f := f)
  have hz : zup c = 30 + c := by
    unfold zup
    rw [if_pos hc]
  refine eq_true ?_
  unfold zias2
  rw [h1.2]
  show zal _ (M.1 + 1) = true ∧ zqk (zup c) = true ∧ zix _ (zup c) b (nI k) = true
  rw [hz]
  exact ⟨h1.1, ht, k_ix (of_eq_true (k_okn h)) hk hn⟩
theorem k_iasp {a j b v : Nat} {w : Value} {i : Int32} : zias2 (zput M a j w) v b i = zias2 M v b i := rfl
theorem k_iap {a j b t : Nat} {w : Value} {i : Int32} : zia (zput M a j w) t b i = zia M t b i := rfl
theorem k_arrp {a j b : Nat} {w : Value} : zarr (zput M a j w) b = zarr M b := rfl
theorem k_lenp {a j b : Nat} {w : Value} : zlen' (zput M a j w) b = zlen' M b := rfl
end ZK
def veq (u v : Value) : Bool := match u, v with
  | .int a, .int b => decide (a = b)
  | .long a, .long b => decide (a = b)
  | .double a, .double b => decide (a = b)
  | .null, .null => true
  | .ref a, .ref b => decide (a = b)
  | _, _ => false
theorem veq_eq {u v : Value} (h : veq u v = true) : u = v := by
  cases u <;> cases v <;> simp_all [veq]
def isN (fin : Nat → Nat → Value) (a j : Nat) : Bool := veq (fin a j) (nf a j)
section ZK
variable {fin : Nat → Nat → Value} {L : Nat} {xs : Nat → Int32} {P P' : Nat → Nat → Prop} {k : Nat}
theorem mS_cg (h : ∀ a j, 1 ≤ a → a ≤ k → j < (zdk a).2 → isN fin a j = false → (P a j ↔ P' a j)) : mG fin L xs k P = mG fin L xs k P' := by
  refine zM_ext rfl rfl (fun a j => ?_)
  unfold mG
  dsimp only
  by_cases h0 : a = 0
  · rw [if_pos h0, if_pos h0]
  · rw [if_neg h0, if_neg h0]
    by_cases h2 : a ≤ k
    · rw [if_pos h2, if_pos h2]
      by_cases hj : j < (zdk a).2
      · cases hn : isN fin a j with
        | true =>
          have e : fin a j = nf a j := veq_eq hn
          rw [e, ite_self, ite_self]
        | false =>
          have := h a j (by omega) h2 hj hn
          by_cases hp : P a j
          · rw [if_pos (Or.inl hp), if_pos (Or.inl (this.mp hp))]
          · rw [if_neg (fun q => q.elim hp (fun q => q hj)), if_neg (fun q => q.elim (fun q => hp (this.mpr q)) (fun q => q hj))]
      · rw [if_pos (Or.inr hj), if_pos (Or.inr hj)]
    · rw [if_neg h2, if_neg h2]
theorem mS_newo {c n : Nat} (hz : zdk (k + 1) = (c, n)) (hc : c < 11) : znew (mG fin L xs k P) (c, n) (fun j => defaultValue (zty c j)) = mG fin L xs (k + 1) (fun a j => P a j ∨ a = k + 1) := mS_new (fun j => by unfold nf; rw [hz]; exact (if_pos hc).symm) hz
theorem mS_newa {c n : Nat} (hz : zdk (k + 1) = (c, n)) (hc : ¬ c < 11) {v : Value} (hv : zdef c = v) : znew (mG fin L xs k P) (c, n) (fun _ => v) = mG fin L xs (k + 1) (fun a j => P a j ∨ a = k + 1) := mS_new (fun j => by unfold nf; rw [hz, ← hv]; exact (if_neg hc).symm) hz
end ZK
section ZK
variable {fin : Nat → Nat → Value} {L : Nat} {xs : Nat → Int32} {P : Nat → Nat → Prop} {k : Nat}
theorem mS_nwN {c n : Nat} {v : Value} (hz : zdk (k + 1) = (c, n)) (hc : ¬ c < 11) (hv : zdef c = v) (hN : ∀ j < n, isN fin (k + 1) j = true) : znew (mG fin L xs k P) (c, n) (fun _ => v) = mG fin L xs (k + 1) P :=
  (mS_newa hz hc hv).trans (mS_cg (fun a j h1 h2 hj hn => by
    have hq : ¬ a = k + 1 := fun q => by
      subst q
      rw [hz] at hj
      rw [hN j hj] at hn
      exact Bool.noConfusion hn
    exact ⟨fun q => q.resolve_right hq, Or.inl⟩))
theorem mS_put' {a0 j0 : Nat} {v : Value} {P' : Nat → Nat → Prop} (h1 : 1 ≤ a0) (h2 : a0 ≤ k) (hj : j0 < (zdk a0).2) (hv : veq v (fin a0 j0) = true) (h : ∀ a j, 1 ≤ a → a ≤ k → j < (zdk a).2 → isN fin a j = false → (P a j ∧ ¬ (a = a0 ∧ j = j0) ↔ P' a j)) : zput (mG fin L xs k P) a0 j0 v = mG fin L xs k P' :=
  (mS_put h1 h2 hj (veq_eq hv)).trans (mS_cg h)
theorem mS_newo' {c n : Nat} {P' : Nat → Nat → Prop} (hz : zdk (k + 1) = (c, n)) (hc : c < 11) (h : ∀ a j, 1 ≤ a → a ≤ k + 1 → j < (zdk a).2 → isN fin a j = false → (P a j ∨ a = k + 1 ↔ P' a j)) : znew (mG fin L xs k P) (c, n) (fun j => defaultValue (zty c j)) = mG fin L xs (k + 1) P' :=
  (mS_newo hz hc).trans (mS_cg h)
theorem mS_newa' {c n : Nat} {v : Value} {P' : Nat → Nat → Prop} (hz : zdk (k + 1) = (c, n)) (hc : ¬ c < 11) (hv : zdef c = v) (h : ∀ a j, 1 ≤ a → a ≤ k + 1 → j < (zdk a).2 → isN fin a j = false → (P a j ∨ a = k + 1 ↔ P' a j)) : znew (mG fin L xs k P) (c, n) (fun _ => v) = mG fin L xs (k + 1) P' :=
  (mS_newa hz hc hv).trans (mS_cg h)
theorem mS_okT {a c n : Nat} (h1 : 1 ≤ a) (hz : zdk a = (c, n)) (h2 : a ≤ k) : zok (mG fin L xs k P) a c n = True := eq_true (mS_ok h1 h2 hz)
end ZK
