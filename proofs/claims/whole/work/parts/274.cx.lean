/-! constructors: conditions on any memory; which places differ from what new puts there (source: wip/whole/src/274.cx.txt) -/
section ZK
variable {M : zM} {Q : zO → zM → Prop}
theorem k_okN {c n : Nat} {f : Nat → Value} : zok (znew M (c, n) f) (M.1 + 1) c n := by
  refine ⟨?_, ?_⟩
  · unfold zal
    simp only [Bool.and_eq_true, decide_eq_true_eq]
    exact ⟨by omega, Nat.le_refl _⟩
  · show (if M.1 + 1 = M.1 + 1 then (c, n) else M.2.1 (M.1 + 1)) = (c, n)
    rw [if_pos rfl]
theorem k_arr {b c n : Nat} (h : zok M b c n) (ht : (20 ≤ c ∧ c < 24) ∨ zqk c = true) : zarr M b = True := eq_true (Or.inl ⟨h.1, by rw [h.2]; exact ht⟩)
theorem k_len {b c n : Nat} (h : zok M b c n) : zlen' M b = n := by
  unfold zlen'
  rw [h.2]
theorem k_ix {b c n k : Nat} (h : zok M b c n) (hk : k < n) (hn : n ≤ 1000) : zix M c b (nI k) = true := by
  unfold zix
  rw [h.1, h.2, nI_clamp (by omega), decide_eq_true rfl, decide_eq_true (nI_pos' (by omega)), decide_eq_true hk]
  rfl
theorem k_ia {b c n k : Nat} (h : zok M b c n) (hk : k < n) (hn : n ≤ 1000) : zia M c b (nI k) = True := eq_true (k_ix h hk hn)
theorem k_ias {b c m n k : Nat} {f : Nat → Value} (h : zok M b (30 + c) n) (ht : zqk (30 + c) = true) (hc : c < 11) (hk : k < n) (hn : n ≤ 1000) : zias2 (znew M (c, m) f) (M.1 + 1) b (nI k) = True := by
  have h1 := k_okN (M := M) (c := c) (n := m) (f := f)
  refine eq_true ?_
  unfold zias2
  rw [h1.2]
  exact ⟨h1.1, hc, ht, k_ix (of_eq_true (k_okn h)) hk hn⟩
theorem k_iasp {a j b v : Nat} {w : Value} {i : Int32} : zias2 (zput M a j w) v b i = zias2 M v b i := rfl
theorem k_iap {a j b t : Nat} {w : Value} {i : Int32} : zia (zput M a j w) t b i = zia M t b i := rfl
theorem k_arrp {a j b : Nat} {w : Value} : zarr (zput M a j w) b = zarr M b := rfl
theorem k_lenp {a j b : Nat} {w : Value} : zlen' (zput M a j w) b = zlen' M b := rfl
end ZK
def veq (u v : Value) : Bool := match u, v with
  | .int a, .int b => decide (a = b)
  | .long a, .long b => decide (a = b)
  | .double a, .double b => decide (a = b)
  | .null, .null => true
  | .ref a, .ref b => decide (a = b)
  | _, _ => false
theorem veq_eq {u v : Value} (h : veq u v = true) : u = v := by
  cases u <;> cases v <;> simp_all [veq]
def isN (a j : Nat) : Bool := veq (fin0 a j) (nf a j)
section ZK
variable {L : Nat} {xs : Nat → Int32} {P P' : Nat → Nat → Prop} {k : Nat}
theorem mS_cg (h : ∀ a j, 1 ≤ a → a ≤ k → j < (zdk a).2 → isN a j = false → (P a j ↔ P' a j)) : mS L xs k P = mS L xs k P' := by
  refine zM_ext rfl rfl (fun a j => ?_)
  unfold mS
  dsimp only
  by_cases h0 : a = 0
  · rw [if_pos h0, if_pos h0]
  · rw [if_neg h0, if_neg h0]
    by_cases h2 : a ≤ k
    · rw [if_pos h2, if_pos h2]
      by_cases hj : j < (zdk a).2
      · cases hn : isN a j with
        | true =>
          have e : fin0 a j = nf a j := veq_eq hn
          rw [e, ite_self, ite_self]
        | false =>
          have := h a j (by omega) h2 hj hn
          by_cases hp : P a j
          · rw [if_pos (Or.inl hp), if_pos (Or.inl (this.mp hp))]
          · rw [if_neg (fun q => q.elim hp (fun q => q hj)), if_neg (fun q => q.elim (fun q => hp (this.mpr q)) (fun q => q hj))]
      · rw [if_pos (Or.inr hj), if_pos (Or.inr hj)]
    · rw [if_neg h2, if_neg h2]
theorem mS_newo {c n : Nat} (hz : zdk (k + 1) = (c, n)) (hc : c < 11) : znew (mS L xs k P) (c, n) (fun j => defaultValue (zty c j)) = mS L xs (k + 1) (fun a j => P a j ∨ a = k + 1) := mS_new (fun j => by unfold nf; rw [hz]; exact (if_pos hc).symm) hz
theorem mS_newa {c n : Nat} (hz : zdk (k + 1) = (c, n)) (hc : ¬ c < 11) {v : Value} (hv : zdef c = v) : znew (mS L xs k P) (c, n) (fun _ => v) = mS L xs (k + 1) (fun a j => P a j ∨ a = k + 1) := mS_new (fun j => by unfold nf; rw [hz, ← hv]; exact (if_neg hc).symm) hz
end ZK
theorem q_sh : ∀ p < 4, ∀ s < 8, zdk (21 + 78 * p + s) = (7, 3) ∧ veq (.int (-1)) (fin0 (21 + 78 * p + s) 0) = true ∧ veq (.int (nI 1)) (fin0 (21 + 78 * p + s) 2) = true ∧ veq (.ref (21 + 78 * p + s)) (fin0 (18 + 78 * p) s) = true ∧ ∀ j < 3, isN (21 + 78 * p + s) j = true ∨ j = 0 ∨ j = 2 := by decide +kernel
theorem q_ru : ∀ p < 4, ∀ s < 6, zdk (29 + 78 * p + s) = (6, 6) ∧ veq (.ref (29 + 78 * p + s)) (fin0 (19 + 78 * p) s) = true ∧ ∀ j < 6, isN (29 + 78 * p + s) j = true := by decide +kernel
theorem q_co : ∀ p < 4, ∀ s < 60, zdk (35 + 78 * p + s) = (1, 6) ∧ veq (.int (-1)) (fin0 (35 + 78 * p + s) 1) = true ∧ veq (.ref (35 + 78 * p + s)) (fin0 (20 + 78 * p) s) = true ∧ ∀ j < 6, isN (35 + 78 * p + s) j = true ∨ j = 1 := by decide +kernel
theorem q_bxa : ∀ p < 4, zdk (17 + 78 * p) = (0, 6) ∧ zdk (18 + 78 * p) = (37, 8) ∧ zdk (19 + 78 * p) = (36, 6) ∧ zdk (20 + 78 * p) = (31, 60) := by decide +kernel
theorem q_bxb : ∀ p < 4, veq (.ref (18 + 78 * p)) (fin0 (17 + 78 * p) 0) = true ∧ veq (.int (nI 2)) (fin0 (17 + 78 * p) 1) = true ∧ veq (.ref (19 + 78 * p)) (fin0 (17 + 78 * p) 2) = true ∧ veq (.ref (20 + 78 * p)) (fin0 (17 + 78 * p) 4) = true ∧ veq (.int (nI 200)) (fin0 (17 + 78 * p) 5) = true ∧ veq (.ref (17 + 78 * p)) (fin0 2 p) = true := by decide +kernel
theorem q_bxc : ∀ p < 4, ∀ j < 6, isN (17 + 78 * p) j = true ∨ j = 0 ∨ j = 1 ∨ j = 2 ∨ j = 4 ∨ j = 5 := by decide +kernel
theorem q_bx (p : Nat) (hp : p < 4) : zdk (17 + 78 * p) = (0, 6) ∧ zdk (18 + 78 * p) = (37, 8) ∧ zdk (19 + 78 * p) = (36, 6) ∧ zdk (20 + 78 * p) = (31, 60) ∧ veq (.ref (18 + 78 * p)) (fin0 (17 + 78 * p) 0) = true ∧ veq (.int (nI 2)) (fin0 (17 + 78 * p) 1) = true ∧ veq (.ref (19 + 78 * p)) (fin0 (17 + 78 * p) 2) = true ∧ veq (.ref (20 + 78 * p)) (fin0 (17 + 78 * p) 4) = true ∧ veq (.int (nI 200)) (fin0 (17 + 78 * p) 5) = true ∧ veq (.ref (17 + 78 * p)) (fin0 2 p) = true ∧ ∀ j < 6, isN (17 + 78 * p) j = true ∨ j = 0 ∨ j = 1 ∨ j = 2 ∨ j = 4 ∨ j = 5 := ⟨(q_bxa p hp).1, (q_bxa p hp).2.1, (q_bxa p hp).2.2.1, (q_bxa p hp).2.2.2, (q_bxb p hp).1, (q_bxb p hp).2.1, (q_bxb p hp).2.2.1, (q_bxb p hp).2.2.2.1, (q_bxb p hp).2.2.2.2.1, (q_bxb p hp).2.2.2.2.2, q_bxc p hp⟩
theorem q_le : ∀ s < 60, zdk (329 + s) = (2, 6) ∧ veq (.int (-1)) (fin0 (329 + s) 4) = true ∧ veq (.ref (329 + s)) (fin0 3 s) = true ∧ ∀ j < 6, isN (329 + s) j = true ∨ j = 4 := by decide +kernel
theorem q_qu : ∀ s < 20, zdk (389 + s) = (4, 3) ∧ veq (.ref (389 + s)) (fin0 4 s) = true ∧ ∀ j < 3, isN (389 + s) j = true := by decide +kernel
