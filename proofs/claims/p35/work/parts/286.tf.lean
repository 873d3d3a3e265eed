/-! threads: what the law asks of them, as facts (source: wip/p35/src/286.tf.txt, by expand3.py) -/
theorem tcnt_le2 {P P' : Nat → Bool} : ∀ n, (∀ m, m < n → P m = true → P' m = true) → tcnt P n ≤ tcnt P' n
  | 0, _ => Nat.le_refl _
  | n + 1, h => by
    have ih := tcnt_le2 n (fun m hm => h m (by omega))
    show tcnt P n + (if P n = true then 1 else 0) ≤ tcnt P' n + (if P' n = true then 1 else 0)
    by_cases e : P n = true
    · rw [if_pos e, if_pos (h n (by omega) e)]; omega
    · rw [if_neg e]; split <;> omega
theorem tcnt_up {P : Nat → Bool} {a b : Nat} (h : a ≤ b) : tcnt P a ≤ tcnt P b := by
  induction b with
  | zero => have : a = 0 := by omega
            subst this; exact Nat.le_refl _
  | succ b ih =>
    by_cases e : a = b + 1
    · subst e; exact Nat.le_refl _
    · have := ih (by omega)
      show tcnt P a ≤ tcnt P b + _
      omega
section ZT
variable {x y : zSt} {n qn t w l b p : Nat} {fc nr : Nat → Nat}
theorem th_tO (h : cG n qn t w l fc nr b x y) : tO (xKe x p) (xSe x p) (xAd x n (nI w)) n n (xDr x p n (nI w)) := tDr_ok h.1.2.1 (xAd_sym h.2.2.2.1 h.1.2.2.2.2.2.1) n (Nat.le_refl n)
/-- every kept one has a root, that is its own root and not behind it -/
theorem th_root (h : cG n qn t w l fc nr b x y) {m : Nat} (hm : m < n) (hk : ¬ x 25 p m = -1) : ∃ j, (xDr x p n (nI w)).1 m = some j ∧ j ≤ m ∧ j < n ∧ ¬ x 25 p j = -1 ∧ (xDr x p n (nI w)).1 j = some j := by
  obtain ⟨h1, h2, h3, h4, h5, h6⟩ := th_tO (p := p) h
  have km : xKe x p m = true := by unfold xKe; simpa using hk
  have hne := h1 m hm km
  obtain ⟨j, ej⟩ : ∃ j, (xDr x p n (nI w)).1 m = some j := by
    cases e : (xDr x p n (nI w)).1 m with
    | none => exact absurd e hne
    | some j => exact ⟨j, rfl⟩
  obtain ⟨-, hjm, kj⟩ := h2 m j hm ej
  have hjn : j < n := by omega
  have hkj : ¬ x 25 p j = -1 := by unfold xKe at kj; simpa using kj
  have hnj := h1 j hjn kj
  obtain ⟨j', ej'⟩ : ∃ j', (xDr x p n (nI w)).1 j = some j' := by
    cases e : (xDr x p n (nI w)).1 j with
    | none => exact absurd e hnj
    | some j' => exact ⟨j', rfl⟩
  have hc := h4 (fun a => ((xDr x p n (nI w)).1 a).getD 0) (fun a c ha hc ka kc hac => by
    dsimp only
    rw [h3 a c ha hc ka kc hac (h1 a ha ka)]) m j hm ej
  rw [ej, ej'] at hc
  have hjj : j = j' := hc
  refine ⟨j, ej, hjm, hjn, hkj, by rw [ej', ← hjj]⟩
theorem th_cnt (h : cG n qn t w l fc nr b x y) (j : Nat) : (xDr x p n (nI w)).2.1 j = tcnt (fun m => decide ((xDr x p n (nI w)).1 m = some j)) n ∧ (xDr x p n (nI w)).2.2.1 j ≤ (xDr x p n (nI w)).2.1 j := by
  obtain ⟨h1, h2, h3, h4, h5, h6⟩ := th_tO (p := p) h
  refine ⟨h5.1 j, ?_⟩
  rw [h5.1 j, h5.2 j]
  exact tcnt_le2 n (fun m hm e => (Bool.and_eq_true _ _ ▸ e).1)
theorem th_all (h : cG n qn t w l fc nr b x y) : (xDr x p n (nI w)).2.2.2.2 = tcnt (fun m => decide ((xDr x p n (nI w)).1 m = some m)) n := (th_tO (p := p) h).2.2.2.2.2
/-- steps are fewer than copies in a thread -/
theorem th_step (h : cG n qn t w l fc nr b x y) : ∀ (K m : Nat), m < n → ¬ x 25 p m = -1 → ∀ j, (xDr x p n (nI w)).1 m = some j → sSt (x 25 p) (x 34 0) K (x 34 0 m) + 1 ≤ tcnt (fun i => decide ((xDr x p n (nI w)).1 i = some j)) (m + 1) := by
  obtain ⟨h1, h2, h3, h4, h5, h6⟩ := th_tO (p := p) h
  have h60 := h.1.2.1
  intro K
  induction K with
  | zero =>
    intro m hm hk j e
    show 0 + 1 ≤ tcnt _ m + (if decide ((xDr x p n (nI w)).1 m = some j) = true then 1 else 0)
    rw [if_pos (decide_eq_true e)]
    omega
  | succ K ih =>
    intro m hm hk j e
    have hone : 1 ≤ tcnt (fun i => decide ((xDr x p n (nI w)).1 i = some j)) (m + 1) := by
      show 1 ≤ tcnt _ m + (if decide ((xDr x p n (nI w)).1 m = some j) = true then 1 else 0)
      rw [if_pos (decide_eq_true e)]
      omega
    show (if x 34 0 m = -1 then 0 else if x 25 p (x 34 0 m).toNatClampNeg = -1 then 0 else sSt (x 25 p) (x 34 0) K (x 34 0 (x 34 0 m).toNatClampNeg) + 1) + 1 ≤ _
    by_cases c1 : x 34 0 m = -1
    · rw [if_pos c1]; exact hone
    · rw [if_neg c1]
      obtain ⟨a, ham, ea⟩ := (h.2.2.2.1.1 m (by omega)).resolve_left c1
      rw [ea, nI_clamp (by omega)]
      by_cases c2 : x 25 p a = -1
      · rw [if_pos c2]; exact hone
      · rw [if_neg c2]
        have km : xKe x p m = true := by unfold xKe; simpa using hk
        have ka : xKe x p a = true := by unfold xKe; simpa using c2
        have hadj : xAd x n (nI w) m a = true := by
          unfold xAd sBs
          rw [decide_eq_true hm, decide_eq_true (show a < n by omega), decide_eq_true ea]
          rfl
        have ea' := (h3 m a hm (by omega) km ka hadj (h1 m hm km)).trans e
        have := ih a (by omega) c2 j ea'
        have up := tcnt_up (P := fun i => decide ((xDr x p n (nI w)).1 i = some j)) (show a + 1 ≤ m by omega)
        show _ ≤ tcnt _ m + (if decide ((xDr x p n (nI w)).1 m = some j) = true then 1 else 0)
        rw [if_pos (decide_eq_true e)]
        omega
theorem th_lt (h : cG n qn t w l fc nr b x y) {m j : Nat} (hm : m < n) (hk : ¬ x 25 p m = -1) (e : (xDr x p n (nI w)).1 m = some j) : sSt (x 25 p) (x 34 0) 60 (x 34 0 m) < (xDr x p n (nI w)).2.1 j := by
  have h1 := th_step h 60 m hm hk j e
  have h2 := tcnt_up (P := fun i => decide ((xDr x p n (nI w)).1 i = some j)) (show m + 1 ≤ n by omega)
  rw [(th_cnt h j).1]
  omega
end ZT
