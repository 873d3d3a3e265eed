/-! the class asked, on; the four searches; what is found falls (source: wip/p35/src/299.mb.txt, by expand3.py) -/
section ZM
variable {x x' y Y : zSt} {E : zEx} {n qn t w l b p : Nat} {fc nr : Nat → Nat}
theorem m58 (h : cG n qn t w l fc nr b x y) (hz : zEq x' x) (hp : p < 4) : ∀ (E : zEx) (Y : zSt) (Q : zO → zM → Prop), zcl 58 [.ref 2, .int (nI p)] (zmem x' Y E) Q ↔ Q (.inl (some (.int (sSz (x 25 p) (x 33 0) n)))) (zmem x' Y E) := fun E Y Q => by
  rw [← hz 25 (by omega), ← hz 33 (by omega)]
  exact a58 (cG_x h hz) hp
theorem m62 (h : cG n qn t w l fc nr b x y) (hz : zEq x' x) (hp : p < 4) (E : zEx) (Y : zSt) : ∃ x'', zEq x'' x ∧ ∀ Q : zO → zM → Prop, zcl 62 [.ref 2, .int (nI p)] (zmem x' Y E) Q ↔ Q (.inl (some (.int (nI (tcnt (fun m => decide ((xDr x p n (nI w)).1 m = some m)) n))))) (zmem x'' Y E) := by
  obtain ⟨x'', h1, h2⟩ := a62 (Y := Y) (E := E) (cG_x h hz) hp
  rw [xDr_eq hz] at h1 h2
  rw [th_all h] at h2
  exact ⟨x'', zEq_trans (tR0_zEq h1) hz, h2⟩
theorem sFd_z (hz : zEq x' x) (p i qn : Nat) (q : Int32) : sFd x' p i qn q = sFd x p i qn q := by
  unfold sFd
  rw [hz 25 (by omega), sHd_eq hz]
theorem m65 (h : cG n qn t w l fc nr b x y) (hz : zEq x' x) {q : Nat} (hp : p < 4) (hq : q < qn) : ∀ (E : zEx) (Y : zSt) (Q : zO → zM → Prop), zcl 65 [.ref 2, .int (nI p), .int (nI q)] (zmem x' Y E) Q ↔ Q (.inl (some (.int (nI (tcnt (fun i => sFd x p i qn (nI q)) n))))) (zmem x' Y E) := fun E Y Q => by
  have h' := cG_x h hz
  have e : (fun i => sFd x' p i qn (nI q)) = fun i => sFd x p i qn (nI q) := funext fun i => sFd_z hz p i qn (nI q)
  rw [← sCt_t, ← e]
  exact c65v hp h'.1.1 h.1.2.1 h'.1.2.2.1 h.1.2.2.2.1 hq ⟨fc p, (h.2.1 p hp).1.2.1, (h'.2.1 p hp).1.1⟩
theorem m66 (h : cG n qn t w l fc nr b x y) (hz : zEq x' x) {q kk j : Nat} (hp : p < 4) (hq : q < qn) (hr : sFa (fun i => sFd x p i qn (nI q)) (nI kk) n (nI 0) = nI j) (hj : j < 60) (hkk : kk < 1000) : ∀ (E : zEx) (Y : zSt) (Q : zO → zM → Prop), zcl 66 [.ref 2, .int (nI p), .int (nI q), .int (nI kk)] (zmem x' Y E) Q ↔ Q (.inl (some (.int (nI j)))) (zmem x' Y E) := fun E Y Q => by
  have e : (fun i => sFd x' p i qn (nI q)) = fun i => sFd x p i qn (nI q) := funext fun i => sFd_z hz p i qn (nI q)
  rw [← hr, ← e]
  refine a66 (cG_x h hz) hp hq ?_ (by omega)
  rw [e, hr]
  exact nI_m1 (by omega)
theorem m67 (h : cG n qn t w l fc nr b x y) (hz : zEq x' x) (hp : p < 4) : ∀ (E : zEx) (Y : zSt) (Q : zO → zM → Prop), zcl 67 [.ref 2, .int (nI p)] (zmem x' Y E) Q ↔ Q (.inl (some (.double (if nI (tcnt (xKe x p) n) = nI 0 then FP.dconst0 else FP.ddiv (FP.i2d (sSz (x 25 p) (x 33 0) n)) (FP.i2d (nI (tcnt (xKe x p) n))))))) (zmem x' Y E) := fun E Y Q => by
  have := c67v (x := x') (y := Y) (E := E) (Q := Q) hp (cG_x h hz).1.1 h.1.2.1
  have e : xKc x' p n = tcnt (xKe x p) n := by
    unfold xKc xKe
    rw [hz 25 (by omega)]
  rw [e, hz 25 (by omega), hz 33 (by omega)] at this
  exact this
/-- the searches: the second is NOT the first, the third BOTH, the fourth EITHER -/
def iQ (x : zSt) : Prop := x 36 0 1 = nI 7 ∧ x 37 0 1 = nI 0 ∧ x 36 0 2 = nI 8 ∧ x 37 0 2 = nI 0 ∧ x 38 0 2 = nI 1 ∧ x 36 0 3 = nI 9 ∧ x 37 0 3 = nI 0 ∧ x 38 0 3 = nI 1
theorem hd_hi (x : zSt) (p i : Nat) {q : Nat} (hq : q < 20) : ∀ k, k ≤ q → zbit (sHd x p i k) (nI q) = false
  | 0, _ => zbit_0 (by omega)
  | k + 1, h => by
    have ih := hd_hi x p i hq k (by omega)
    show zbit (if sQh (x 36 0 k) (x 37 0 k) (x 38 0 k) (sLf x i) (x 27 p i) (sWx x p i) (sHd x p i k) = true then sHd x p i k ||| (nI 1 <<< (nI k &&& 31)) else sHd x p i k) (nI q) = _
    split
    · rw [zbit_or _ (by omega) (by omega), ih, decide_eq_false (by omega)]; rfl
    · exact ih
theorem hd_q (x : zSt) (p i : Nat) {q : Nat} (hq : q < 4) : zbit (sHd x p i 4) (nI q) = sQh (x 36 0 q) (x 37 0 q) (x 38 0 q) (sLf x i) (x 27 p i) (sWx x p i) (sHd x p i q) := by
  rw [sHd_bit x p i 4 hq (by omega)]
  show zbit (if sQh (x 36 0 q) (x 37 0 q) (x 38 0 q) (sLf x i) (x 27 p i) (sWx x p i) (sHd x p i q) = true then sHd x p i q ||| (nI 1 <<< (nI q &&& 31)) else sHd x p i q) (nI q) = _
  have hh := hd_hi x p i (q := q) (by omega) q (Nat.le_refl _)
  split
  · next h => rw [zbit_or _ (by omega) (by omega), hh, decide_eq_true rfl, h]; rfl
  · next h => rw [hh]; exact (Bool.eq_false_iff.mpr h).symm
theorem iQ_1 (h : iQ x) (p i : Nat) : zbit (sHd x p i 4) (nI 1) = !zbit (sHd x p i 4) (nI 0) := by
  rw [hd_q x p i (q := 1) (by omega), sHd_bit x p i 4 (q := 0) (by omega) (by omega), h.1, h.2.1]
  unfold sQh
  simp only [show ¬ nI 7 = nI 0 by decide, show ¬ nI 7 = nI 1 by decide, show ¬ nI 7 = nI 2 by decide, show ¬ nI 7 = nI 3 by decide, show ¬ nI 7 = nI 4 by decide, show ¬ nI 7 = nI 5 by decide, show ¬ nI 7 = nI 6 by decide, if_false, if_true]
theorem iQ_2 (h : iQ x) (p i : Nat) : zbit (sHd x p i 4) (nI 2) = (zbit (sHd x p i 4) (nI 0) && zbit (sHd x p i 4) (nI 1)) := by
  rw [hd_q x p i (q := 2) (by omega), sHd_bit x p i 4 (q := 0) (by omega) (by omega), sHd_bit x p i 4 (q := 1) (by omega) (by omega), ← sHd_bit x p i 2 (q := 0) (by omega) (by omega), h.2.2.1, h.2.2.2.1, h.2.2.2.2.1]
  unfold sQh
  simp only [show ¬ nI 8 = nI 0 by decide, show ¬ nI 8 = nI 1 by decide, show ¬ nI 8 = nI 2 by decide, show ¬ nI 8 = nI 3 by decide, show ¬ nI 8 = nI 4 by decide, show ¬ nI 8 = nI 5 by decide, show ¬ nI 8 = nI 6 by decide, show ¬ nI 8 = nI 7 by decide, if_false, if_true]
theorem iQ_3 (h : iQ x) (p i : Nat) : zbit (sHd x p i 4) (nI 3) = (zbit (sHd x p i 4) (nI 0) || zbit (sHd x p i 4) (nI 1)) := by
  rw [hd_q x p i (q := 3) (by omega), sHd_bit x p i 4 (q := 0) (by omega) (by omega), sHd_bit x p i 4 (q := 1) (by omega) (by omega), ← sHd_bit x p i 3 (q := 0) (by omega) (by omega), ← sHd_bit x p i 3 (q := 1) (by omega) (by omega), h.2.2.2.2.2.1, h.2.2.2.2.2.2.1, h.2.2.2.2.2.2.2]
  unfold sQh
  simp only [show ¬ nI 9 = nI 0 by decide, show ¬ nI 9 = nI 1 by decide, show ¬ nI 9 = nI 2 by decide, show ¬ nI 9 = nI 3 by decide, show ¬ nI 9 = nI 4 by decide, show ¬ nI 9 = nI 5 by decide, show ¬ nI 9 = nI 6 by decide, show ¬ nI 9 = nI 7 by decide, show ¬ nI 9 = nI 8 by decide, if_false]
theorem fd_k (x : zSt) (p i : Nat) (q : Int32) : sFd x p i 4 q = (xKe x p i && zbit (sHd x p i 4) q) := by
  unfold sFd xKe
  by_cases e : x 25 p i = -1
  · rw [if_pos e, decide_eq_true e]; rfl
  · rw [if_neg e, decide_eq_false e]; rfl
theorem tcnt_two {A B K : Nat → Bool} : ∀ n, (∀ i, i < n → K i = (A i || B i) ∧ (A i && B i) = false) → tcnt A n + tcnt B n = tcnt K n
  | 0, _ => rfl
  | n + 1, h => by
    have ih := tcnt_two n (fun i hi => h i (by omega))
    obtain ⟨h1, h2⟩ := h n (by omega)
    show tcnt A n + (if A n = true then 1 else 0) + (tcnt B n + (if B n = true then 1 else 0)) = tcnt K n + (if K n = true then 1 else 0)
    rw [h1]
    cases ha : A n <;> cases hb : B n <;> rw [ha, hb] at h2 <;> simp_all <;> omega
theorem fd_01 (h : iQ x) (p n : Nat) : tcnt (fun i => sFd x p i 4 (nI 0)) n + tcnt (fun i => sFd x p i 4 (nI 1)) n = tcnt (xKe x p) n := tcnt_two n (fun i _ => by
  rw [fd_k, fd_k, iQ_1 h]
  cases xKe x p i <;> cases zbit (sHd x p i 4) (nI 0) <;> exact ⟨rfl, rfl⟩)
theorem fd_2 (h : iQ x) (p n : Nat) : tcnt (fun i => sFd x p i 4 (nI 2)) n = 0 := by
  rw [← tcnt_0 n]
  refine tcnt_ext n (fun i _ => ?_)
  rw [fd_k, iQ_2 h, iQ_1 h]
  cases xKe x p i <;> cases zbit (sHd x p i 4) (nI 0) <;> rfl
theorem fd_3 (h : iQ x) (p : Nat) : (fun i => sFd x p i 4 (nI 3)) = xKe x p := funext fun i => by
  rw [fd_k, iQ_3 h, iQ_1 h]
  cases xKe x p i <;> cases zbit (sHd x p i 4) (nI 0) <;> rfl
/-- the k-th of what is found, the latest first -/
theorem fa_pos {fd : Nat → Bool} : ∀ (n pl k : Nat), pl ≤ k → k < pl + tcnt fd n → k < 1000000 → ∃ j, j < n ∧ sFa fd (nI k) n (nI pl) = nI j ∧ tcnt fd j + (k - pl) + 1 = tcnt fd n
  | 0, pl, k, h1, h2, _ => by
    have h2 : k < pl + 0 := h2
    omega
  | n + 1, pl, k, h1, h2, h3 => by
    have es : tcnt fd (n + 1) = tcnt fd n + (if fd n = true then 1 else 0) := rfl
    have ef : sFa fd (nI k) (n + 1) (nI pl) = if fd n = true then (if nI pl = nI k then nI n else sFa fd (nI k) n (nI pl + nI 1)) else sFa fd (nI k) n (nI pl) := rfl
    by_cases e : fd n = true
    · rw [if_pos e] at es ef
      by_cases z : pl = k
      · subst z
        rw [if_pos rfl] at ef
        exact ⟨n, by omega, ef, by omega⟩
      · rw [if_neg (fun q => z ((nI_eq (by omega) (by omega)).mp q)), nI_add] at ef
        obtain ⟨j, g1, g2, g3⟩ := fa_pos (fd := fd) n (pl + 1) k (by omega) (by omega) h3
        exact ⟨j, by omega, ef.trans g2, by omega⟩
    · rw [if_neg e] at es ef
      obtain ⟨j, g1, g2, g3⟩ := fa_pos (fd := fd) n pl k h1 (by omega) h3
      exact ⟨j, by omega, ef.trans g2, by omega⟩
/-- lengths of the folders' lists, together -/
theorem aLn_flr (bl : Nat → Nat → List Nat) (p : Nat) : ∀ k f, aLn bl p f + (flr (bl p) k f).length = aLn bl p (f + k)
  | 0, _ => rfl
  | k + 1, f => by
    have ih := aLn_flr bl p k (f + 1)
    have e : aLn bl p (f + 1) = aLn bl p f + (bl p f).length := rfl
    show aLn bl p f + (bl p f ++ flr (bl p) k (f + 1)).length = aLn bl p (f + (k + 1))
    rw [List.length_append, show f + (k + 1) = f + 1 + k by omega, ← ih, e]
    omega
theorem aLn_all {bl : Nat → Nat → List Nat} (h : cG n qn t w l fc nr b x y) (hB : BL bl n y) (hp : p < 4) : aLn bl p (fc p) = tcnt (xKe x p) n := by
  obtain ⟨⟨hc1, hc8, hF, hK, hM⟩, hc2, hN, hC⟩ := h.2.1 p hp
  have e25 := (cG_25 h).1
  have h0 := aLn_flr bl p 8 0
  rw [Nat.zero_add] at h0
  have h0 : 0 + (flr (bl p) 8 0).length = aLn bl p 8 := h0
  have hl := (hB.all hp (fun i hi => by
    rw [e25]
    rcases hK i (by have := h.1.2.1; omega) with z | ⟨_, f, hf, z⟩
    · exact Or.inl z
    · exact Or.inr ⟨f, by omega, z⟩)).length_eq
  rw [← tcnt_filter] at hl
  have he : ∀ k, fc p + k ≤ 8 → aLn bl p (fc p + k) = aLn bl p (fc p) := by
    intro k
    induction k with
    | zero => intro _; rfl
    | succ k ih =>
      intro hk
      have hnil : bl p (fc p + k) = [] := by
        rw [List.eq_nil_iff_forall_not_mem]
        intro i hi
        obtain ⟨h1, h2⟩ := ((hB p (fc p + k) hp (by omega)).1 i).mp hi
        rw [e25] at h2
        rcases hK i (by have := h.1.2.1; omega) with z | ⟨_, f, hf, z⟩
        · rw [z] at h2; exact nI_m1 (by omega) h2.symm
        · rw [z] at h2
          have := (nI_eq (by omega) (by omega)).mp h2
          omega
      show aLn bl p (fc p + k) + (bl p (fc p + k)).length = _
      rw [hnil, ih (by omega)]
      rfl
  have h8 := he (8 - fc p) (by omega)
  rw [show fc p + (8 - fc p) = 8 by omega] at h8
  rw [← h8, ← h0, Nat.zero_add, hl]
  refine tcnt_ext n (fun i _ => ?_)
  unfold xKe
  rw [e25]
end ZM
