/-! stamps: what keeps them all different (source: wip/p35/src/267.ix.txt, by expand3.py) -/
def iXb (x : zSt) (B : Nat) : Prop := ∃ (S : Nat) (st : Nat → Nat → Nat), x 0 0 9 = nI S ∧ S + nb x ≤ B ∧ ∀ p i, p < 4 → i < 60 → (x 25 p i = -1 ∧ x 26 p i = 0 ∧ x 27 p i = 0 ∧ x 28 p i = 0) ∨ (¬ x 25 p i = -1 ∧ x 24 p i = nI 1 ∧ x 28 p i = nI (st p i) ∧ 1 ≤ st p i ∧ st p i ≤ S ∧ ∀ q j, q < 4 → j < 60 → ¬ x 25 q j = -1 → st q j = st p i → q = p ∧ j = i)
theorem iX_iff {x : zSt} {k : Nat} : iX x k ↔ iXb x (8 * k) := Iff.rfl
theorem iXb_le {x : zSt} {B B' : Nat} (h : iXb x B) (hB : B ≤ B') : iXb x B' := by
  obtain ⟨S, st, a, b, c⟩ := h
  exact ⟨S, st, a, by omega, c⟩
theorem iXb_eq {x x' : zSt} {B : Nat} (h0 : x' 0 0 9 = x 0 0 9) (h : ∀ c, 24 ≤ c → c ≤ 28 → x' c = x c) (r : iXb x B) : iXb x' B := by
  obtain ⟨S, st, a, b, c⟩ := r
  refine ⟨S, st, h0.trans a, by rw [nb_eq (h 25 (by omega) (by omega))]; omega, ?_⟩
  rw [h 24 (by omega) (by omega), h 25 (by omega) (by omega), h 26 (by omega) (by omega), h 27 (by omega) (by omega), h 28 (by omega) (by omega)]
  exact c
theorem cnt_1 {P P' : Nat → Bool} {z : Nat} : ∀ (l : List Nat), l.Nodup → (∀ i, ¬ i = z → P' i = P i) → (l.filter P').length + (if z ∈ l ∧ P z = true then 1 else 0) = (l.filter P).length + (if z ∈ l ∧ P' z = true then 1 else 0)
  | [], _, _ => by simp
  | a :: t, hn, h => by
    rw [List.nodup_cons] at hn
    have ih := cnt_1 t hn.2 h
    by_cases e : a = z
    · subst e
      have hf : t.filter P' = t.filter P := List.filter_congr (fun i hi => h i (fun z => hn.1 (z ▸ hi)))
      rw [List.filter_cons, List.filter_cons, hf]
      simp only [List.mem_cons, true_or, true_and]
      cases P a <;> cases P' a <;> simp
    · rw [List.filter_cons, List.filter_cons, h a e]
      have e' : ∀ b : Bool, (z ∈ a :: t ∧ b = true) = (z ∈ t ∧ b = true) := fun b => by
        rw [List.mem_cons]
        exact propext ⟨fun q => ⟨q.1.resolve_left (fun r => e r.symm), q.2⟩, fun q => ⟨Or.inr q.1, q.2⟩⟩
      simp only [e']
      cases P a <;> simp <;> omega
theorem nbq_at {x : zSt} {p m : Nat} (hm : m < 60) : nbq x (60 * p + m) = (!(x 25 p m == -1) && !(x 25 p m == nI 1)) := by
  unfold nbq
  rw [show (60 * p + m) / 60 = p by omega, show (60 * p + m) % 60 = m by omega]
theorem nb_1 {x x' : zSt} {p m : Nat} (hp : p < 4) (hm : m < 60) (h : ∀ q i, ¬ (q = p ∧ i = m) → x' 25 q i = x 25 q i) : nb x' + (if nbq x (60 * p + m) = true then 1 else 0) = nb x + (if nbq x' (60 * p + m) = true then 1 else 0) := by
  have := cnt_1 (P := nbq x) (P' := nbq x') (z := 60 * p + m) (List.range 240) List.nodup_range (fun i hi => by
    unfold nbq
    rw [h (i / 60) (i % 60) (by omega)])
  have hz : (60 * p + m ∈ List.range 240) = True := eq_true (List.mem_range.mpr (by omega))
  simp only [hz, true_and] at this
  exact this
theorem iXb_lay {x : zSt} {p m f B : Nat} (h : iXb x B) (hp : p < 4) (hm : m < 60) (hf : f < 8) (hB : B < 1000000) (h24 : x 24 p m = nI 1) : iXb (sLay x p m f) (B + 2) ∧ (f = 1 → ¬ x 25 p m = -1 → ¬ x 25 p m = nI 1 → iXb (sLay x p m f) B) := by
  obtain ⟨S, st, a, b, c⟩ := h
  have h25 : ∀ q i, ¬ (q = p ∧ i = m) → sLay x p m f 25 q i = x 25 q i := fun q i e => by rw [sL_25, if_neg e]
  have hnb := nb_1 hp hm h25
  have main : ∀ B', S + 1 + nb (sLay x p m f) ≤ B' → iXb (sLay x p m f) B' := by
    intro B' hB'
    refine ⟨S + 1, fun q j => if q = p ∧ j = m then S + 1 else st q j, ?_, hB', fun q i hq hi => ?_⟩
    · rw [sL_0, if_pos ⟨rfl, rfl⟩, a, nI_add]
    · by_cases e : q = p ∧ i = m
      · obtain ⟨rfl, rfl⟩ := e
        right
        rw [sL_25, sL_28, if_pos ⟨rfl, rfl⟩, if_pos ⟨rfl, rfl⟩, a, nI_add]
        dsimp only
        rw [if_pos ⟨rfl, rfl⟩]
        refine ⟨nI_m1 (by omega), (congrFun (congrFun (sL_o (by omega)) q) i).trans h24, rfl, by omega, by omega, fun q' j' hq' hj' hk he => ?_⟩
        by_cases e' : q' = q ∧ j' = i
        · exact e'
        · rw [h25 q' j' e'] at hk
          rw [if_neg e'] at he
          rcases c q' j' hq' hj' with z | z
          · exact absurd z.1 hk
          · have := z.2.2.2.2.1
            omega
      · rw [h25 q i e, sL_26, if_neg e, sL_27, sL_28, if_neg e, show sLay x p m f 24 = x 24 from sL_o (by omega)]
        dsimp only
        rw [if_neg e]
        rcases c q i hq hi with z | ⟨z1, z2, z3, z4, z5, z6⟩
        · exact Or.inl z
        · refine Or.inr ⟨z1, z2, z3, z4, by omega, fun q' j' hq' hj' hk he => ?_⟩
          by_cases e' : q' = p ∧ j' = m
          · rw [if_pos e'] at he
            omega
          · rw [if_neg e'] at he
            rw [h25 q' j' e'] at hk
            exact z6 q' j' hq' hj' hk he
  refine ⟨main _ ?_, fun hf1 hk1 hk2 => main _ ?_⟩
  · revert hnb
    split <;> split <;> omega
  · have e25 : sLay x p m f 25 p m = nI 1 := by rw [sL_25, if_pos ⟨rfl, rfl⟩, hf1]
    rw [nbq_at hm, nbq_at hm, e25] at hnb
    have q1 : (x 25 p m == -1) = false := by simpa using hk1
    have q2 : (x 25 p m == nI 1) = false := by simpa using hk2
    rw [q1, q2] at hnb
    simp at hnb
    omega
theorem iXb_re {x : zSt} {p m B : Nat} {v : Int32} (h : iXb x B) (hp : p < 4) (hm : m < 60) (hB : B < 1000000) (hk : ¬ x 25 p m = -1) : iXb (sRe (su x 27 (u2 (x 27) p m v)) p m) (B + 1) := by
  obtain ⟨S, st, a, b, c⟩ := h
  have e0 : ∀ q i, sRe (su x 27 (u2 (x 27) p m v)) p m 0 q i = if q = 0 ∧ i = 9 then x 0 0 9 + nI 1 else x 0 q i := fun q i => rfl
  have e28 : ∀ q i, sRe (su x 27 (u2 (x 27) p m v)) p m 28 q i = if q = p ∧ i = m then x 0 0 9 + nI 1 else x 28 q i := fun q i => rfl
  have e27 : ∀ q i, sRe (su x 27 (u2 (x 27) p m v)) p m 27 q i = if q = p ∧ i = m then v else x 27 q i := fun q i => rfl
  have e25 : sRe (su x 27 (u2 (x 27) p m v)) p m 25 = x 25 := rfl
  have e24 : sRe (su x 27 (u2 (x 27) p m v)) p m 24 = x 24 := rfl
  have e26 : sRe (su x 27 (u2 (x 27) p m v)) p m 26 = x 26 := rfl
  refine ⟨S + 1, fun q j => if q = p ∧ j = m then S + 1 else st q j, ?_, by rw [nb_eq e25]; omega, fun q i hq hi => ?_⟩
  · rw [e0, if_pos ⟨rfl, rfl⟩, a, nI_add]
  · rw [e25, e24, e26, e27, e28]
    by_cases e : q = p ∧ i = m
    · obtain ⟨rfl, rfl⟩ := e
      right
      rw [if_pos ⟨rfl, rfl⟩, a, nI_add]
      dsimp only
      rw [if_pos ⟨rfl, rfl⟩]
      rcases c q i hq hi with z | ⟨z1, z2, z3, z4, z5, z6⟩
      · exact absurd z.1 hk
      refine ⟨hk, z2, rfl, by omega, by omega, fun q' j' hq' hj' hk' he => ?_⟩
      by_cases e' : q' = q ∧ j' = i
      · exact e'
      · rw [if_neg e'] at he
        rcases c q' j' hq' hj' with y | y
        · exact absurd y.1 hk'
        · have := y.2.2.2.2.1
          omega
    · rw [if_neg e, if_neg e]
      dsimp only
      rw [if_neg e]
      rcases c q i hq hi with z | ⟨z1, z2, z3, z4, z5, z6⟩
      · exact Or.inl z
      · refine Or.inr ⟨z1, z2, z3, z4, by omega, fun q' j' hq' hj' hk' he => ?_⟩
        by_cases e' : q' = p ∧ j' = m
        · rw [if_pos e'] at he
          omega
        · rw [if_neg e'] at he
          exact z6 q' j' hq' hj' hk' he
theorem filter_le {P P' : Nat → Bool} : ∀ (l : List Nat), (∀ i, P' i = true → P i = true) → (l.filter P').length ≤ (l.filter P).length
  | [], _ => Nat.le_refl _
  | a :: t, h => by
    have ih := filter_le t h
    rw [List.filter_cons, List.filter_cons]
    cases e' : P' a
    · cases P a <;> simp <;> omega
    · rw [h a e']
      simp
      exact ih
theorem iXb_vs {x : zSt} {p B : Nat} {S' : Nat → Bool} (h : iXb x B) : iXb (sVs x p S') B := by
  obtain ⟨S, st, a, b, c⟩ := h
  have hv : ∀ c q k, sVs x p S' c q k = if q = p ∧ S' k = true then (if c = 25 then -1 else if c = 26 ∨ c = 27 ∨ c = 28 then nI 0 else x c q k) else x c q k := fun _ _ _ => rfl
  have hn : nb (sVs x p S') ≤ nb x := filter_le _ (fun i hi => by
    unfold nbq at hi ⊢
    rw [hv] at hi
    by_cases e : i / 60 = p ∧ S' (i % 60) = true
    · rw [if_pos e, if_pos rfl] at hi
      simp at hi
    · rw [if_neg e] at hi
      exact hi)
  refine ⟨S, st, ?_, by omega, fun q i hq hi => ?_⟩
  · rw [hv]
    split
    · simp [a]
    · exact a
  · by_cases e : q = p ∧ S' i = true
    · left
      rw [hv, if_pos e, if_pos rfl, hv, if_pos e, hv, if_pos e, hv, if_pos e]
      exact ⟨rfl, rfl, rfl, rfl⟩
    · have q1 : ∀ c, sVs x p S' c q i = x c q i := fun c => by rw [hv, if_neg e]
      rw [q1, q1, q1, q1, q1]
      rcases c q i hq hi with z | ⟨z1, z2, z3, z4, z5, z6⟩
      · exact Or.inl z
      · refine Or.inr ⟨z1, z2, z3, z4, z5, fun q' j' hq' hj' hk' he => z6 q' j' hq' hj' (fun e0 => hk' ?_) he⟩
        rw [hv]
        split
        · rw [if_pos rfl]
        · exact e0
