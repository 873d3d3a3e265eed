/-! constructors: the loops of 31 and 40 over the store in the making (source: wip/whole/src/276.cz.txt, by gen/emit_ct2.py) -/
section ZK
variable {L : Nat} {xs : Nat → Int32} {Q : zO → zM → Prop}
theorem zAe {s p : Nat} (hp : p < 4) (hs : s < 8) : zput (zput (zput (znew (mS L xs (20 + 78 * p + s) (fun a j => (a = 2 ∧ p ≤ j) ∨ a = 3 ∨ a = 4 ∨ (a = 18 + 78 * p ∧ s ≤ j) ∨ a = 19 + 78 * p ∨ a = 20 + 78 * p)) (7, 3) (fun j => defaultValue (zty 7 j))) (20 + 78 * p + s + 1) 0 (.int (-1))) (20 + 78 * p + s + 1) 2 (.int (nI 1))) (18 + 78 * p) s (.ref (20 + 78 * p + s + 1)) = mS L xs (20 + 78 * p + (s + 1)) (fun a j => (a = 2 ∧ p ≤ j) ∨ a = 3 ∨ a = 4 ∨ (a = 18 + 78 * p ∧ s + 1 ≤ j) ∨ a = 19 + 78 * p ∨ a = 20 + 78 * p) := by
  obtain ⟨hz, v0, v1, vr, hd⟩ := q_sh p hp s hs
  have e : 20 + 78 * p + s + 1 = 21 + 78 * p + s := by omega
  rw [mS_newo (by rw [e]; exact hz) (by decide)]
  rw [mS_put (by omega) (by omega) (by rw [e, hz]; decide) (by rw [e]; exact veq_eq v0)]
  rw [mS_put (by omega) (by omega) (by rw [e, hz]; decide) (by rw [e]; exact veq_eq v1)]
  rw [mS_put (by omega) (by omega) (by rw [(q_bx p hp).2.1]; exact hs) (by rw [e]; exact veq_eq vr)]
  exact mS_cg (fun a j h1 h2 hj hn => by
    have hq : a = 21 + 78 * p + s → (j = 0 ∨ j = 2) := fun q => by
      subst q
      rw [hz] at hj
      have := hd j hj
      rw [hn] at this
      exact this.resolve_left Bool.noConfusion
    omega)
theorem zBe {s p : Nat} (hp : p < 4) (hs : s < 6) : zput (znew (mS L xs (28 + 78 * p + s) (fun a j => (a = 2 ∧ p ≤ j) ∨ a = 3 ∨ a = 4 ∨ (a = 19 + 78 * p ∧ s ≤ j) ∨ a = 20 + 78 * p)) (6, 6) (fun j => defaultValue (zty 6 j))) (19 + 78 * p) s (.ref (28 + 78 * p + s + 1)) = mS L xs (28 + 78 * p + (s + 1)) (fun a j => (a = 2 ∧ p ≤ j) ∨ a = 3 ∨ a = 4 ∨ (a = 19 + 78 * p ∧ s + 1 ≤ j) ∨ a = 20 + 78 * p) := by
  obtain ⟨hz, vr, hd⟩ := q_ru p hp s hs
  have e : 28 + 78 * p + s + 1 = 29 + 78 * p + s := by omega
  rw [mS_newo (by rw [e]; exact hz) (by decide)]
  rw [mS_put (by omega) (by omega) (by rw [(q_bx p hp).2.2.1]; exact hs) (by rw [e]; exact veq_eq vr)]
  exact mS_cg (fun a j h1 h2 hj hn => by
    have hq : ¬ a = 29 + 78 * p + s := fun q => by
      subst q
      rw [hz] at hj
      have := hd j hj
      rw [hn] at this
      exact Bool.noConfusion this
    omega)
theorem zCe {s p : Nat} (hp : p < 4) (hs : s < 60) : zput (zput (znew (mS L xs (34 + 78 * p + s) (fun a j => (a = 2 ∧ p ≤ j) ∨ a = 3 ∨ a = 4 ∨ (a = 20 + 78 * p ∧ s ≤ j))) (1, 6) (fun j => defaultValue (zty 1 j))) (34 + 78 * p + s + 1) 1 (.int (-1))) (20 + 78 * p) s (.ref (34 + 78 * p + s + 1)) = mS L xs (34 + 78 * p + (s + 1)) (fun a j => (a = 2 ∧ p ≤ j) ∨ a = 3 ∨ a = 4 ∨ (a = 20 + 78 * p ∧ s + 1 ≤ j)) := by
  obtain ⟨hz, v0, vr, hd⟩ := q_co p hp s hs
  have e : 34 + 78 * p + s + 1 = 35 + 78 * p + s := by omega
  rw [mS_newo (by rw [e]; exact hz) (by decide)]
  rw [mS_put (by omega) (by omega) (by rw [e, hz]; decide) (by rw [e]; exact veq_eq v0)]
  rw [mS_put (by omega) (by omega) (by rw [(q_bx p hp).2.2.2.1]; exact hs) (by rw [e]; exact veq_eq vr)]
  exact mS_cg (fun a j h1 h2 hj hn => by
    have hq : a = 35 + 78 * p + s → (j = 1) := fun q => by
      subst q
      rw [hz] at hj
      have := hd j hj
      rw [hn] at this
      exact this.resolve_left Bool.noConfusion
    omega)
theorem zEe {s : Nat} (hs : s < 60) : zput (zput (znew (mS L xs (328 + s) (fun a j => (a = 3 ∧ s ≤ j) ∨ a = 4)) (2, 6) (fun j => defaultValue (zty 2 j))) (328 + s + 1) 4 (.int (-1))) 3 s (.ref (328 + s + 1)) = mS L xs (328 + (s + 1)) (fun a j => (a = 3 ∧ s + 1 ≤ j) ∨ a = 4) := by
  obtain ⟨hz, v0, vr, hd⟩ := q_le s hs
  have e : 328 + s + 1 = 329 + s := by omega
  rw [mS_newo (by rw [e]; exact hz) (by decide)]
  rw [mS_put (by omega) (by omega) (by rw [e, hz]; decide) (by rw [e]; exact veq_eq v0)]
  rw [mS_put (by omega) (by omega) (by rw [show zdk 3 = (32, 60) by decide +kernel]; exact hs) (by rw [e]; exact veq_eq vr)]
  exact mS_cg (fun a j h1 h2 hj hn => by
    have hq : a = 329 + s → (j = 4) := fun q => by
      subst q
      rw [hz] at hj
      have := hd j hj
      rw [hn] at this
      exact this.resolve_left Bool.noConfusion
    omega)
theorem zFe {s : Nat} (hs : s < 20) : zput (znew (mS L xs (388 + s) (fun a j => a = 4 ∧ s ≤ j)) (4, 3) (fun j => defaultValue (zty 4 j))) 4 s (.ref (388 + s + 1)) = mS L xs (388 + (s + 1)) (fun a j => a = 4 ∧ s + 1 ≤ j) := by
  obtain ⟨hz, vr, hd⟩ := q_qu s hs
  have e : 388 + s + 1 = 389 + s := by omega
  rw [mS_newo (by rw [e]; exact hz) (by decide)]
  rw [mS_put (by omega) (by omega) (by rw [show zdk 4 = (34, 20) by decide +kernel]; exact hs) (by rw [e]; exact veq_eq vr)]
  exact mS_cg (fun a j h1 h2 hj hn => by
    have hq : ¬ a = 389 + s := fun q => by
      subst q
      rw [hz] at hj
      have := hd j hj
      rw [hn] at this
      exact Bool.noConfusion this
    omega)
theorem c31s {p : Nat} (hp : p < 4) : zcl 31 [.ref (17 + 78 * p)] (mS L xs (17 + 78 * p) (fun a j => (a = 2 ∧ p ≤ j) ∨ a = 3 ∨ a = 4 ∨ a = 17 + 78 * p)) Q ↔ Q (.inl none) (mS L xs (94 + 78 * p) (fun a j => (a = 2 ∧ p ≤ j) ∨ a = 3 ∨ a = 4)) := by
  obtain ⟨z17, z18, z19, z20, r0, r1, r2, r4, r5, rb, hd⟩ := q_bx p hp
  have d17 : ∀ j, j < 6 → j < (zdk (17 + 78 * p)).2 := fun j h => by rw [z17]; exact h
  refine (wA0 (mS_ok (by omega) (by omega) z17)).trans ?_
  have e0 : (mS L xs (17 + 78 * p) (fun a j => (a = 2 ∧ p ≤ j) ∨ a = 3 ∨ a = 4 ∨ a = 17 + 78 * p)).1 = 17 + 78 * p := rfl
  have e1 : 17 + 78 * p + 1 = 18 + 78 * p := by omega
  have e2 : 17 + 78 * p + 2 = 19 + 78 * p := by omega
  have e3 : 17 + 78 * p + 3 = 20 + 78 * p := by omega
  have f2 : 18 + 78 * p + 1 = 19 + 78 * p := by omega
  have f3 : 19 + 78 * p + 1 = 20 + 78 * p := by omega
  rw [e0, e1, e2, e3]
  rw [mS_newa (c := 37) (n := 8) (v := .null) (by rw [e1]; exact z18) (by decide) rfl, e1]
  rw [mS_put (by omega) (by omega) (d17 0 (by omega)) (veq_eq r0), mS_put (by omega) (by omega) (d17 1 (by omega)) (veq_eq r1)]
  rw [mS_newa (c := 36) (n := 6) (v := .null) (by rw [f2]; exact z19) (by decide) rfl, f2]
  rw [mS_put (by omega) (by omega) (d17 2 (by omega)) (veq_eq r2)]
  rw [mS_newa (c := 31) (n := 60) (v := .null) (by rw [f3]; exact z20) (by decide) rfl, f3]
  rw [mS_put (by omega) (by omega) (d17 4 (by omega)) (veq_eq r4), mS_put (by omega) (by omega) (d17 5 (by omega)) (veq_eq r5)]
  rw [mS_cg (P' := fun a j => (a = 2 ∧ p ≤ j) ∨ a = 3 ∨ a = 4 ∨ (a = 18 + 78 * p ∧ 0 ≤ j) ∨ a = 19 + 78 * p ∨ a = 20 + 78 * p) (fun a j h1 h2 hj hn => by
    have hq : a = 17 + 78 * p → (j = 0 ∨ j = 1 ∨ j = 2 ∨ j = 4 ∨ j = 5) := fun q => by
      subst q
      rw [z17] at hj
      have := hd j hj
      rw [hn] at this
      exact this.resolve_left Bool.noConfusion
    omega)]
  refine (zfor (X := Unit) (n := 8) (f := fun _ u => u) (P := fun s _ => zwp zm_31 (45, [some (.ref (17 + 78 * p)), some (.int (nI s))], [], mS L xs (20 + 78 * p + s) (fun a j => (a = 2 ∧ p ≤ j) ∨ a = 3 ∨ a = 4 ∨ (a = 18 + 78 * p ∧ s ≤ j) ∨ a = 19 + 78 * p ∨ a = 20 + 78 * p), 3 + 1 * s, 74 + 3 * s) Q) (fun s _ hs => ?_) () 8 (Nat.le_refl 8)).trans ?_
  · refine (wAT (b := 18 + 78 * p) (mS_ok (by omega) (by omega) z17) ((mS_rd (by omega) (by omega) (d17 0 (by omega)) (by omega)).trans (veq_eq r0).symm) (mS_ok (by omega) (by omega) z18) hs (by omega) (by omega)).trans ?_
    rw [mS_1, zAe hp hs]
    exact Iff.rfl
  refine (wAX (b := 18 + 78 * p) (mS_ok (by omega) (by omega) z17) ((mS_rd (by omega) (by omega) (d17 0 (by omega)) (by omega)).trans (veq_eq r0).symm) (mS_ok (by omega) (by omega) z18)).trans ?_
  rw [show 20 + 78 * p + 8 = 28 + 78 * p by omega]
  rw [mS_cg (P' := fun a j => (a = 2 ∧ p ≤ j) ∨ a = 3 ∨ a = 4 ∨ (a = 19 + 78 * p ∧ 0 ≤ j) ∨ a = 20 + 78 * p) (fun a j h1 h2 hj hn => by
    have hq : a = 18 + 78 * p → j < 8 := fun q => by
      subst q
      rw [z18] at hj
      exact hj
    omega)]
  refine (zfor (X := Unit) (n := 6) (f := fun _ u => u) (P := fun s _ => zwp zm_31 (75, [some (.ref (17 + 78 * p)), some (.int (nI s))], [], mS L xs (28 + 78 * p + s) (fun a j => (a = 2 ∧ p ≤ j) ∨ a = 3 ∨ a = 4 ∨ (a = 19 + 78 * p ∧ s ≤ j) ∨ a = 20 + 78 * p), 11 + 1 * s, 98 + 6 * s) Q) (fun s _ hs => ?_) () 6 (Nat.le_refl 6)).trans ?_
  · refine (wBT (b := 19 + 78 * p) (mS_ok (by omega) (by omega) z17) ((mS_rd (by omega) (by omega) (d17 2 (by omega)) (by omega)).trans (veq_eq r2).symm) (mS_ok (by omega) (by omega) z19) hs (by omega) (by omega)).trans ?_
    rw [mS_1, zBe hp hs]
    exact Iff.rfl
  refine (wBX (b := 19 + 78 * p) (mS_ok (by omega) (by omega) z17) ((mS_rd (by omega) (by omega) (d17 2 (by omega)) (by omega)).trans (veq_eq r2).symm) (mS_ok (by omega) (by omega) z19)).trans ?_
  rw [show 28 + 78 * p + 6 = 34 + 78 * p by omega]
  rw [mS_cg (P' := fun a j => (a = 2 ∧ p ≤ j) ∨ a = 3 ∨ a = 4 ∨ (a = 20 + 78 * p ∧ 0 ≤ j)) (fun a j h1 h2 hj hn => by
    have hq : a = 19 + 78 * p → j < 6 := fun q => by
      subst q
      rw [z19] at hj
      exact hj
    omega)]
  refine (zfor (X := Unit) (n := 60) (f := fun _ u => u) (P := fun s _ => zwp zm_31 (105, [some (.ref (17 + 78 * p)), some (.int (nI s))], [], mS L xs (34 + 78 * p + s) (fun a j => (a = 2 ∧ p ≤ j) ∨ a = 3 ∨ a = 4 ∨ (a = 20 + 78 * p ∧ s ≤ j)), 17 + 1 * s, 134 + 6 * s) Q) (fun s _ hs => ?_) () 60 (Nat.le_refl 60)).trans ?_
  · refine (wCT (b := 20 + 78 * p) (mS_ok (by omega) (by omega) z17) ((mS_rd (by omega) (by omega) (d17 4 (by omega)) (by omega)).trans (veq_eq r4).symm) (mS_ok (by omega) (by omega) z20) hs (by omega) (by omega)).trans ?_
    rw [mS_1, zCe hp hs]
    exact Iff.rfl
  refine (wCX (b := 20 + 78 * p) (mS_ok (by omega) (by omega) z17) ((mS_rd (by omega) (by omega) (d17 4 (by omega)) (by omega)).trans (veq_eq r4).symm) (mS_ok (by omega) (by omega) z20) (by omega) (by omega)).trans ?_
  rw [show 34 + 78 * p + 60 = 94 + 78 * p by omega]
  rw [mS_cg (P' := fun a j => (a = 2 ∧ p ≤ j) ∨ a = 3 ∨ a = 4) (fun a j h1 h2 hj hn => by
    have hq : a = 20 + 78 * p → j < 60 := fun q => by
      subst q
      rw [z20] at hj
      exact hj
    omega)]
end ZK
