/-! constructors: the loops of 31 and 40 over the store in the making (source: wip/p35/src/315.cz.txt, by gen/emit_cu.py) -/
section ZK
variable {L : Nat} {xs : Nat → Int32} {Q : zO → zM → Prop}
theorem zAe {s p : Nat} (hp : p < 4) (hs : s < 8) : zput (zput (zput (znew (mG finC L xs (21 + 78 * p + s) (fun a j => (a = 3 ∧ p ≤ j) ∨ a = 4 ∨ a = 5 ∨ (a = 19 + 78 * p ∧ s ≤ j) ∨ a = 20 + 78 * p ∨ a = 21 + 78 * p)) (7, 3) (fun j => defaultValue (zty 7 j))) (21 + 78 * p + s + 1) 0 (.int (-1))) (21 + 78 * p + s + 1) 2 (.int (nI 1))) (19 + 78 * p) s (.ref (21 + 78 * p + s + 1)) = mG finC L xs (21 + 78 * p + (s + 1)) (fun a j => (a = 3 ∧ p ≤ j) ∨ a = 4 ∨ a = 5 ∨ (a = 19 + 78 * p ∧ s + 1 ≤ j) ∨ a = 20 + 78 * p ∨ a = 21 + 78 * p) := by
  obtain ⟨hz, v0, v1, vr, hd⟩ := q_sh p hp s hs
  have e : 21 + 78 * p + s + 1 = 22 + 78 * p + s := by omega
  rw [mS_newo (by rw [e]; exact hz) (by decide)]
  rw [mS_put (by omega) (by omega) (by rw [e, hz]; decide) (by rw [e]; exact veq_eq v0)]
  rw [mS_put (by omega) (by omega) (by rw [e, hz]; decide) (by rw [e]; exact veq_eq v1)]
  rw [mS_put (by omega) (by omega) (by rw [(q_bx p hp).2.1]; exact hs) (by rw [e]; exact veq_eq vr)]
  exact mS_cg (fun a j h1 h2 hj hn => by
    have hq : a = 22 + 78 * p + s → (j = 0 ∨ j = 2) := fun q => by
      subst q
      rw [hz] at hj
      have := hd j hj
      rw [hn] at this
      exact this.resolve_left Bool.noConfusion
    omega)
theorem zBe {s p : Nat} (hp : p < 4) (hs : s < 6) : zput (znew (mG finC L xs (29 + 78 * p + s) (fun a j => (a = 3 ∧ p ≤ j) ∨ a = 4 ∨ a = 5 ∨ (a = 20 + 78 * p ∧ s ≤ j) ∨ a = 21 + 78 * p)) (6, 6) (fun j => defaultValue (zty 6 j))) (20 + 78 * p) s (.ref (29 + 78 * p + s + 1)) = mG finC L xs (29 + 78 * p + (s + 1)) (fun a j => (a = 3 ∧ p ≤ j) ∨ a = 4 ∨ a = 5 ∨ (a = 20 + 78 * p ∧ s + 1 ≤ j) ∨ a = 21 + 78 * p) := by
  obtain ⟨hz, vr, hd⟩ := q_ru p hp s hs
  have e : 29 + 78 * p + s + 1 = 30 + 78 * p + s := by omega
  rw [mS_newo (by rw [e]; exact hz) (by decide)]
  rw [mS_put (by omega) (by omega) (by rw [(q_bx p hp).2.2.1]; exact hs) (by rw [e]; exact veq_eq vr)]
  exact mS_cg (fun a j h1 h2 hj hn => by
    have hq : ¬ a = 30 + 78 * p + s := fun q => by
      subst q
      rw [hz] at hj
      have := hd j hj
      rw [hn] at this
      exact Bool.noConfusion this
    omega)
theorem zCe {s p : Nat} (hp : p < 4) (hs : s < 60) : zput (zput (znew (mG finC L xs (35 + 78 * p + s) (fun a j => (a = 3 ∧ p ≤ j) ∨ a = 4 ∨ a = 5 ∨ (a = 21 + 78 * p ∧ s ≤ j))) (1, 6) (fun j => defaultValue (zty 1 j))) (35 + 78 * p + s + 1) 1 (.int (-1))) (21 + 78 * p) s (.ref (35 + 78 * p + s + 1)) = mG finC L xs (35 + 78 * p + (s + 1)) (fun a j => (a = 3 ∧ p ≤ j) ∨ a = 4 ∨ a = 5 ∨ (a = 21 + 78 * p ∧ s + 1 ≤ j)) := by
  obtain ⟨hz, v0, vr, hd⟩ := q_co p hp s hs
  have e : 35 + 78 * p + s + 1 = 36 + 78 * p + s := by omega
  rw [mS_newo (by rw [e]; exact hz) (by decide)]
  rw [mS_put (by omega) (by omega) (by rw [e, hz]; decide) (by rw [e]; exact veq_eq v0)]
  rw [mS_put (by omega) (by omega) (by rw [(q_bx p hp).2.2.2.1]; exact hs) (by rw [e]; exact veq_eq vr)]
  exact mS_cg (fun a j h1 h2 hj hn => by
    have hq : a = 36 + 78 * p + s → (j = 1) := fun q => by
      subst q
      rw [hz] at hj
      have := hd j hj
      rw [hn] at this
      exact this.resolve_left Bool.noConfusion
    omega)
theorem zEe {s : Nat} (hs : s < 60) : zput (zput (znew (mG finC L xs (329 + s) (fun a j => (a = 4 ∧ s ≤ j) ∨ a = 5)) (2, 6) (fun j => defaultValue (zty 2 j))) (329 + s + 1) 4 (.int (-1))) 4 s (.ref (329 + s + 1)) = mG finC L xs (329 + (s + 1)) (fun a j => (a = 4 ∧ s + 1 ≤ j) ∨ a = 5) := by
  obtain ⟨hz, v0, vr, hd⟩ := q_le s hs
  have e : 329 + s + 1 = 330 + s := by omega
  rw [mS_newo (by rw [e]; exact hz) (by decide)]
  rw [mS_put (by omega) (by omega) (by rw [e, hz]; decide) (by rw [e]; exact veq_eq v0)]
  rw [mS_put (by omega) (by omega) (by rw [show zdk 4 = (32, 60) by decide +kernel]; exact hs) (by rw [e]; exact veq_eq vr)]
  exact mS_cg (fun a j h1 h2 hj hn => by
    have hq : a = 330 + s → (j = 4) := fun q => by
      subst q
      rw [hz] at hj
      have := hd j hj
      rw [hn] at this
      exact this.resolve_left Bool.noConfusion
    omega)
theorem zFe {s : Nat} (hs : s < 20) : zput (znew (mG finC L xs (389 + s) (fun a j => a = 5 ∧ s ≤ j)) (4, 3) (fun j => defaultValue (zty 4 j))) 5 s (.ref (389 + s + 1)) = mG finC L xs (389 + (s + 1)) (fun a j => a = 5 ∧ s + 1 ≤ j) := by
  obtain ⟨hz, vr, hd⟩ := q_qu s hs
  have e : 389 + s + 1 = 390 + s := by omega
  rw [mS_newo (by rw [e]; exact hz) (by decide)]
  rw [mS_put (by omega) (by omega) (by rw [show zdk 5 = (34, 20) by decide +kernel]; exact hs) (by rw [e]; exact veq_eq vr)]
  exact mS_cg (fun a j h1 h2 hj hn => by
    have hq : ¬ a = 390 + s := fun q => by
      subst q
      rw [hz] at hj
      have := hd j hj
      rw [hn] at this
      exact Bool.noConfusion this
    omega)
theorem c31s {p : Nat} (hp : p < 4) : zcl 31 [.ref (18 + 78 * p)] (mG finC L xs (18 + 78 * p) (fun a j => (a = 3 ∧ p ≤ j) ∨ a = 4 ∨ a = 5 ∨ a = 18 + 78 * p)) Q ↔ Q (.inl none) (mG finC L xs (95 + 78 * p) (fun a j => (a = 3 ∧ p ≤ j) ∨ a = 4 ∨ a = 5)) := by
  obtain ⟨z17, z18, z19, z20, r0, r1, r2, r4, r5, rb, hd⟩ := q_bx p hp
  have d17 : ∀ j, j < 6 → j < (zdk (18 + 78 * p)).2 := fun j h => by rw [z17]; exact h
  refine (wA0 (mS_ok (by omega) (by omega) z17)).trans ?_
  have e0 : (mG finC L xs (18 + 78 * p) (fun a j => (a = 3 ∧ p ≤ j) ∨ a = 4 ∨ a = 5 ∨ a = 18 + 78 * p)).1 = 18 + 78 * p := rfl
  have e1 : 18 + 78 * p + 1 = 19 + 78 * p := by omega
  have e2 : 18 + 78 * p + 2 = 20 + 78 * p := by omega
  have e3 : 18 + 78 * p + 3 = 21 + 78 * p := by omega
  have f2 : 19 + 78 * p + 1 = 20 + 78 * p := by omega
  have f3 : 20 + 78 * p + 1 = 21 + 78 * p := by omega
  rw [e0, e1, e2, e3]
  rw [mS_newa (c := 37) (n := 8) (v := .null) (by rw [e1]; exact z18) (by decide) rfl, e1]
  rw [mS_put (by omega) (by omega) (d17 0 (by omega)) (veq_eq r0), mS_put (by omega) (by omega) (d17 1 (by omega)) (veq_eq r1)]
  rw [mS_newa (c := 36) (n := 6) (v := .null) (by rw [f2]; exact z19) (by decide) rfl, f2]
  rw [mS_put (by omega) (by omega) (d17 2 (by omega)) (veq_eq r2)]
  rw [mS_newa (c := 31) (n := 60) (v := .null) (by rw [f3]; exact z20) (by decide) rfl, f3]
  rw [mS_put (by omega) (by omega) (d17 4 (by omega)) (veq_eq r4), mS_put (by omega) (by omega) (d17 5 (by omega)) (veq_eq r5)]
  rw [mS_cg (P' := fun a j => (a = 3 ∧ p ≤ j) ∨ a = 4 ∨ a = 5 ∨ (a = 19 + 78 * p ∧ 0 ≤ j) ∨ a = 20 + 78 * p ∨ a = 21 + 78 * p) (fun a j h1 h2 hj hn => by
    have hq : a = 18 + 78 * p → (j = 0 ∨ j = 1 ∨ j = 2 ∨ j = 4 ∨ j = 5) := fun q => by
      subst q
      rw [z17] at hj
      have := hd j hj
      rw [hn] at this
      exact this.resolve_left Bool.noConfusion
    omega)]
  refine (zfor (X := Unit) (n := 8) (f := fun _ u => u) (P := fun s _ => zwp zm_31 (45, [some (.ref (18 + 78 * p)), some (.int (nI s))], [], mG finC L xs (21 + 78 * p + s) (fun a j => (a = 3 ∧ p ≤ j) ∨ a = 4 ∨ a = 5 ∨ (a = 19 + 78 * p ∧ s ≤ j) ∨ a = 20 + 78 * p ∨ a = 21 + 78 * p), 3 + 1 * s, 74 + 3 * s) Q) (fun s _ hs => ?_) () 8 (Nat.le_refl 8)).trans ?_
  · refine (wAT (b := 19 + 78 * p) (mS_ok (by omega) (by omega) z17) ((mS_rd (by omega) (by omega) (d17 0 (by omega)) (by omega)).trans (veq_eq r0).symm) (mS_ok (by omega) (by omega) z18) hs (by omega) (by omega)).trans ?_
    rw [mS_1, zAe hp hs]
    exact Iff.rfl
  refine (wAX (b := 19 + 78 * p) (mS_ok (by omega) (by omega) z17) ((mS_rd (by omega) (by omega) (d17 0 (by omega)) (by omega)).trans (veq_eq r0).symm) (mS_ok (by omega) (by omega) z18)).trans ?_
  rw [show 21 + 78 * p + 8 = 29 + 78 * p by omega]
  rw [mS_cg (P' := fun a j => (a = 3 ∧ p ≤ j) ∨ a = 4 ∨ a = 5 ∨ (a = 20 + 78 * p ∧ 0 ≤ j) ∨ a = 21 + 78 * p) (fun a j h1 h2 hj hn => by
    have hq : a = 19 + 78 * p → j < 8 := fun q => by
      subst q
      rw [z18] at hj
      exact hj
    omega)]
  refine (zfor (X := Unit) (n := 6) (f := fun _ u => u) (P := fun s _ => zwp zm_31 (75, [some (.ref (18 + 78 * p)), some (.int (nI s))], [], mG finC L xs (29 + 78 * p + s) (fun a j => (a = 3 ∧ p ≤ j) ∨ a = 4 ∨ a = 5 ∨ (a = 20 + 78 * p ∧ s ≤ j) ∨ a = 21 + 78 * p), 11 + 1 * s, 98 + 6 * s) Q) (fun s _ hs => ?_) () 6 (Nat.le_refl 6)).trans ?_
  · refine (wBT (b := 20 + 78 * p) (mS_ok (by omega) (by omega) z17) ((mS_rd (by omega) (by omega) (d17 2 (by omega)) (by omega)).trans (veq_eq r2).symm) (mS_ok (by omega) (by omega) z19) hs (by omega) (by omega)).trans ?_
    rw [mS_1, zBe hp hs]
    exact Iff.rfl
  refine (wBX (b := 20 + 78 * p) (mS_ok (by omega) (by omega) z17) ((mS_rd (by omega) (by omega) (d17 2 (by omega)) (by omega)).trans (veq_eq r2).symm) (mS_ok (by omega) (by omega) z19)).trans ?_
  rw [show 29 + 78 * p + 6 = 35 + 78 * p by omega]
  rw [mS_cg (P' := fun a j => (a = 3 ∧ p ≤ j) ∨ a = 4 ∨ a = 5 ∨ (a = 21 + 78 * p ∧ 0 ≤ j)) (fun a j h1 h2 hj hn => by
    have hq : a = 20 + 78 * p → j < 6 := fun q => by
      subst q
      rw [z19] at hj
      exact hj
    omega)]
  refine (zfor (X := Unit) (n := 60) (f := fun _ u => u) (P := fun s _ => zwp zm_31 (105, [some (.ref (18 + 78 * p)), some (.int (nI s))], [], mG finC L xs (35 + 78 * p + s) (fun a j => (a = 3 ∧ p ≤ j) ∨ a = 4 ∨ a = 5 ∨ (a = 21 + 78 * p ∧ s ≤ j)), 17 + 1 * s, 134 + 6 * s) Q) (fun s _ hs => ?_) () 60 (Nat.le_refl 60)).trans ?_
  · refine (wCT (b := 21 + 78 * p) (mS_ok (by omega) (by omega) z17) ((mS_rd (by omega) (by omega) (d17 4 (by omega)) (by omega)).trans (veq_eq r4).symm) (mS_ok (by omega) (by omega) z20) hs (by omega) (by omega)).trans ?_
    rw [mS_1, zCe hp hs]
    exact Iff.rfl
  refine (wCX (b := 21 + 78 * p) (mS_ok (by omega) (by omega) z17) ((mS_rd (by omega) (by omega) (d17 4 (by omega)) (by omega)).trans (veq_eq r4).symm) (mS_ok (by omega) (by omega) z20) (by omega) (by omega)).trans ?_
  rw [show 35 + 78 * p + 60 = 95 + 78 * p by omega]
  rw [mS_cg (P' := fun a j => (a = 3 ∧ p ≤ j) ∨ a = 4 ∨ a = 5) (fun a j h1 h2 hj hn => by
    have hq : a = 21 + 78 * p → j < 60 := fun q => by
      subst q
      rw [z20] at hj
      exact hj
    omega)]
end ZK
