/-! constructors: 40, the whole store of the class (source: wip/p35/src/316.da.txt, by gen/emit_cu.py) -/
section ZK
variable {L : Nat} {xs : Nat → Int32} {Q : zO → zM → Prop} {P : Nat → Nat → Prop} {k : Nat}
theorem q_1 : ∀ j < 15, isN finC 2 j = true ∨ j = 0 ∨ j = 1 ∨ j = 3 ∨ j = 5 ∨ j = 7 ∨ j = 8 ∨ j = 10 ∨ j = 11 ∨ j = 12 ∨ j = 13 ∨ j = 14 := by decide +kernel
theorem q_1' {a j : Nat} (hj : j < (zdk a).2) (hn : isN finC a j = false) : a = 2 → (j < 15 ∧ (j = 0 ∨ j = 1 ∨ j = 3 ∨ j = 5 ∨ j = 7 ∨ j = 8 ∨ j = 10 ∨ j = 11 ∨ j = 12 ∨ j = 13 ∨ j = 14)) := fun q => by
  subst q
  have hj : j < 15 := hj
  have := q_1 j hj
  rw [hn] at this
  exact ⟨hj, this.resolve_left Bool.noConfusion⟩
theorem q_6 : ∀ j < 6, isN finC 7 j = true ∨ j = 4 := by decide +kernel
theorem q_6' {a j : Nat} (hj : j < (zdk a).2) (hn : isN finC a j = false) : a = 7 → (j < 6 ∧ (j = 4)) := fun q => by
  subst q
  have hj : j < 6 := hj
  have := q_6 j hj
  rw [hn] at this
  exact ⟨hj, this.resolve_left Bool.noConfusion⟩
theorem q_7 : ∀ j < 5, isN finC 8 j = true ∨ j = 3 := by decide +kernel
theorem q_7' {a j : Nat} (hj : j < (zdk a).2) (hn : isN finC a j = false) : a = 8 → (j < 5 ∧ (j = 3)) := fun q => by
  subst q
  have hj : j < 5 := hj
  have := q_7 j hj
  rw [hn] at this
  exact ⟨hj, this.resolve_left Bool.noConfusion⟩
theorem q_9 : ∀ j < 3, isN finC 10 j = true ∨ j = 0 := by decide +kernel
theorem q_9' {a j : Nat} (hj : j < (zdk a).2) (hn : isN finC a j = false) : a = 10 → (j < 3 ∧ (j = 0)) := fun q => by
  subst q
  have hj : j < 3 := hj
  have := q_9 j hj
  rw [hn] at this
  exact ⟨hj, this.resolve_left Bool.noConfusion⟩
theorem q_11 : ∀ j < 6, isN finC 12 j = true ∨ j = 0 ∨ j = 1 ∨ j = 2 ∨ j = 3 := by decide +kernel
theorem q_11' {a j : Nat} (hj : j < (zdk a).2) (hn : isN finC a j = false) : a = 12 → (j < 6 ∧ (j = 0 ∨ j = 1 ∨ j = 2 ∨ j = 3)) := fun q => by
  subst q
  have hj : j < 6 := hj
  have := q_11 j hj
  rw [hn] at this
  exact ⟨hj, this.resolve_left Bool.noConfusion⟩
theorem c40a : zcl 40 [.ref 2] (mG finC L xs 2 (fun a j => a = 2)) Q ↔ zwp zm_40 (104, [some (.ref 2), some (.int (nI 0))], [], mG finC L xs 17 (fun a j => (a = 3 ∧ 0 ≤ j) ∨ a = 4 ∨ a = 5), 15, 384) Q := by
  rw [mS_cg (P := fun a j => a = 2) (P' := (fun a j => (a = 2 ∧ 0 ≤ j))) (fun a j h1 h2 hj hn => by omega)]
  have n2 : znew (mG finC L xs 2 (fun a j => (a = 2 ∧ 0 ≤ j))) (30, 4) (fun _ => Value.null) = mG finC L xs 3 (fun a j => (a = 2 ∧ 0 ≤ j) ∨ a = 3) := mS_newa' (by decide +kernel) (by decide) rfl (fun a j h1 h2 hj hn => by skip; omega)
  have u0 : zput (mG finC L xs 3 (fun a j => (a = 2 ∧ 0 ≤ j) ∨ a = 3)) 2 0 (.ref 3) = mG finC L xs 3 (fun a j => (a = 2 ∧ 1 ≤ j) ∨ a = 3) := mS_put' (by decide) (by decide) (by decide +kernel) (by decide +kernel) (fun a j h1 h2 hj hn => by have y0 := q_1' hj hn; omega)
  have n3 : znew (mG finC L xs 3 (fun a j => (a = 2 ∧ 1 ≤ j) ∨ a = 3)) (32, 60) (fun _ => Value.null) = mG finC L xs 4 (fun a j => (a = 2 ∧ 1 ≤ j) ∨ a = 3 ∨ a = 4) := mS_newa' (by decide +kernel) (by decide) rfl (fun a j h1 h2 hj hn => by skip; omega)
  have u1 : zput (mG finC L xs 4 (fun a j => (a = 2 ∧ 1 ≤ j) ∨ a = 3 ∨ a = 4)) 2 1 (.ref 4) = mG finC L xs 4 (fun a j => (a = 2 ∧ 3 ≤ j) ∨ a = 3 ∨ a = 4) := mS_put' (by decide) (by decide) (by decide +kernel) (by decide +kernel) (fun a j h1 h2 hj hn => by have y0 := q_1' hj hn; omega)
  have n4 : znew (mG finC L xs 4 (fun a j => (a = 2 ∧ 3 ≤ j) ∨ a = 3 ∨ a = 4)) (34, 20) (fun _ => Value.null) = mG finC L xs 5 (fun a j => (a = 2 ∧ 3 ≤ j) ∨ a = 3 ∨ a = 4 ∨ a = 5) := mS_newa' (by decide +kernel) (by decide) rfl (fun a j h1 h2 hj hn => by skip; omega)
  have u3 : zput (mG finC L xs 5 (fun a j => (a = 2 ∧ 3 ≤ j) ∨ a = 3 ∨ a = 4 ∨ a = 5)) 2 3 (.ref 5) = mG finC L xs 5 (fun a j => (a = 2 ∧ 5 ≤ j) ∨ a = 3 ∨ a = 4 ∨ a = 5) := mS_put' (by decide) (by decide) (by decide +kernel) (by decide +kernel) (fun a j h1 h2 hj hn => by have y0 := q_1' hj hn; omega)
  have n5 : znew (mG finC L xs 5 (fun a j => (a = 2 ∧ 5 ≤ j) ∨ a = 3 ∨ a = 4 ∨ a = 5)) (20, 10) (fun _ => zdef 20) = mG finC L xs 6 (fun a j => (a = 2 ∧ 5 ≤ j) ∨ a = 3 ∨ a = 4 ∨ a = 5) := mS_nwN (by decide +kernel) (by decide) rfl (by decide +kernel)
  have u5 : zput (mG finC L xs 6 (fun a j => (a = 2 ∧ 5 ≤ j) ∨ a = 3 ∨ a = 4 ∨ a = 5)) 2 5 (.ref 6) = mG finC L xs 6 (fun a j => (a = 2 ∧ 7 ≤ j) ∨ a = 3 ∨ a = 4 ∨ a = 5) := mS_put' (by decide) (by decide) (by decide +kernel) (by decide +kernel) (fun a j h1 h2 hj hn => by have y0 := q_1' hj hn; omega)
  have u7 : zput (mG finC L xs 6 (fun a j => (a = 2 ∧ 7 ≤ j) ∨ a = 3 ∨ a = 4 ∨ a = 5)) 2 7 (.int (nI 20)) = mG finC L xs 6 (fun a j => (a = 2 ∧ 8 ≤ j) ∨ a = 3 ∨ a = 4 ∨ a = 5) := mS_put' (by decide) (by decide) (by decide +kernel) (by decide +kernel) (fun a j h1 h2 hj hn => by have y0 := q_1' hj hn; omega)
  have u8 : zput (mG finC L xs 6 (fun a j => (a = 2 ∧ 8 ≤ j) ∨ a = 3 ∨ a = 4 ∨ a = 5)) 2 8 (.int (nI 10)) = mG finC L xs 6 (fun a j => (a = 2 ∧ 10 ≤ j) ∨ a = 3 ∨ a = 4 ∨ a = 5) := mS_put' (by decide) (by decide) (by decide +kernel) (by decide +kernel) (fun a j h1 h2 hj hn => by have y0 := q_1' hj hn; omega)
  have n6 : znew (mG finC L xs 6 (fun a j => (a = 2 ∧ 10 ≤ j) ∨ a = 3 ∨ a = 4 ∨ a = 5)) (2, 6) (fun j => defaultValue (zty 2 j)) = mG finC L xs 7 (fun a j => (a = 2 ∧ 10 ≤ j) ∨ a = 3 ∨ a = 4 ∨ a = 5 ∨ a = 7) := mS_newo' (by decide +kernel) (by decide) (fun a j h1 h2 hj hn => by have y0 := q_6' hj hn; omega)
  have h1 : ∀ Q : zO → zM → Prop, (zcl 1 [.ref 7] (mG finC L xs 7 (fun a j => (a = 2 ∧ 10 ≤ j) ∨ a = 3 ∨ a = 4 ∨ a = 5 ∨ a = 7)) Q ↔ Q (.inl none) (mG finC L xs 7 (fun a j => (a = 2 ∧ 10 ≤ j) ∨ a = 3 ∨ a = 4 ∨ a = 5))) := fun Q => (k1 (mS_ok (by decide) (by decide) (by decide +kernel))).trans (Iff.of_eq (congrArg (Q (.inl none)) (mS_put' (by decide) (by decide) (by decide +kernel) (by decide +kernel) (fun a j h1 h2 hj hn => by have y0 := q_6' hj hn; omega))))
  have u10 : zput (mG finC L xs 7 (fun a j => (a = 2 ∧ 10 ≤ j) ∨ a = 3 ∨ a = 4 ∨ a = 5)) 2 10 (.ref 7) = mG finC L xs 7 (fun a j => (a = 2 ∧ 11 ≤ j) ∨ a = 3 ∨ a = 4 ∨ a = 5) := mS_put' (by decide) (by decide) (by decide +kernel) (by decide +kernel) (fun a j h1 h2 hj hn => by have y0 := q_1' hj hn; omega)
  have n7 : znew (mG finC L xs 7 (fun a j => (a = 2 ∧ 11 ≤ j) ∨ a = 3 ∨ a = 4 ∨ a = 5)) (3, 5) (fun j => defaultValue (zty 3 j)) = mG finC L xs 8 (fun a j => (a = 2 ∧ 11 ≤ j) ∨ a = 3 ∨ a = 4 ∨ a = 5 ∨ a = 8) := mS_newo' (by decide +kernel) (by decide) (fun a j h1 h2 hj hn => by have y0 := q_7' hj hn; omega)
  have h14 : ∀ Q : zO → zM → Prop, (zcl 14 [.ref 8] (mG finC L xs 8 (fun a j => (a = 2 ∧ 11 ≤ j) ∨ a = 3 ∨ a = 4 ∨ a = 5 ∨ a = 8)) Q ↔ Q (.inl none) (mG finC L xs 9 (fun a j => (a = 2 ∧ 11 ≤ j) ∨ a = 3 ∨ a = 4 ∨ a = 5))) := fun Q => (k14 (mS_ok (by decide) (by decide) (by decide +kernel))).trans (Iff.of_eq (congrArg (Q (.inl none)) ((congrArg (fun M => zput M 8 3 (.ref 9)) (mS_nwN (k := 8) (c := 20) (n := 6) (by decide +kernel) (by decide) rfl (by decide +kernel))).trans (mS_put' (by decide) (by decide) (by decide +kernel) (by decide +kernel) (fun a j h1 h2 hj hn => by have y0 := q_7' hj hn; omega)))))
  have u11 : zput (mG finC L xs 9 (fun a j => (a = 2 ∧ 11 ≤ j) ∨ a = 3 ∨ a = 4 ∨ a = 5)) 2 11 (.ref 8) = mG finC L xs 9 (fun a j => (a = 2 ∧ 12 ≤ j) ∨ a = 3 ∨ a = 4 ∨ a = 5) := mS_put' (by decide) (by decide) (by decide +kernel) (by decide +kernel) (fun a j h1 h2 hj hn => by have y0 := q_1' hj hn; omega)
  have n9 : znew (mG finC L xs 9 (fun a j => (a = 2 ∧ 12 ≤ j) ∨ a = 3 ∨ a = 4 ∨ a = 5)) (5, 3) (fun j => defaultValue (zty 5 j)) = mG finC L xs 10 (fun a j => (a = 2 ∧ 12 ≤ j) ∨ a = 3 ∨ a = 4 ∨ a = 5 ∨ a = 10) := mS_newo' (by decide +kernel) (by decide) (fun a j h1 h2 hj hn => by have y0 := q_9' hj hn; omega)
  have h18 : ∀ Q : zO → zM → Prop, (zcl 18 [.ref 10] (mG finC L xs 10 (fun a j => (a = 2 ∧ 12 ≤ j) ∨ a = 3 ∨ a = 4 ∨ a = 5 ∨ a = 10)) Q ↔ Q (.inl none) (mG finC L xs 11 (fun a j => (a = 2 ∧ 12 ≤ j) ∨ a = 3 ∨ a = 4 ∨ a = 5))) := fun Q => (k18 (mS_ok (by decide) (by decide) (by decide +kernel))).trans (Iff.of_eq (congrArg (Q (.inl none)) ((congrArg (fun M => zput M 10 0 (.ref 11)) (mS_nwN (k := 10) (c := 20) (n := 4) (by decide +kernel) (by decide) rfl (by decide +kernel))).trans (mS_put' (by decide) (by decide) (by decide +kernel) (by decide +kernel) (fun a j h1 h2 hj hn => by have y0 := q_9' hj hn; omega)))))
  have u12 : zput (mG finC L xs 11 (fun a j => (a = 2 ∧ 12 ≤ j) ∨ a = 3 ∨ a = 4 ∨ a = 5)) 2 12 (.ref 10) = mG finC L xs 11 (fun a j => (a = 2 ∧ 13 ≤ j) ∨ a = 3 ∨ a = 4 ∨ a = 5) := mS_put' (by decide) (by decide) (by decide +kernel) (by decide +kernel) (fun a j h1 h2 hj hn => by have y0 := q_1' hj hn; omega)
  have n11 : znew (mG finC L xs 11 (fun a j => (a = 2 ∧ 13 ≤ j) ∨ a = 3 ∨ a = 4 ∨ a = 5)) (8, 6) (fun j => defaultValue (zty 8 j)) = mG finC L xs 12 (fun a j => (a = 2 ∧ 13 ≤ j) ∨ a = 3 ∨ a = 4 ∨ a = 5 ∨ a = 12) := mS_newo' (by decide +kernel) (by decide) (fun a j h1 h2 hj hn => by have y0 := q_11' hj hn; omega)
  have m0 : zput (znew (mG finC L xs 12 (fun a j => (a = 2 ∧ 13 ≤ j) ∨ a = 3 ∨ a = 4 ∨ a = 5 ∨ a = 12)) (20, 60) (fun _ => zdef 20)) 12 0 (.ref 13) = mG finC L xs 13 (fun a j => (a = 2 ∧ 13 ≤ j) ∨ a = 3 ∨ a = 4 ∨ a = 5 ∨ (a = 12 ∧ 1 ≤ j)) := (congrArg (fun M => zput M 12 0 (.ref 13)) (mS_nwN (by decide +kernel) (by decide) rfl (by decide +kernel))).trans (mS_put' (by decide) (by decide) (by decide +kernel) (by decide +kernel) (fun a j h1 h2 hj hn => by have y0 := q_11' hj hn; omega))
  have m1 : zput (znew (mG finC L xs 13 (fun a j => (a = 2 ∧ 13 ≤ j) ∨ a = 3 ∨ a = 4 ∨ a = 5 ∨ (a = 12 ∧ 1 ≤ j))) (20, 60) (fun _ => zdef 20)) 12 1 (.ref 14) = mG finC L xs 14 (fun a j => (a = 2 ∧ 13 ≤ j) ∨ a = 3 ∨ a = 4 ∨ a = 5 ∨ (a = 12 ∧ 2 ≤ j)) := (congrArg (fun M => zput M 12 1 (.ref 14)) (mS_nwN (by decide +kernel) (by decide) rfl (by decide +kernel))).trans (mS_put' (by decide) (by decide) (by decide +kernel) (by decide +kernel) (fun a j h1 h2 hj hn => by have y0 := q_11' hj hn; omega))
  have m2 : zput (znew (mG finC L xs 14 (fun a j => (a = 2 ∧ 13 ≤ j) ∨ a = 3 ∨ a = 4 ∨ a = 5 ∨ (a = 12 ∧ 2 ≤ j))) (20, 60) (fun _ => zdef 20)) 12 2 (.ref 15) = mG finC L xs 15 (fun a j => (a = 2 ∧ 13 ≤ j) ∨ a = 3 ∨ a = 4 ∨ a = 5 ∨ (a = 12 ∧ 3 ≤ j)) := (congrArg (fun M => zput M 12 2 (.ref 15)) (mS_nwN (by decide +kernel) (by decide) rfl (by decide +kernel))).trans (mS_put' (by decide) (by decide) (by decide +kernel) (by decide +kernel) (fun a j h1 h2 hj hn => by have y0 := q_11' hj hn; omega))
  have m3 : zput (znew (mG finC L xs 15 (fun a j => (a = 2 ∧ 13 ≤ j) ∨ a = 3 ∨ a = 4 ∨ a = 5 ∨ (a = 12 ∧ 3 ≤ j))) (20, 60) (fun _ => zdef 20)) 12 3 (.ref 16) = mG finC L xs 16 (fun a j => (a = 2 ∧ 13 ≤ j) ∨ a = 3 ∨ a = 4 ∨ a = 5) := (congrArg (fun M => zput M 12 3 (.ref 16)) (mS_nwN (by decide +kernel) (by decide) rfl (by decide +kernel))).trans (mS_put' (by decide) (by decide) (by decide +kernel) (by decide +kernel) (fun a j h1 h2 hj hn => by have y0 := q_11' hj hn; omega))
  have h24 : ∀ Q : zO → zM → Prop, (zcl 24 [.ref 12] (mG finC L xs 12 (fun a j => (a = 2 ∧ 13 ≤ j) ∨ a = 3 ∨ a = 4 ∨ a = 5 ∨ a = 12)) Q ↔ Q (.inl none) (mG finC L xs 16 (fun a j => (a = 2 ∧ 13 ≤ j) ∨ a = 3 ∨ a = 4 ∨ a = 5))) := fun Q => (k24 (mS_ok (by decide) (by decide) (by decide +kernel))).trans (Iff.of_eq (congrArg (Q (.inl none)) (by rw [mS_1, m0, m1, m2, m3])))
  have u13 : zput (mG finC L xs 16 (fun a j => (a = 2 ∧ 13 ≤ j) ∨ a = 3 ∨ a = 4 ∨ a = 5)) 2 13 (.ref 12) = mG finC L xs 16 (fun a j => (a = 2 ∧ 14 ≤ j) ∨ a = 3 ∨ a = 4 ∨ a = 5) := mS_put' (by decide) (by decide) (by decide +kernel) (by decide +kernel) (fun a j h1 h2 hj hn => by have y0 := q_1' hj hn; omega)
  have n16 : znew (mG finC L xs 16 (fun a j => (a = 2 ∧ 14 ≤ j) ∨ a = 3 ∨ a = 4 ∨ a = 5)) (20, 20) (fun _ => zdef 20) = mG finC L xs 17 (fun a j => (a = 2 ∧ 14 ≤ j) ∨ a = 3 ∨ a = 4 ∨ a = 5) := mS_nwN (by decide +kernel) (by decide) rfl (by decide +kernel)
  have u14 : zput (mG finC L xs 17 (fun a j => (a = 2 ∧ 14 ≤ j) ∨ a = 3 ∨ a = 4 ∨ a = 5)) 2 14 (.ref 17) = mG finC L xs 17 (fun a j => (a = 2 ∧ 15 ≤ j) ∨ a = 3 ∨ a = 4 ∨ a = 5) := mS_put' (by decide) (by decide) (by decide +kernel) (by decide +kernel) (fun a j h1 h2 hj hn => by have y0 := q_1' hj hn; omega)
  have ok : ∀ (k : Nat) (P : Nat → Nat → Prop), 2 ≤ k → zok (mG finC L xs k P) 2 9 15 = True := fun k P h => mS_okT (by decide) (by decide +kernel) h
  rw [e40]
  simp (disch := omega) only [p40_0, p40_1, p40_4, p40_5, p40_6, p40_9, p40_12, p40_13, p40_15, p40_18, p40_21, p40_22, p40_24, p40_27, p40_30, p40_31, p40_33, p40_35, p40_38, p40_39, p40_41, p40_44, p40_45, p40_47, p40_50, p40_51, p40_54, p40_54i, p40_55, p40_58, p40_61, p40_62, p40_65, p40_65i, p40_66, p40_69, p40_72, p40_73, p40_76, p40_76i, p40_77, p40_80, p40_83, p40_84, p40_87, p40_87i, p40_88, p40_91, p40_94, p40_95, p40_97, p40_99, p40_102, p40_103, p40_105, p40_106, p40_109, p40_110, p40_113, p40_114, p40_117, p40_118, p40_121, p40_121i, p40_122, p40_125, p40_126, p40_129, p40_132, p40_133, p40_135, p40_136, p40_139, p40_140, p40_143, p40_144, p40_147, p40_148, p40_151, p40_151i, p40_152, p40_155, p40_156, p40_159, p40_162, p40_163, p40_165, p40_166, p40_169, p40_170, p40_173, p40_174, p40_177, p40_178, p40_181, p40_181i, p40_182, p40_185, p40_186, p40_189, p40_192, n2, u0, n3, u1, n4, u3, n5, u5, u7, u8, n6, h1, u10, n7, h14, u11, n9, h18, u12, n11, h24, u13, n16, u14, ok, k_pos, mS_1, zvi_int, zvl_long, zvd_double, zvr_ref, zisI_int, zisR_ref, zgI_int, zgR_ref, zkl_int, zkl_ref, zkl_none, zkl_long, zkl_double, zct_nil, zct_int, zct_ref, zct_long, zct_double, zbk_some, zbk_none, zbk_exc, nI_clamp, nI_add, nI_mul, true_and, and_true, Nat.reduceAdd, Nat.reduceMul, Nat.reduceLeDiff, Nat.reducePow, ↓reduceIte, Nat.zero_add, Nat.add_zero, Nat.reduceLT, Nat.reduceEqDiff, Nat.le_refl, zn10, zn01, zfitB0, zfitB1, znarB0, znarB1, Nat.lt_irrefl, ↓zvi_eq, ↓zvr_eq]
  rw [mS_cg (P := (fun a j => (a = 2 ∧ 15 ≤ j) ∨ a = 3 ∨ a = 4 ∨ a = 5)) (P' := fun a j => (a = 3 ∧ 0 ≤ j) ∨ a = 4 ∨ a = 5) (fun a j h1 h2 hj hn => by have y0 := q_1' hj hn; omega)]
theorem wDX {M : zM} {a b uc us : Nat} (h : zok M a 9 15) (hr : zrd M a 0 = .ref b) (hb : zok M b 30 4) : zwp zm_40 (104, [some (.ref a), some (.int (nI 4))], [], M, uc, us) Q ↔ zwp zm_40 (134, [some (.ref a), some (.int (nI 0))], [], M, uc, us) Q := by
  have ha := k_arr hb (by decide)
  have hl := k_len hb
  rw [p40_104]
  simp (disch := omega) only [p40_0, p40_1, p40_4, p40_5, p40_6, p40_9, p40_12, p40_13, p40_15, p40_18, p40_21, p40_22, p40_24, p40_27, p40_30, p40_31, p40_33, p40_35, p40_38, p40_39, p40_41, p40_44, p40_45, p40_47, p40_50, p40_51, p40_54, p40_54i, p40_55, p40_58, p40_61, p40_62, p40_65, p40_65i, p40_66, p40_69, p40_72, p40_73, p40_76, p40_76i, p40_77, p40_80, p40_83, p40_84, p40_87, p40_87i, p40_88, p40_91, p40_94, p40_95, p40_97, p40_99, p40_102, p40_103, p40_105, p40_106, p40_109, p40_110, p40_113, p40_114, p40_117, p40_118, p40_121, p40_121i, p40_122, p40_125, p40_126, p40_129, p40_132, p40_133, p40_135, p40_136, p40_139, p40_140, p40_143, p40_144, p40_147, p40_148, p40_151, p40_151i, p40_152, p40_155, p40_156, p40_159, p40_162, p40_163, p40_165, p40_166, p40_169, p40_170, p40_173, p40_174, p40_177, p40_178, p40_181, p40_181i, p40_182, p40_185, p40_186, p40_189, p40_192, h, hr, ha, hl, nI_ltI, zvi_int, zvl_long, zvd_double, zvr_ref, zisI_int, zisR_ref, zgI_int, zgR_ref, zkl_int, zkl_ref, zkl_none, zkl_long, zkl_double, zct_nil, zct_int, zct_ref, zct_long, zct_double, zbk_some, zbk_none, zbk_exc, nI_clamp, nI_add, nI_mul, true_and, and_true, Nat.reduceAdd, Nat.reduceMul, Nat.reduceLeDiff, Nat.reducePow, ↓reduceIte, Nat.zero_add, Nat.add_zero, Nat.reduceLT, Nat.reduceEqDiff, Nat.le_refl, zn10, zn01, zfitB0, zfitB1, znarB0, znarB1, Nat.lt_irrefl, ↓zvi_eq, ↓zvr_eq]
theorem wDT {p uc us : Nat} (hp : p < 4) (hu : uc + 78 ≤ 407) (hs : us + 500 ≤ 2804) : zwp zm_40 (104, [some (.ref 2), some (.int (nI p))], [], mG finC L xs (17 + 78 * p) (fun a j => (a = 3 ∧ p ≤ j) ∨ a = 4 ∨ a = 5), uc, us) Q ↔ zwp zm_40 (104, [some (.ref 2), some (.int (nI (p + 1)))], [], mG finC L xs (17 + 78 * (p + 1)) (fun a j => (a = 3 ∧ p + 1 ≤ j) ∨ a = 4 ∨ a = 5), uc + 78, us + 500) Q := by
  obtain ⟨z17, z18, z19, z20, r0, r1, r2, r4, r5, rb, hd⟩ := q_bx p hp
  have ok : ∀ (k : Nat) (P : Nat → Nat → Prop), 2 ≤ k → zok (mG finC L xs k P) 2 9 15 = True := fun k P h => mS_okT (by decide) (by decide +kernel) h
  have o2 : zok (mG finC L xs (17 + 78 * p) (fun a j => (a = 3 ∧ p ≤ j) ∨ a = 4 ∨ a = 5)) 3 30 4 := mS_ok (by decide) (by omega) (by decide +kernel)
  have o3 : zok (mG finC L xs (95 + 78 * p) (fun a j => (a = 3 ∧ p ≤ j) ∨ a = 4 ∨ a = 5)) 3 30 4 := mS_ok (by decide) (by omega) (by decide +kernel)
  have o4 : zok (mG finC L xs (95 + 78 * p) (fun a j => (a = 3 ∧ p ≤ j) ∨ a = 4 ∨ a = 5)) (18 + 78 * p) 0 6 := mS_ok (by omega) (by omega) z17
  have ha := k_arr o2 (by decide)
  have hl := k_len o2
  have hr : zrd (mG finC L xs (17 + 78 * p) (fun a j => (a = 3 ∧ p ≤ j) ∨ a = 4 ∨ a = 5)) 2 0 = .ref 3 := (mS_rd (by decide) (by omega) (by decide +kernel) (by omega)).trans (veq_eq (by decide +kernel))
  have e : 17 + 78 * p + 1 = 18 + 78 * p := by omega
  have hn : znew (mG finC L xs (17 + 78 * p) (fun a j => (a = 3 ∧ p ≤ j) ∨ a = 4 ∨ a = 5)) (0, 6) (fun j => defaultValue (zty 0 j)) = mG finC L xs (18 + 78 * p) (fun a j => (a = 3 ∧ p ≤ j) ∨ a = 4 ∨ a = 5 ∨ a = 18 + 78 * p) := by
    rw [mS_newo (by rw [e]; exact z17) (by decide), e]
    exact mS_cg (fun a j h1 h2 hj hn => by omega)
  have hk := fun (Q : zO → zM → Prop) => c31s (L := L) (xs := xs) (Q := Q) hp
  have hz : zias2 (mG finC L xs (95 + 78 * p) (fun a j => (a = 3 ∧ p ≤ j) ∨ a = 4 ∨ a = 5)) (18 + 78 * p) 3 (nI p) = True := by
    refine eq_true ?_
    unfold zias2
    rw [o4.2]
    exact ⟨o4.1, by decide, k_ix o3 hp (by decide)⟩
  have hq : zput (mG finC L xs (95 + 78 * p) (fun a j => (a = 3 ∧ p ≤ j) ∨ a = 4 ∨ a = 5)) 3 p (.ref (18 + 78 * p)) = mG finC L xs (17 + 78 * (p + 1)) (fun a j => (a = 3 ∧ p + 1 ≤ j) ∨ a = 4 ∨ a = 5) := by
    rw [show 17 + 78 * (p + 1) = 95 + 78 * p by omega]
    exact mS_put' (by decide) (by omega) (by rw [show zdk 3 = (30, 4) by decide +kernel]; exact hp) rb (fun a j h1 h2 hj hn => by omega)
  have g1 : uc + 1 ≤ 407 := by omega
  have g2 : us + 6 ≤ 2804 := by omega
  have g3 : uc + 1 + 77 ≤ 407 := by omega
  have g4 : us + 6 + 494 ≤ 2804 := by omega
  have g5 : uc + 1 + 77 = uc + 78 := by omega
  have g6 : us + 6 + 494 = us + 500 := by omega
  rw [p40_104]
  simp (disch := omega) only [p40_0, p40_1, p40_4, p40_5, p40_6, p40_9, p40_12, p40_13, p40_15, p40_18, p40_21, p40_22, p40_24, p40_27, p40_30, p40_31, p40_33, p40_35, p40_38, p40_39, p40_41, p40_44, p40_45, p40_47, p40_50, p40_51, p40_54, p40_54i, p40_55, p40_58, p40_61, p40_62, p40_65, p40_65i, p40_66, p40_69, p40_72, p40_73, p40_76, p40_76i, p40_77, p40_80, p40_83, p40_84, p40_87, p40_87i, p40_88, p40_91, p40_94, p40_95, p40_97, p40_99, p40_102, p40_103, p40_105, p40_106, p40_109, p40_110, p40_113, p40_114, p40_117, p40_118, p40_121, p40_121i, p40_122, p40_125, p40_126, p40_129, p40_132, p40_133, p40_135, p40_136, p40_139, p40_140, p40_143, p40_144, p40_147, p40_148, p40_151, p40_151i, p40_152, p40_155, p40_156, p40_159, p40_162, p40_163, p40_165, p40_166, p40_169, p40_170, p40_173, p40_174, p40_177, p40_178, p40_181, p40_181i, p40_182, p40_185, p40_186, p40_189, p40_192, ok, ha, hl, hr, e, hn, hk, hz, hq, hp, nI_ltI, mS_1, g1, g2, g3, g4, zvi_int, zvl_long, zvd_double, zvr_ref, zisI_int, zisR_ref, zgI_int, zgR_ref, zkl_int, zkl_ref, zkl_none, zkl_long, zkl_double, zct_nil, zct_int, zct_ref, zct_long, zct_double, zbk_some, zbk_none, zbk_exc, nI_clamp, nI_add, nI_mul, true_and, and_true, Nat.reduceAdd, Nat.reduceMul, Nat.reduceLeDiff, Nat.reducePow, ↓reduceIte, Nat.zero_add, Nat.add_zero, Nat.reduceLT, Nat.reduceEqDiff, Nat.le_refl, zn10, zn01, zfitB0, zfitB1, znarB0, znarB1, Nat.lt_irrefl, ↓zvi_eq, ↓zvr_eq]
  try rw [g5, g6]
theorem c40s : zcl 40 [.ref 2] (mG finC L xs 2 (fun a j => a = 2)) Q ↔ Q (.inl none) (mG finC L xs 409 (fun a j => False)) := by
  have ok : ∀ (k : Nat) (P : Nat → Nat → Prop), 2 ≤ k → zok (mG finC L xs k P) 2 9 15 := fun k P h => mS_ok (by decide) h (by decide +kernel)
  have d1 : ∀ j, j < 15 → j < (zdk 2).2 := fun j h => h
  refine c40a.trans ?_
  refine (zfor (X := Unit) (n := 4) (f := fun _ u => u) (P := fun p _ => zwp zm_40 (104, [some (.ref 2), some (.int (nI p))], [], mG finC L xs (17 + 78 * p) (fun a j => (a = 3 ∧ p ≤ j) ∨ a = 4 ∨ a = 5), 15 + 78 * p, 384 + 500 * p) Q) (fun p _ hp => by
    have h := wDT (L := L) (xs := xs) (Q := Q) (uc := 15 + 78 * p) (us := 384 + 500 * p) hp (by omega) (by omega)
    rw [show 15 + 78 * p + 78 = 15 + 78 * (p + 1) by omega, show 384 + 500 * p + 500 = 384 + 500 * (p + 1) by omega] at h
    exact h) () 4 (Nat.le_refl 4)).trans ?_
  refine (wDX (b := 3) (ok _ _ (by decide)) ((mS_rd (by decide) (by decide) (d1 0 (by decide)) (by omega)).trans (veq_eq (by decide +kernel))) (mS_ok (by decide) (by decide) (by decide +kernel))).trans ?_
  show zwp zm_40 (134, [some (.ref 2), some (.int (nI 0))], [], mG finC L xs 329 (fun a j => (a = 3 ∧ 4 ≤ j) ∨ a = 4 ∨ a = 5), 327, 2384) Q ↔ _
  rw [mS_cg (P' := fun a j => (a = 4 ∧ 0 ≤ j) ∨ a = 5) (fun a j h1 h2 hj hn => by
    have hq : a = 3 → j < 4 := fun q => by
      subst q
      exact hj
    omega)]
  refine (zfor (X := Unit) (n := 60) (f := fun _ u => u) (P := fun s _ => zwp zm_40 (134, [some (.ref 2), some (.int (nI s))], [], mG finC L xs (329 + s) (fun a j => (a = 4 ∧ s ≤ j) ∨ a = 5), 327 + 1 * s, 2384 + 6 * s) Q) (fun s _ hs => ?_) () 60 (Nat.le_refl 60)).trans ?_
  · refine (wET (b := 4) (ok _ _ (by omega)) ((mS_rd (by decide) (by omega) (d1 1 (by decide)) (by omega)).trans (veq_eq (by decide +kernel))) (mS_ok (by decide) (by omega) (by decide +kernel)) hs (by omega) (by omega)).trans ?_
    rw [mS_1, zEe hs]
    exact Iff.rfl
  refine (wEX (b := 4) (ok _ _ (by decide)) ((mS_rd (by decide) (by decide) (d1 1 (by decide)) (by omega)).trans (veq_eq (by decide +kernel))) (mS_ok (by decide) (by decide) (by decide +kernel))).trans ?_
  show zwp zm_40 (164, [some (.ref 2), some (.int (nI 0))], [], mG finC L xs 389 (fun a j => (a = 4 ∧ 60 ≤ j) ∨ a = 5), 387, 2744) Q ↔ _
  rw [mS_cg (P' := fun a j => a = 5 ∧ 0 ≤ j) (fun a j h1 h2 hj hn => by
    have hq : a = 4 → j < 60 := fun q => by
      subst q
      exact hj
    omega)]
  refine (zfor (X := Unit) (n := 20) (f := fun _ u => u) (P := fun s _ => zwp zm_40 (164, [some (.ref 2), some (.int (nI s))], [], mG finC L xs (389 + s) (fun a j => a = 5 ∧ s ≤ j), 387 + 1 * s, 2744 + 3 * s) Q) (fun s _ hs => ?_) () 20 (Nat.le_refl 20)).trans ?_
  · refine (wFT (b := 5) (ok _ _ (by omega)) ((mS_rd (by decide) (by omega) (d1 3 (by decide)) (by omega)).trans (veq_eq (by decide +kernel))) (mS_ok (by decide) (by omega) (by decide +kernel)) hs (by omega) (by omega)).trans ?_
    rw [mS_1, zFe hs]
    exact Iff.rfl
  refine (wFX (b := 5) (ok _ _ (by decide)) ((mS_rd (by decide) (by decide) (d1 3 (by decide)) (by omega)).trans (veq_eq (by decide +kernel))) (mS_ok (by decide) (by decide) (by decide +kernel)) (by decide) (by decide)).trans ?_
  refine Iff.of_eq (congrArg (Q (.inl none)) (mS_cg (fun a j h1 h2 hj hn => ?_)))
  have hq : a = 5 → j < 20 := fun q => by
    subst q
    exact hj
  exact ⟨fun q => by
    have q : a = 5 ∧ 20 ≤ j := q
    omega, fun q => q.elim⟩
end ZK
