/-! constructors: the words at the start (source: wip/whole/src/271.cu.txt) -/
def x0 : zSt := fun c p i => if c = 0 then (if p = 0 ∧ i = 7 then nI 20 else if p = 0 ∧ i = 8 then nI 10 else nI 0) else if c = 13 then (if i = 1 then nI 2 else if i = 5 then nI 200 else nI 0) else if c = 14 then -1 else if c = 16 then nI 1 else if c = 17 then nI i else if c = 25 then -1 else if c = 34 then -1 else nI 0
def y0 : zSt := fun c p i => if c = 34 then nI 0 else x0 c p i
theorem zInv_0 : zInv x0 y0 1 := by
  refine ⟨0, 0, 0, 10, 20, fun _ => 2, fun _ => 0, ⟨rfl, by omega, rfl, by omega, rfl, by omega, rfl, by omega, rfl, by omega⟩, fun p hp => ⟨⟨rfl, show 2 ≤ 8 by omega, ?_, fun i hi => Or.inl rfl, fun i hi => ⟨0, by omega, rfl⟩⟩, Nat.le_refl 2, ⟨fun k hk => ⟨1, by omega, by omega, rfl⟩, fun i f hi hf e => ?_, fun i j hi hj e1 e2 e3 => absurd rfl e2⟩, fun i hi => ⟨0, by omega, rfl⟩, fun i hi => zbl_0, fun k hk => ⟨0, by omega, rfl⟩⟩, fun p hp => ⟨⟨rfl, show 0 ≤ 6 by omega, fun r hr => ⟨r, hr, rfl⟩, fun k hk => ⟨zbl_0, zbl_0⟩⟩, fun r s hr hs e => (nI_eq (by omega) (by omega)).mp e, fun r hr => absurd hr (Nat.not_lt_zero r)⟩, ⟨fun i hi => Or.inl rfl, fun i hi => absurd hi (by omega), fun _ => 0, fun i hi => absurd hi (by omega), fun i j hij hj => absurd hj (by omega)⟩, fun q hq => absurd hq (by omega), fun c hc => ?_, fun c i a1 a2 hi => absurd hi (by omega), fun p r hp hr => absurd hr (Nat.not_lt_zero r)⟩
  · exact ⟨fun _ => 0, fun _ => show 0 < 8 by omega, fun k hk => Or.inl rfl⟩
  · exact absurd (show (-1 : Int32) = nI f from e).symm (nI_m1 (by omega))
  · funext p i
    unfold y0
    rw [if_neg (by unfold iSh at hc; omega)]
