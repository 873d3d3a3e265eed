/-! the law, by the pure machine -/
theorem zm_151_in : zm_151 ∈ zmt := List.mem_of_getElem? (i := 151) rfl
theorem zlaw_ok (L : Nat) (xs : Nat → Int32) (hL : L ≤ 260) : ∃ (F N : Nat) (Mf : zM), zrun (zcall F) zm_151 N (0, zent 20 [.ref 0], [], zM0 L xs, 0, 0) = some (.inl (some (.int 1)), Mf) := sorry
