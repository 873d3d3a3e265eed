theorem zm_211_in : zm_211 ∈ zmt := List.mem_of_getElem? (i := 211) rfl
theorem zlaw_ok (L : Nat) (xs : Nat → Int32) (hL : L ≤ 4096) : ∃ F N Mf, zrun (zcall F) zm_211 N (0, zent 9 [.ref 0], [], zM0 L xs, 0, 0) = some (.inl (some (.int 1)), Mf) := sorry
