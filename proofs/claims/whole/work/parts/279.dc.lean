/-! the law from its entry (source: wip/whole/src/279.dc.txt) -/
section ZK
variable {L : Nat} {xs : Nat → Int32} {Q : zO → zM → Prop}
theorem c211a : zwp zm_211 (0, [some (.ref 0), none, none, none, none, none, none, none, none], [], zM0 L xs, 0, 0) Q ↔ zwp zm_211 (28, [some (.ref 0), some (.ref 1), some (.ref 409), some (.ref 438), some (.ref 439), some (.int (nI 0)), none, none, none], [], zmem x0 y0 (E0 L xs), 439, 5860) Q := by
  have n1 : znew (mS L xs 0 (fun a j => False)) (9, 15) (fun j => defaultValue (zty 9 j)) = mS L xs 1 (fun a j => a = 1) := mS_newo' (by decide +kernel) (by decide) (fun a j h1 h2 hj hn => ⟨fun q => q.elim False.elim id, Or.inr⟩)
  have h1 := fun (Q : zO → zM → Prop) => c40s (L := L) (xs := xs) (Q := Q)
  have n2 : znew (mS L xs 408 (fun a j => False)) (10, 39) (fun j => defaultValue (zty 10 j)) = mS L xs 409 (fun a j => a = 409) := mS_newo' (by decide +kernel) (by decide) (fun a j h1 h2 hj hn => ⟨fun q => q.elim False.elim id, Or.inr⟩)
  have h2 := fun (Q : zO → zM → Prop) => c114s (L := L) (xs := xs) (Q := Q)
  have n3 : znew (mS L xs 437 (fun a j => False)) (21, 1) (fun _ => zdef 21) = mS L xs 438 (fun a j => False) := mS_nwN (by decide +kernel) (by decide) rfl (by decide +kernel)
  have n4 : znew (mS L xs 438 (fun a j => False)) (22, 1) (fun _ => zdef 22) = mS L xs 439 (fun a j => False) := mS_nwN (by decide +kernel) (by decide) rfl (by decide +kernel)
  have e : mS L xs 439 (fun a j => False) = zmem x0 y0 (E0 L xs) := mS_end (fun a j _ h => h.elim)
  rw [← mS_0 (P := fun a j => False)]
  simp (disch := omega) only [p211_0, p211_3, p211_4, p211_7, p211_8, p211_11, p211_12, p211_15, p211_16, p211_17, p211_19, p211_20, p211_21, p211_23, p211_25, p211_26, n1, h1, n2, h2, n3, n4, e, k_pos, mS_1, zvi_int, zvl_long, zvd_double, zvr_ref, zisI_int, zisR_ref, zgI_int, zgR_ref, zkl_int, zkl_ref, zkl_none, zkl_long, zkl_double, zct_nil, zct_int, zct_ref, zct_long, zct_double, zbk_some, zbk_none, zbk_exc, nI_clamp, nI_add, nI_mul, true_and, and_true, Nat.reduceAdd, Nat.reduceMul, Nat.reduceLeDiff, Nat.reducePow, ↓reduceIte, Nat.zero_add, Nat.add_zero, Nat.reduceLT, Nat.reduceEqDiff, Nat.le_refl, zn10, zn01, zfitB0, zfitB1, znarB0, znarB1, Nat.lt_irrefl, ↓zvi_eq, ↓zvr_eq]
theorem gI_0 : gI L xs x0 y0 (E0 L xs) 1 := ⟨zInv_0, rfl, fun j => rfl⟩
end ZK
theorem zm_211_in : zm_211 ∈ zmt := List.mem_of_getElem? (i := 211) rfl
theorem zlaw_ok (L : Nat) (xs : Nat → Int32) (hL : L ≤ 4096) : ∃ F N Mf, zrun (zcall F) zm_211 N (0, zent 9 [.ref 0], [], zM0 L xs, 0, 0) = some (.inl (some (.int 1)), Mf) := by
  have h := c211a.mpr (law_lp (L := L) (xs := xs) (Q := fun o _ => o = .inl (some (.int (nI 1)))) hL (fun M => rfl) 512 0 x0 y0 (E0 L xs) 1 439 5860 none none none (by omega) (by omega) (by omega) (by omega) (by omega) gI_0)
  obtain ⟨F, N, r, h1, h2⟩ := h
  refine ⟨F, N, r.2, ?_⟩
  have e : zent 9 [.ref 0] = [some (.ref 0), none, none, none, none, none, none, none, none] := rfl
  rw [e, h1]
  obtain ⟨o, M⟩ := r
  have h2 : o = .inl (some (.int (nI 1))) := h2
  rw [h2]
  rfl
