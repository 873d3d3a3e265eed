/-! the pure machine run with cells put in front: calls, bodies (source: wip/p35/src/298.sj.txt) -/
section ZFW
variable {G : Nat} {M M' : zM} {K : zI} {L L' : zL}
theorem fw_jdk {q : zP} {pc : Nat} {st : List Value} {uc us : Nat} {r : zS ⊕ (zO × zM)} (hL : fwL G L L') (hM : fwM G M M') (e : zjdk K q pc L st M uc us = some r) : ∃ r', zjdk K q pc L' (st.map (fwV G)) M' uc us = some r' ∧ fwR G r r' := by
  unfold zjdk zgo at e
  split at e
  · next a b c =>
    split at e
    · next v r0 =>
      split at e
      · next hc => cases e; exact ⟨_, if_pos (by rw [fw_ct]; exact hc), L', M', hL, hM, rfl⟩
      · cases e
    · cases e
  · next a b =>
    split at e
    · next x r0 =>
      split at e
      · next hc => cases e; exact ⟨_, if_pos (by rw [fw_ct]; exact hc), L', M', hL, hM, rfl⟩
      · cases e
    · cases e
  · next a b c =>
    split at e
    · next n dp d sp s r0 =>
      split at e
      · next hc =>
        cases e
        obtain ⟨⟨h1, h2, h3, h4⟩, h5, h6, h7, h8, h9⟩ := hc
        refine ⟨_, if_pos ?_, L', _, hL, fw_copy hM h1 h2, rfl⟩
        rw [fw_k hM h1, fw_k hM h2, fw_ct]
        refine ⟨⟨fw_al hM h1, fw_al hM h2, h3, ?_⟩, h5, h6, h7, h8, h9⟩
        rcases h4 with h4 | h4
        · exact Or.inl h4
        · exact Or.inr ⟨h4.1, fw_rows hM h1 h4.2⟩
      · cases e
    · cases e
  · cases e
theorem fw_cat' {ex pc uc us : Nat} {r : zS ⊕ (zO × zM)} (hL : fwL G L L') (hM : fwM G M M') (e : zcat K ex pc L M uc us = some r) : ∃ r', zcat K ex pc L' M' uc us = some r' ∧ fwR G r r' := by
  have hlen := fwL_len hL
  unfold zcat zend zgo at e ⊢
  split at e
  · next h =>
    rw [if_pos h]
    split at e
    · next hc => cases e; exact ⟨_, if_pos hc, M', hM, rfl⟩
    · cases e
  · next h =>
    rw [if_neg h]
    split at e
    · next hh hz =>
      try rw [hz]
      split at e
      · next k b hk =>
        try rw [hk]
        split at e
        · next hc => cases e; exact ⟨_, if_pos (by rw [hlen]; exact hc), _, M', fwL_st1 hL (Or.inl rfl), hM, rfl⟩
        · cases e
      · next k b hk =>
        try rw [hk]
        split at e
        · next hc => cases e; exact ⟨_, if_pos (by rw [hlen]; exact hc), _, M', fwL_st1 hL (Or.inl rfl), hM, rfl⟩
        · cases e
      · cases e
    · cases e
theorem fw_rcv {J : zI} {y : Nat} {args : List Value} (hM : fwM G M M') (h : zrcv J y args M = true) : zrcv J y (args.map (fwV G)) M' = true := by
  unfold zrcv at h ⊢
  by_cases hy : y = 1 ∨ y = 4 ∨ y = 6
  · rw [if_pos hy]
  · rw [if_neg hy] at h ⊢
    cases args with
    | nil => exact h
    | cons v args =>
      cases v with
      | ref a =>
        have h : (!(decide (y = 0)) || (zal M a && decide (M.2.1 a = (zk_own J, zN (zk_own J))))) = true := h
        show (!(decide (y = 0)) || (zal M' (fwA G a) && decide (M'.2.1 (fwA G a) = (zk_own J, zN (zk_own J))))) = true
        rw [Bool.or_eq_true] at h ⊢
        rcases h with h | h
        · exact Or.inl h
        · rw [Bool.and_eq_true] at h
          rw [fw_al hM h.1, fw_k hM h.1, h.2]
          exact Or.inr rfl
      | _ => exact h
/-- what is said of calls -/
def fwF (G : Nat) (call call' : zF) : Prop := ∀ (x : Nat) (args : List Value) (M M' : zM) (r : zO × zM), fwM G M M' → call x args M = some r → ∃ M2, fwM G r.2 M2 ∧ call' x (args.map (fwV G)) M' = some (fwO G r.1, M2)
theorem fw_inv {call : zF} (hF : fwF G call call) {x y pc : Nat} {st : List Value} {uc us : Nat} {r : zS ⊕ (zO × zM)} (hL : fwL G L L') (hM : fwM G M M') (e : zinv call K x y pc L st M uc us = some r) : ∃ r', zinv call K x y pc L' (st.map (fwV G)) M' uc us = some r' ∧ fwR G r r' := by
  unfold zinv at e ⊢
  split at e
  · cases e
  · next J hJ =>
    try rw [hJ]
    try dsimp only
    have hp' := fw_pop (G := G) (zk_na J + (if y = 1 ∨ y = 4 ∨ y = 6 then 0 else 1)) [] st
    rw [List.map_nil] at hp'
    rw [hp']
    split at e
    · cases e
    · next args r0 hp =>
      rw [hp]
      show ∃ r', (if zk_rf J + 1 ≤ zk_rf K ∧ 8 + (zk_ml J + 11) + zk_rl J ≤ zk_rl K ∧ zct (r0.map (fwV G)) ≤ 8 ∧ uc + zk_mc J ≤ zk_mc K ∧ us + zk_ms J ≤ zk_ms K ∧ zrcv J y (args.map (fwV G)) M' = true then
        match call x (args.map (fwV G)) M' with
        | none => none
        | some (.inl v, M'') => zgo (pc + 3) L' (v.toList ++ r0.map (fwV G)) M'' (uc + zk_mc J) (us + zk_ms J)
        | some (.inr e, M'') => zcat K e pc L' M'' (uc + zk_mc J) (us + zk_ms J)
        else none) = some r' ∧ fwR G r r'
      split at e
      · next hc =>
        obtain ⟨h1, h2, h3, h4, h5, h6⟩ := hc
        rw [if_pos ⟨h1, h2, by rw [fw_ct]; exact h3, h4, h5, fw_rcv hM h6⟩]
        split at e
        · cases e
        · next v M2 hcl =>
          obtain ⟨M3, h7, h8⟩ := hF _ _ _ _ _ hM hcl
          rw [h8]
          cases e
          refine ⟨Sum.inl (pc + 3, L', (v.map (fwV G)).toList ++ r0.map (fwV G), M3, uc + zk_mc J, us + zk_ms J), rfl, L', M3, hL, h7, ?_⟩
          have : (v.map (fwV G)).toList ++ r0.map (fwV G) = (v.toList ++ r0).map (fwV G) := by
            cases v <;> rfl
          rw [this]
        · next ee M2 hcl =>
          obtain ⟨M3, h7, h8⟩ := hF _ _ _ _ _ hM hcl
          rw [h8]
          exact fw_cat' hL h7 e
      · cases e
theorem fw_st {call : zF} (hF : fwF G call call) {i : Instr} {pc : Nat} {st : List Value} {uc us : Nat} {r : zS ⊕ (zO × zM)} (hL : fwL G L L') (hM : fwM G M M') (e : zst call K i (pc, L, st, M, uc, us) = some r) : ∃ r', zst call K i (pc, L', st.map (fwV G), M', uc, us) = some r' ∧ fwR G r r' := by
  unfold zst at e ⊢
  split at e
  · split at e
    · next hp =>
      try simp only [hp]
      split at e
      · next hc => (try rw [if_pos hc]); exact fw_inv hF hL hM e
      · cases e
    · cases e
  · split at e
    · next hp =>
      try simp only [hp]
      split at e
      · next hc => (try rw [if_pos hc]); exact fw_inv hF hL hM e
      · cases e
    · next hp => (try simp only [hp]); exact fw_jdk hL hM e
    · next hp => (try simp only [hp]); exact fw_jdk hL hM e
    · cases e
  · split at e
    · next hp =>
      try simp only [hp]
      split at e
      · next hc => (try rw [if_pos hc]); exact fw_inv hF hL hM e
      · cases e
    · next hp => (try simp only [hp]); exact fw_jdk hL hM e
    · cases e
  · exact fw_sp hL hM e
theorem fw_run {call : zF} (hF : fwF G call call) : ∀ (n : Nat) (L L' : zL) (M M' : zM) (pc : Nat) (st : List Value) (uc us : Nat) (r : zO × zM), fwL G L L' → fwM G M M' → zrun call K n (pc, L, st, M, uc, us) = some r → ∃ M2, fwM G r.2 M2 ∧ zrun call K n (pc, L', st.map (fwV G), M', uc, us) = some (fwO G r.1, M2)
  | 0, _, _, _, _, _, _, _, _, _, _, _, e => by cases e
  | n + 1, L, L', M, M', pc, st, uc, us, r, hL, hM, e => by
    simp only [zrun] at e ⊢
    split at e
    · cases e
    · next il hil =>
      split at e
      · cases e
      · next s' hs =>
        obtain ⟨r1, h1, L2, M2, h2, h3, h4⟩ := fw_st hF hL hM hs
        rw [h1, h4]
        obtain ⟨pc1, L1, st1, M1, uc1, us1⟩ := s'
        exact fw_run hF n L1 L2 M1 M2 pc1 st1 uc1 us1 r h2 h3 e
      · next q hs =>
        obtain ⟨r1, h1, M2, h2, h3⟩ := fw_st hF hL hM hs
        rw [h1, h3]
        cases e
        exact ⟨M2, h2, rfl⟩
theorem fw_call : ∀ (F : Nat), fwF G (zcall F) (zcall F)
  | 0, _, _, _, _, _, _, e => by cases e
  | F + 1, x, args, M, M', r, hM, e => by
    simp only [zcall] at e ⊢
    split at e
    · cases e
    · next K hK =>
      split at e
      · next hl =>
        rw [if_pos (by rw [fw_sl, List.length_map]; exact hl)]
        have := fw_run (fw_call F) F _ _ M M' 0 [] 0 0 r (fwL_map (G := G) (zent (zk_ml K) args)) hM e
        rw [fw_ent]
        exact this
      · cases e
/-- a run stands with cells put in front -/
theorem fw_wp {pc : Nat} {st : List Value} {uc us : Nat} {Q : zO → zM → Prop} (hL : fwL G L L') (hM : fwM G M M') (h : zwp K (pc, L, st, M, uc, us) Q) : zwp K (pc, L', st.map (fwV G), M', uc, us) (fun o M2 => ∃ o0 M0, o = fwO G o0 ∧ fwM G M0 M2 ∧ Q o0 M0) := by
  obtain ⟨F, n, r, h1, h2⟩ := h
  obtain ⟨M2, h3, h4⟩ := fw_run (fw_call F) n L L' M M' pc st uc us r hL hM h1
  exact ⟨F, n, _, h4, r.1, r.2, rfl, h3, h2⟩
end ZFW
