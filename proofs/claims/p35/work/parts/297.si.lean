/-! the pure machine run with cells put in front (source: wip/p35/src/297.si.txt) -/
def fwR (G : Nat) : (zS ⊕ (zO × zM)) → (zS ⊕ (zO × zM)) → Prop
  | .inl s, r => ∃ L' M', fwL G s.2.1 L' ∧ fwM G s.2.2.2.1 M' ∧ r = .inl (s.1, L', s.2.2.1.map (fwV G), M', s.2.2.2.2.1, s.2.2.2.2.2)
  | .inr q, r => ∃ M', fwM G q.2 M' ∧ r = .inr (fwO G q.1, M')
section ZFW
variable {G : Nat} {M M' : zM} {K : zI} {L L' : zL}
theorem fw_br {pc : Nat} {off : Int} {st : List Value} {uc us : Nat} {r : zS ⊕ (zO × zM)} (hL : fwL G L L') (hM : fwM G M M') (e : zbr pc off L st M uc us = some r) : ∃ r', zbr pc off L' (st.map (fwV G)) M' uc us = some r' ∧ fwR G r r' := by
  unfold zbr zgo at e ⊢
  split at e
  · next h => cases e; exact ⟨_, if_pos h, L', M', hL, hM, rfl⟩
  · cases e
theorem fw_sp {i : Instr} {pc : Nat} {st : List Value} {uc us : Nat} {r : zS ⊕ (zO × zM)} (hL : fwL G L L') (hM : fwM G M M') (e : zsp K i pc L st M uc us = some r) : ∃ r', zsp K i pc L' (st.map (fwV G)) M' uc us = some r' ∧ fwR G r r' := by
  have hlen := fwL_len hL
  cases i with
  | iconst n => cases e; exact ⟨_, rfl, L', M', hL, hM, rfl⟩
  | bipush n => cases e; exact ⟨_, rfl, L', M', hL, hM, rfl⟩
  | sipush n => cases e; exact ⟨_, rfl, L', M', hL, hM, rfl⟩
  | lconst n => cases e; exact ⟨_, rfl, L', M', hL, hM, rfl⟩
  | dconst d =>
    simp only [zsp, zgo] at e ⊢
    split at e
    · next h => cases e; exact ⟨_, if_pos h, L', M', hL, hM, rfl⟩
    · cases e
  | iload_n k =>
    simp only [zsp, zgo] at e ⊢
    split at e
    · next x h => cases e; rw [fwL_get hL h]; exact ⟨_, rfl, L', M', hL, hM, rfl⟩
    · cases e
  | iload k =>
    simp only [zsp, zgo] at e ⊢
    split at e
    · next x h => cases e; rw [fwL_get hL h]; exact ⟨_, rfl, L', M', hL, hM, rfl⟩
    · cases e
  | lload_n k =>
    simp only [zsp, zgo] at e ⊢
    split at e
    · next x h => cases e; rw [fwL_get hL h]; exact ⟨_, rfl, L', M', hL, hM, rfl⟩
    · cases e
  | lload k =>
    simp only [zsp, zgo] at e ⊢
    split at e
    · next x h => cases e; rw [fwL_get hL h]; exact ⟨_, rfl, L', M', hL, hM, rfl⟩
    · cases e
  | dload_n k =>
    simp only [zsp, zgo] at e ⊢
    split at e
    · next x h => cases e; rw [fwL_get hL h]; exact ⟨_, rfl, L', M', hL, hM, rfl⟩
    · cases e
  | dload k =>
    simp only [zsp, zgo] at e ⊢
    split at e
    · next x h => cases e; rw [fwL_get hL h]; exact ⟨_, rfl, L', M', hL, hM, rfl⟩
    · cases e
  | aload_n k =>
    simp only [zsp, zgo] at e ⊢
    split at e
    · next x h => cases e; rw [fwL_get hL h]; exact ⟨_, rfl, L', M', hL, hM, rfl⟩
    · cases e
  | aload k =>
    simp only [zsp, zgo] at e ⊢
    split at e
    · next x h => cases e; rw [fwL_get hL h]; exact ⟨_, rfl, L', M', hL, hM, rfl⟩
    · cases e
  | istore_n k =>
    simp only [zsp, zgo] at e
    split at e
    · next x r0 =>
      split at e
      · next h => cases e; exact ⟨_, if_pos (by rw [hlen]; exact h), _, M', fwL_st1 hL (Or.inr rfl), hM, rfl⟩
      · cases e
    · cases e
  | istore k =>
    simp only [zsp, zgo] at e
    split at e
    · next x r0 =>
      split at e
      · next h => cases e; exact ⟨_, if_pos (by rw [hlen]; exact h), _, M', fwL_st1 hL (Or.inr rfl), hM, rfl⟩
      · cases e
    · cases e
  | astore_n k =>
    simp only [zsp, zgo] at e
    split at e
    · next x r0 =>
      split at e
      · next h => cases e; exact ⟨_, if_pos (by rw [hlen]; exact h), _, M', fwL_st1 hL (Or.inr rfl), hM, rfl⟩
      · cases e
    · cases e
  | astore k =>
    simp only [zsp, zgo] at e
    split at e
    · next x r0 =>
      split at e
      · next h => cases e; exact ⟨_, if_pos (by rw [hlen]; exact h), _, M', fwL_st1 hL (Or.inr rfl), hM, rfl⟩
      · cases e
    · cases e
  | lstore_n k =>
    simp only [zsp, zgo] at e
    split at e
    · next x r0 =>
      split at e
      · next h => cases e; exact ⟨_, if_pos (by rw [hlen]; exact h), _, M', fwL_st2 hL, hM, rfl⟩
      · cases e
    · cases e
  | lstore k =>
    simp only [zsp, zgo] at e
    split at e
    · next x r0 =>
      split at e
      · next h => cases e; exact ⟨_, if_pos (by rw [hlen]; exact h), _, M', fwL_st2 hL, hM, rfl⟩
      · cases e
    · cases e
  | dstore k =>
    simp only [zsp, zgo] at e
    split at e
    · next x r0 =>
      split at e
      · next h => cases e; exact ⟨_, if_pos (by rw [hlen]; exact h), _, M', fwL_st2 hL, hM, rfl⟩
      · cases e
    · cases e
  | iinc k n =>
    simp only [zsp, zgo] at e ⊢
    split at e
    · next x h => cases e; rw [fwL_get hL h]; exact ⟨_, rfl, _, M', fwL_st1 hL (Or.inr rfl), hM, rfl⟩
    · cases e
  | idiv =>
    simp only [zsp, zgo] at e
    split at e
    · next y x r0 =>
      split at e
      · cases e
      · next h => cases e; exact ⟨_, if_neg h, _, M', hL, hM, rfl⟩
    · cases e
  | irem =>
    simp only [zsp, zgo] at e
    split at e
    · next y x r0 =>
      split at e
      · cases e
      · next h => cases e; exact ⟨_, if_neg h, _, M', hL, hM, rfl⟩
    · cases e
  | ddiv =>
    simp only [zsp, zgo] at e
    split at e
    · next y x r0 =>
      split at e
      · next h => cases e; exact ⟨_, if_pos h, _, M', hL, hM, rfl⟩
      · cases e
    · cases e
  | dup =>
    simp only [zsp, zgo] at e
    split at e
    · next v r0 =>
      split at e
      · next h => cases e; exact ⟨_, if_pos (by rw [fw_cat]; exact h), _, M', hL, hM, rfl⟩
      · cases e
    · cases e
  | pop =>
    simp only [zsp, zgo] at e
    split at e
    · next v r0 =>
      split at e
      · next h => cases e; exact ⟨_, if_pos (by rw [fw_cat]; exact h), _, M', hL, hM, rfl⟩
      · cases e
    · cases e
  | dup_x1 =>
    simp only [zsp, zgo] at e
    split at e
    · next v w r0 =>
      split at e
      · next h => cases e; exact ⟨_, if_pos (by rw [fw_cat, fw_cat]; exact h), _, M', hL, hM, rfl⟩
      · cases e
    · cases e
  | dup_x2 =>
    simp only [zsp, zgo] at e
    split at e
    · next v w u r0 =>
      split at e
      · next h => cases e; exact ⟨_, if_pos (by rw [fw_cat, fw_cat, fw_cat]; exact h), _, M', hL, hM, rfl⟩
      · cases e
    · cases e
  | dup2 =>
    simp only [zsp, zgo] at e
    split at e
    · next v w r0 =>
      split at e
      · next h => cases e; exact ⟨_, if_pos (by rw [fw_cat, fw_cat]; exact h), _, M', hL, hM, rfl⟩
      · cases e
    · cases e
  | goto off => exact fw_br hL hM e
  | ifCond c off =>
    simp only [zsp, zgo] at e
    split at e
    · next x r0 =>
      split at e
      · next h =>
        split at e
        · next h2 => cases e; exact ⟨_, (if_pos h).trans (if_pos h2), _, M', hL, hM, rfl⟩
        · next h2 => cases e; exact ⟨_, (if_pos h).trans (if_neg h2), _, M', hL, hM, rfl⟩
      · cases e
    · cases e
  | if_icmp c off =>
    simp only [zsp, zgo] at e
    split at e
    · next y x r0 =>
      split at e
      · next h =>
        split at e
        · next h2 => cases e; exact ⟨_, (if_pos h).trans (if_pos h2), _, M', hL, hM, rfl⟩
        · next h2 => cases e; exact ⟨_, (if_pos h).trans (if_neg h2), _, M', hL, hM, rfl⟩
      · cases e
    · cases e
  | tableswitch dflt lo hi offs =>
    simp only [zsp] at e
    split at e
    · next x r0 =>
      show ∃ r', (if x.toInt < lo ∨ hi < x.toInt then zbr pc dflt L' (r0.map (fwV G)) M' uc us else match offs[(x.toInt - lo).toNat]? with
        | some off => zbr pc off L' (r0.map (fwV G)) M' uc us
        | none => none) = some r' ∧ fwR G r r'
      split at e
      · next h => rw [if_pos h]; exact fw_br hL hM e
      · next h =>
        rw [if_neg h]
        split at e
        · next off ho => (try rw [ho]); exact fw_br hL hM e
        · cases e
    · cases e
  | ldc2_w ix =>
    simp only [zsp, zgo] at e ⊢
    split at e
    · next x a b h => cases e; (try rw [h]); exact ⟨_, rfl, L', M', hL, hM, rfl⟩
    · cases e
  | ldc ix =>
    simp only [zsp, zgo] at e ⊢
    split at e
    · next x a b h => cases e; (try rw [h]); exact ⟨_, rfl, L', M', hL, hM, rfl⟩
    · cases e
  | getfield ix =>
    simp only [zsp, zgo] at e ⊢
    split at e
    · next c j b h =>
      try rw [h]
      split at e
      · next a r0 =>
        split at e
        · next hc => cases e; exact ⟨_, if_pos ⟨fw_al hM hc.1, (fw_k hM hc.1).trans hc.2⟩, L', M', hL, hM, by show Sum.inl (_, L', M'.2.2 (fwA G a) j :: List.map (fwV G) r0, M', _, _) = _; rw [fw_c hM hc.1]; rfl⟩
        · cases e
      · cases e
    · cases e
  | putfield ix =>
    simp only [zsp, zgo] at e ⊢
    split at e
    · next c j b h =>
      try rw [h]
      split at e
      · next v a r0 =>
        split at e
        · next hc => cases e; exact ⟨_, if_pos ⟨fw_al hM hc.1, (fw_k hM hc.1).trans hc.2.1, (fw_fit _ _).trans hc.2.2.1, hc.2.2.2⟩, L', _, hL, fw_put hM hc.1, rfl⟩
        · cases e
      · cases e
    · cases e
  | iaload =>
    simp only [zsp, zgo] at e
    split at e
    · next i a r0 =>
      split at e
      · next hc =>
        split at e
        · next x hx =>
          cases e
          show ∃ r', (if zix M' 20 (fwA G a) i = true ∨ zixS M' (fwA G a) i = true then match M'.2.2 (fwA G a) i.toNatClampNeg with
            | .int x => some (Sum.inl (pc + 1, L', .int x :: r0.map (fwV G), M', uc, us))
            | _ => none else none) = some r' ∧ _
          rcases hc with hc | hc
          · rw [if_pos (Or.inl (fw_ix hM hc)), fw_c hM (ix_al hc), hx]
            exact ⟨_, rfl, L', M', hL, hM, rfl⟩
          · obtain ⟨h1, h2, h3⟩ := fw_ixS hM hc
            subst h1
            have h4 := (hM.2 0 (Nat.zero_le _)).2 i.toNatClampNeg (fun _ => h2)
            rw [if_pos (Or.inr (by rw [fwA_0]; exact h3)), h4, hx]
            exact ⟨_, rfl, L', M', hL, hM, rfl⟩
        · cases e
      · cases e
    · cases e
  | baload =>
    simp only [zsp, zgo] at e
    split at e
    · next i a r0 =>
      split at e
      · next hc =>
        split at e
        · next x hx =>
          cases e
          show ∃ r', (if zix M' 23 (fwA G a) i = true then match M'.2.2 (fwA G a) i.toNatClampNeg with
            | .int x => some (Sum.inl (pc + 1, L', .int x :: r0.map (fwV G), M', uc, us))
            | _ => none else none) = some r' ∧ _
          rw [if_pos (fw_ix hM hc), fw_c hM (ix_al hc), hx]
          exact ⟨_, rfl, L', M', hL, hM, rfl⟩
        · cases e
      · cases e
    · cases e
  | aaload =>
    simp only [zsp, zgo] at e
    split at e
    · next i a r0 =>
      split at e
      · next hc =>
        split at e
        · next b hx =>
          cases e
          show ∃ r', (if zqk (M'.2.1 (fwA G a)).1 = true ∧ zix M' (M'.2.1 (fwA G a)).1 (fwA G a) i = true then match M'.2.2 (fwA G a) i.toNatClampNeg with
            | .ref x => some (Sum.inl (pc + 1, L', .ref x :: r0.map (fwV G), M', uc, us))
            | _ => none else none) = some r' ∧ _
          have ha := ix_al hc.2
          rw [fw_k hM ha, if_pos ⟨hc.1, fw_ix hM hc.2⟩, fw_c hM ha, hx]
          exact ⟨_, rfl, L', M', hL, hM, rfl⟩
        · cases e
      · cases e
    · cases e
  | iastore =>
    simp only [zsp, zgo] at e
    split at e
    · next x i a r0 =>
      split at e
      · next hc => cases e; exact ⟨_, if_pos (fw_ix hM hc), L', _, hL, fw_put hM (ix_al hc) (v := .int x), rfl⟩
      · cases e
    · cases e
  | bastore =>
    simp only [zsp, zgo] at e
    split at e
    · next x i a r0 =>
      split at e
      · next hc => cases e; exact ⟨_, if_pos ⟨fw_ix hM hc.1, hc.2⟩, L', _, hL, fw_put hM (ix_al hc.1) (v := .int x), rfl⟩
      · cases e
    · cases e
  | aastore =>
    simp only [zsp, zgo] at e
    split at e
    · next v i a r0 =>
      split at e
      · next hc => cases e; exact ⟨_, if_pos (by rw [fw_k hM hc.1]; exact ⟨fw_al hM hc.1, hc.2.1, fw_ix hM hc.2.2⟩), L', _, hL, fw_put hM (ix_al hc.2.2) (v := .ref v), rfl⟩
      · cases e
    · cases e
  | arraylength =>
    simp only [zsp, zgo] at e
    split at e
    · next a r0 =>
      split at e
      · next hc =>
        cases e
        have hk : M'.2.1 (fwA G a) = M.2.1 a := by
          rcases hc with hc | hc
          · exact fw_k hM hc.1
          · rw [hc.1]; exact (hM.2 0 (Nat.zero_le _)).1
        refine ⟨_, if_pos ?_, L', M', hL, hM, by show Sum.inl (_, L', Value.int (Int32.ofNat (M'.2.1 (fwA G a)).2) :: List.map (fwV G) r0, M', _, _) = _; rw [hk]; rfl⟩
        rw [hk]
        rcases hc with hc | hc
        · exact Or.inl ⟨fw_al hM hc.1, hc.2⟩
        · exact Or.inr ⟨by rw [hc.1]; exact fwA_0, hc.2⟩
      · cases e
    · cases e
  | newarray ty =>
    simp only [zsp, zgo] at e
    split at e
    · next n r0 =>
      split at e
      · next hc => cases e; exact ⟨_, if_pos hc, L', _, hL, fw_new hM (fun _ => fw_def _), by show Sum.inl (_, L', Value.ref (M'.1 + 1) :: List.map (fwV G) r0, _, _, _) = _; rw [fw_nx hM]; rfl⟩
      · cases e
    · cases e
  | anewarray ix =>
    simp only [zsp, zgo] at e ⊢
    split at e
    · next c j b h =>
      try rw [h]
      split at e
      · next n r0 =>
        split at e
        · next hc => cases e; exact ⟨_, if_pos hc, L', _, hL, fw_new hM (fun _ => rfl), by show Sum.inl (_, L', Value.ref (M'.1 + 1) :: List.map (fwV G) r0, _, _, _) = _; rw [fw_nx hM]; rfl⟩
        · cases e
      · cases e
    · next c j b h =>
      try rw [h]
      split at e
      · next n r0 =>
        split at e
        · next hc => cases e; exact ⟨_, if_pos hc, L', _, hL, fw_new hM (fun _ => rfl), by show Sum.inl (_, L', Value.ref (M'.1 + 1) :: List.map (fwV G) r0, _, _, _) = _; rw [fw_nx hM]; rfl⟩
        · cases e
      · cases e
    · cases e
  | multianewarray ix d =>
    simp only [zsp, zgo] at e ⊢
    split at e
    · next k j b h =>
      try rw [h]
      split at e
      · next ns r0 hp =>
        show ∃ r', (match zpopi d [] (st.map (fwV G)) with
          | some (ns, r) => if 2 ≤ d ∧ zdok ns k = true ∧ uc + zmc ns ≤ zk_mc K ∧ us + zms ns ≤ zk_ms K then some (Sum.inl (pc + 4, L', .ref (M'.1 + 1) :: r, (zmk ns k M').1, uc + zmc ns, us + zms ns)) else none
          | none => none) = some r' ∧ _
        rw [fw_popi, hp]
        split at e
        · next hc => cases e; exact ⟨_, if_pos hc, L', _, hL, (fw_mk ns k M M' hM).1.1, by show Sum.inl (_, L', Value.ref (M'.1 + 1) :: List.map (fwV G) r0, _, _, _) = _; rw [fw_nx hM]; rfl⟩
        · cases e
      · cases e
    · cases e
  | new ix =>
    simp only [zsp, zgo, zend] at e ⊢
    split at e
    · next c j b h =>
      try rw [h]
      show ∃ r', (if c < 11 then (if uc + 1 ≤ zk_mc K ∧ us + zN c ≤ zk_ms K then some (Sum.inl (pc + 3, L', .ref (M'.1 + 1) :: st.map (fwV G), znew M' (c, zN c) (fun j => defaultValue (zty c j)), uc + 1, us + zN c)) else none)
        else match zlk (zk_ts K) pc with
        | some (e, _) => if e = c ∧ zk_hs K = [] ∧ 6 ≤ zk_rf K ∧ zct (st.map (fwV G)) + 82 ≤ zk_rl K ∧ uc + 1 ≤ zk_mc K ∧ us + 6 ≤ zk_ms K then some (Sum.inr (Sum.inr e, M')) else none
        | none => none) = some r' ∧ _
      split at e
      · next h11 =>
        rw [if_pos h11]
        split at e
        · next hc => cases e; exact ⟨_, if_pos hc, L', _, hL, fw_new hM (fun _ => fw_defv _), by rw [fw_nx hM]; rfl⟩
        · cases e
      · next h11 =>
        rw [if_neg h11, fw_ct]
        split at e
        · next ee b2 ht =>
          try rw [ht]
          split at e
          · next hc => cases e; exact ⟨_, if_pos hc, M', hM, rfl⟩
          · cases e
        · cases e
    · cases e
  | ireturn =>
    simp only [zsp, zend] at e
    split at e
    · next v =>
      split at e
      · next ty ht =>
        split at e
        · next hc =>
          cases e
          refine ⟨Sum.inr (Sum.inl (some (Value.int v)), M'), ?_, M', hM, rfl⟩
          show (match zk_rt K with
            | some ty => if narrow ty (Value.int v) = Value.int v ∧ uc ≤ zk_mc K ∧ us ≤ zk_ms K then some (Sum.inr (Sum.inl (some (Value.int v)), M')) else none
            | none => none) = _
          try rw [ht]
          exact if_pos hc
        · cases e
      · cases e
    · cases e
  | lreturn =>
    simp only [zsp, zend] at e
    split at e
    · next v =>
      split at e
      · next hc => cases e; exact ⟨_, if_pos hc, M', hM, rfl⟩
      · cases e
    · cases e
  | dreturn =>
    simp only [zsp, zend] at e
    split at e
    · next v =>
      split at e
      · next hc => cases e; exact ⟨_, if_pos hc, M', hM, rfl⟩
      · cases e
    · cases e
  | areturn =>
    simp only [zsp, zend] at e
    split at e
    · next v =>
      show ∃ r', (if uc ≤ zk_mc K ∧ us ≤ zk_ms K then match zk_rt K with
        | some (.object _) => some (Sum.inr (Sum.inl (some (Value.ref (fwA G v))), M'))
        | some (.array _) => some (Sum.inr (Sum.inl (some (Value.ref (fwA G v))), M'))
        | _ => none
        else none) = some r' ∧ _
      split at e
      · next hc =>
        rw [if_pos hc]
        split at e
        · next z ht => cases e; (try rw [ht]); exact ⟨_, rfl, M', hM, rfl⟩
        · next z ht => cases e; (try rw [ht]); exact ⟨_, rfl, M', hM, rfl⟩
        · cases e
      · cases e
    · cases e
  | return_ =>
    simp only [zsp, zend] at e
    split at e
    · split at e
      · next hc => cases e; exact ⟨_, if_pos hc, M', hM, rfl⟩
      · cases e
    · cases e
  | _ => first | (simp only [zsp] at e; cases e; done) | (simp only [zsp, zgo] at e; split at e <;> first | (cases e; done) | (cases e; exact ⟨_, rfl, L', M', hL, hM, rfl⟩))
end ZFW
