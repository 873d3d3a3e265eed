/-! RUNS OF THE PURE MACHINE, by what they come to -/
def zwp (K : zI) (σ : zS) (Q : zO → zM → Prop) : Prop := ∃ (F N : Nat) (r : zO × zM), zrun (zcall F) K N σ = some r ∧ Q r.1 r.2
def zcl (x : Nat) (vs : List Value) (M : zM) (Q : zO → zM → Prop) : Prop := ∃ (F : Nat) (r : zO × zM), zcall F x vs M = some r ∧ Q r.1 r.2
def zFle (f g : zF) : Prop := ∀ (x : Nat) (vs : List Value) (M : zM) (r : zO × zM), f x vs M = some r → g x vs M = some r
theorem zinv_mono {f g : zF} (h : zFle f g) {K : zI} {x y pc : Nat} {L : zL} {st : List Value} {M : zM} {uc us : Nat} {r : zS ⊕ (zO × zM)} (e : zinv f K x y pc L st M uc us = some r) : zinv g K x y pc L st M uc us = some r := by
  unfold zinv at e ⊢
  split at e
  · cases e
  · next J hJ =>
    try simp only [hJ]
    split at e
    · cases e
    · next args r0 hp =>
      try simp only [hp]
      split at e
      · next hc =>
        try rw [if_pos hc]
        split at e
        · cases e
        · next v M' hf => rw [h _ _ _ _ hf]; exact e
        · next ee M' hf => rw [h _ _ _ _ hf]; exact e
      · cases e
theorem zst_mono {f g : zF} (h : zFle f g) {K : zI} {i : Instr} {σ : zS} {r : zS ⊕ (zO × zM)} (e : zst f K i σ = some r) : zst g K i σ = some r := by
  unfold zst at e ⊢
  split at e
  · split at e
    · next hp =>
      try simp only [hp]
      split at e
      · next hc => (try rw [if_pos hc]); exact zinv_mono h e
      · cases e
    · cases e
  · split at e
    · next hp =>
      try simp only [hp]
      split at e
      · next hc => (try rw [if_pos hc]); exact zinv_mono h e
      · cases e
    · next hp => (try simp only [hp]); exact e
    · next hp => (try simp only [hp]); exact e
    · cases e
  · split at e
    · next hp =>
      try simp only [hp]
      split at e
      · next hc => (try rw [if_pos hc]); exact zinv_mono h e
      · cases e
    · next hp => (try simp only [hp]); exact e
    · cases e
  · exact e
theorem zrun_mono {f g : zF} (h : zFle f g) {K : zI} {r : zO × zM} : ∀ (N N' : Nat) (σ : zS), N ≤ N' → zrun f K N σ = some r → zrun g K N' σ = some r
  | 0, _, _, _, e => by cases e
  | N + 1, 0, _, hN, _ => by omega
  | N + 1, N' + 1, σ, hN, e => by
    simp only [zrun] at e ⊢
    split at e
    · cases e
    · next il hil =>
      try simp only [hil]
      split at e
      · cases e
      · next σ' hs => rw [zst_mono h hs]; exact zrun_mono h N N' σ' (by omega) e
      · next r' hs => rw [zst_mono h hs]; exact e
theorem zcall_mono : ∀ (F F' : Nat), F ≤ F' → zFle (zcall F) (zcall F')
  | 0, _, _, _, _, _, _, e => by cases e
  | F + 1, 0, h, _, _, _, _, _ => by omega
  | F + 1, F' + 1, h, x, vs, M, r, e => by
    simp only [zcall] at e ⊢
    split at e
    · cases e
    · next K hK =>
      try simp only [hK]
      split at e
      · next hl =>
        try rw [if_pos hl]
        exact zrun_mono (zcall_mono F F' (by omega)) F F' _ (by omega) e
      · cases e
theorem zcl_mono {x : Nat} {vs : List Value} {M : zM} {Q Q' : zO → zM → Prop} (h : zcl x vs M Q) (hq : ∀ o M', Q o M' → Q' o M') : zcl x vs M Q' := by
  obtain ⟨F, r, h1, h2⟩ := h
  exact ⟨F, r, h1, hq _ _ h2⟩
/-- a call is its body's run -/
theorem zcl_body {x : Nat} {K : zI} (hK : zmt[x]? = some K) {vs : List Value} (hl : (zsl vs).length ≤ zk_ml K) {M : zM} {Q : zO → zM → Prop} : zcl x vs M Q ↔ zwp K (0, zent (zk_ml K) vs, [], M, 0, 0) Q := by
  constructor
  · rintro ⟨F, r, h1, h2⟩
    cases F with
    | zero => cases h1
    | succ F =>
      simp only [zcall, hK, if_pos hl] at h1
      exact ⟨F, F, r, h1, h2⟩
  · rintro ⟨F, N, r, h1, h2⟩
    refine ⟨max F N + 1, r, ?_, h2⟩
    simp only [zcall, hK, if_pos hl]
    exact zrun_mono (zcall_mono F (max F N) (Nat.le_max_left _ _)) N (max F N) _ (Nat.le_max_right _ _) h1
/-- one step that calls nothing -/
theorem zwp_step {K : zI} {pc : Nat} {L : zL} {st : List Value} {M : zM} {uc us : Nat} {Q : zO → zM → Prop} {i : Instr} {len : Nat} {σ : zS} (hf : zlk (zk_cd K) pc = some (i, len)) (hs : ∀ call, zst call K i (pc, L, st, M, uc, us) = some (.inl σ)) : zwp K (pc, L, st, M, uc, us) Q ↔ zwp K σ Q := by
  constructor
  · rintro ⟨F, N, r, h1, h2⟩
    cases N with
    | zero => cases h1
    | succ N =>
      simp only [zrun, hf, hs] at h1
      exact ⟨F, N, r, h1, h2⟩
  · rintro ⟨F, N, r, h1, h2⟩
    refine ⟨F, N + 1, r, ?_, h2⟩
    simp only [zrun, hf, hs]
    exact h1
theorem zwp_none {K : zI} {pc : Nat} {L : zL} {st : List Value} {M : zM} {uc us : Nat} {Q : zO → zM → Prop} {i : Instr} {len : Nat} (hf : zlk (zk_cd K) pc = some (i, len)) (hs : ∀ call, zst call K i (pc, L, st, M, uc, us) = none) : zwp K (pc, L, st, M, uc, us) Q ↔ False := by
  constructor
  · rintro ⟨F, N, r, h1, h2⟩
    cases N with
    | zero => cases h1
    | succ N => simp [zrun, hf, hs] at h1
  · intro h
    cases h
theorem zwp_done {K : zI} {pc : Nat} {L : zL} {st : List Value} {M : zM} {uc us : Nat} {Q : zO → zM → Prop} {i : Instr} {len : Nat} {o : zO} {M' : zM} (hf : zlk (zk_cd K) pc = some (i, len)) (hs : ∀ call, zst call K i (pc, L, st, M, uc, us) = some (.inr (o, M'))) : zwp K (pc, L, st, M, uc, us) Q ↔ Q o M' := by
  constructor
  · rintro ⟨F, N, r, h1, h2⟩
    cases N with
    | zero => cases h1
    | succ N =>
      simp only [zrun, hf, hs, Option.some.injEq] at h1
      rw [← h1] at h2
      exact h2
  · intro h
    refine ⟨0, 1, (o, M'), ?_, h⟩
    simp only [zrun, hf, hs]
/-- one step, by cases of a condition -/
theorem zwp_if {K : zI} {pc : Nat} {L : zL} {st : List Value} {M : zM} {uc us : Nat} {Q : zO → zM → Prop} {i : Instr} {len : Nat} {c : Prop} [Decidable c] {σ1 σ2 : zS} (hf : zlk (zk_cd K) pc = some (i, len)) (hs : ∀ call, zst call K i (pc, L, st, M, uc, us) = if c then some (.inl σ1) else some (.inl σ2)) : zwp K (pc, L, st, M, uc, us) Q ↔ if c then zwp K σ1 Q else zwp K σ2 Q := by
  by_cases h : c
  · rw [if_pos h]
    exact zwp_step hf (fun call => by rw [hs, if_pos h])
  · rw [if_neg h]
    exact zwp_step hf (fun call => by rw [hs, if_neg h])
theorem zwp_req {K : zI} {pc : Nat} {L : zL} {st : List Value} {M : zM} {uc us : Nat} {Q : zO → zM → Prop} {i : Instr} {len : Nat} {c : Prop} [Decidable c] {σ1 : zS} (hf : zlk (zk_cd K) pc = some (i, len)) (hs : ∀ call, zst call K i (pc, L, st, M, uc, us) = if c then some (.inl σ1) else none) : zwp K (pc, L, st, M, uc, us) Q ↔ c ∧ zwp K σ1 Q := by
  by_cases h : c
  · rw [zwp_step (σ := σ1) hf (fun call => by rw [hs, if_pos h])]
    exact ⟨fun z => ⟨h, z⟩, fun z => z.2⟩
  · rw [zwp_none hf (fun call => by rw [hs, if_neg h])]
    exact ⟨fun z => z.elim, fun z => absurd z.1 h⟩
theorem zwp_reqd {K : zI} {pc : Nat} {L : zL} {st : List Value} {M : zM} {uc us : Nat} {Q : zO → zM → Prop} {i : Instr} {len : Nat} {c : Prop} [Decidable c] {o : zO} {M' : zM} (hf : zlk (zk_cd K) pc = some (i, len)) (hs : ∀ call, zst call K i (pc, L, st, M, uc, us) = if c then some (.inr (o, M')) else none) : zwp K (pc, L, st, M, uc, us) Q ↔ c ∧ Q o M' := by
  by_cases h : c
  · rw [zwp_done (o := o) (M' := M') hf (fun call => by rw [hs, if_pos h])]
    exact ⟨fun z => ⟨h, z⟩, fun z => z.2⟩
  · rw [zwp_none hf (fun call => by rw [hs, if_neg h])]
    exact ⟨fun z => z.elim, fun z => absurd z.1 h⟩
/-- where a call's outcome is an exception: it goes to a handler, or out -/
def zout (K : zI) (e pc : Nat) (L : zL) (M : zM) (uc us : Nat) (Q : zO → zM → Prop) : Prop := match zcat K e pc L M uc us with
  | none => False
  | some (.inl σ) => zwp K σ Q
  | some (.inr r) => Q r.1 r.2
def zback (K : zI) (pc : Nat) (L : zL) (r : List Value) (uc us : Nat) (Q : zO → zM → Prop) (o : zO) (M' : zM) : Prop := match o with
  | .inl v => zwp K (pc + 3, L, v.toList ++ r, M', uc, us) Q
  | .inr e => zout K e pc L M' uc us Q
/-- a call of a method of the table -/
theorem zwp_call {K J : zI} {pc : Nat} {L : zL} {st args r : List Value} {M : zM} {uc us : Nat} {Q : zO → zM → Prop} {i : Instr} {len x y : Nat} (hf : zlk (zk_cd K) pc = some (i, len)) (hs : ∀ call, zst call K i (pc, L, st, M, uc, us) = zinv call K x y pc L st M uc us) (hJ : zmt[x]? = some J) (hp : zpop (zk_na J + (if y = 1 ∨ y = 4 ∨ y = 6 then 0 else 1)) [] st = some (args, r))
    (hc : zk_rf J + 1 ≤ zk_rf K ∧ 8 + (zk_ml J + 11) + zk_rl J ≤ zk_rl K ∧ zct r ≤ 8) : zwp K (pc, L, st, M, uc, us) Q ↔ (uc + zk_mc J ≤ zk_mc K ∧ us + zk_ms J ≤ zk_ms K ∧ zrcv J y args M = true) ∧ zcl x args M (zback K pc L r (uc + zk_mc J) (us + zk_ms J) Q) := by
  constructor
  · rintro ⟨F, N, z, h1, h2⟩
    cases N with
    | zero => cases h1
    | succ N =>
      simp only [zrun, hf, hs] at h1
      split at h1
      · cases h1
      · next σ' hz =>
        unfold zinv at hz
        simp only [hJ, hp] at hz
        split at hz
        · next hcc =>
          refine ⟨hcc.2.2.2, ?_⟩
          split at hz
          · cases hz
          · next v M' hcl =>
            cases hz
            exact ⟨F, _, hcl, F, N, z, h1, h2⟩
          · next ee M' hcl =>
            refine ⟨F, _, hcl, ?_⟩
            show zout K ee pc L M' _ _ Q
            unfold zout
            rw [hz]
            exact ⟨F, N, z, h1, h2⟩
        · cases hz
      · next r' hz =>
        cases h1
        unfold zinv at hz
        simp only [hJ, hp] at hz
        split at hz
        · next hcc =>
          refine ⟨hcc.2.2.2, ?_⟩
          split at hz
          · cases hz
          · cases hz
          · next ee M' hcl =>
            refine ⟨F, _, hcl, ?_⟩
            show zout K ee pc L M' _ _ Q
            unfold zout
            rw [hz]
            exact h2
        · cases hz
  · rintro ⟨hcc, F, ⟨o, M'⟩, hcl, hb⟩
    have hall : zk_rf J + 1 ≤ zk_rf K ∧ 8 + (zk_ml J + 11) + zk_rl J ≤ zk_rl K ∧ zct r ≤ 8 ∧ uc + zk_mc J ≤ zk_mc K ∧ us + zk_ms J ≤ zk_ms K ∧ zrcv J y args M = true := ⟨hc.1, hc.2.1, hc.2.2, hcc⟩
    cases o with
    | inl v =>
      obtain ⟨F2, N, z, h1, h2⟩ := hb
      refine ⟨max F F2, N + 1, z, ?_, h2⟩
      have h3 := zcall_mono F (max F F2) (Nat.le_max_left _ _) _ _ _ _ hcl
      simp only [zrun, hf, hs, zinv, hJ, hp, if_pos hall, h3, zgo]
      exact zrun_mono (zcall_mono F2 (max F F2) (Nat.le_max_right _ _)) N N _ (Nat.le_refl _) h1
    | inr ee =>
      have hb : zout K ee pc L M' (uc + zk_mc J) (us + zk_ms J) Q := hb
      unfold zout at hb
      split at hb
      · cases hb
      · next σ hz =>
        obtain ⟨F2, N, z, h1, h2⟩ := hb
        refine ⟨max F F2, N + 1, z, ?_, h2⟩
        have h3 := zcall_mono F (max F F2) (Nat.le_max_left _ _) _ _ _ _ hcl
        simp only [zrun, hf, hs, zinv, hJ, hp, if_pos hall, h3, hz]
        exact zrun_mono (zcall_mono F2 (max F F2) (Nat.le_max_right _ _)) N N _ (Nat.le_refl _) h1
      · next z hz =>
        refine ⟨F, 1, z, ?_, hb⟩
        simp only [zrun, hf, hs, zinv, hJ, hp, if_pos hall, hcl, hz]
/-- what a call comes to is one thing -/
theorem zcl_det {x : Nat} {vs : List Value} {M : zM} {o : zO} {M' : zM} (h : zcl x vs M (fun o2 M2 => o2 = o ∧ M2 = M')) {Q : zO → zM → Prop} : zcl x vs M Q ↔ Q o M' := by
  obtain ⟨F, r, h1, h2, h3⟩ := h
  constructor
  · rintro ⟨F2, r2, g1, g2⟩
    have e1 := zcall_mono F (max F F2) (Nat.le_max_left _ _) _ _ _ _ h1
    have e2 := zcall_mono F2 (max F F2) (Nat.le_max_right _ _) _ _ _ _ g1
    rw [e1] at e2
    cases e2
    rw [h2, h3] at g2
    exact g2
  · intro hq
    exact ⟨F, r, h1, by rw [h2, h3]; exact hq⟩
