/-! catching, throwing, returning; whole bodies -/
theorem zhs_all : zmt.all (fun K => (zk_hs K).isEmpty) = true := by decide +kernel
theorem zhs_nil {K : zI} (h : K ∈ zmt) : zk_hs K = [] := List.isEmpty_iff.mp (List.all_eq_true.mp zhs_all K h)
theorem zca {e : Nat} (h : 12 ≤ e ∧ e < 15) : Cond.castable (zcn e) (zcn e) ∈ lw_tbl := by
  have h1 : e = 12 ∨ e = 13 ∨ e = 14 := by omega
  rcases h1 with h1 | h1 | h1 <;> subst h1
  · exact zca_12
  · exact zca_13
  · exact zca_14
theorem zei {e : Nat} (h : 12 ≤ e ∧ e < 15) : Cond.initialized (zcn e) ∈ zG := by
  have h1 : e = 12 ∨ e = 13 ∨ e = 14 := by omega
  rcases h1 with h1 | h1 | h1 <;> subst h1
  · exact zei_12
  · exact zei_13
  · exact zei_14
theorem zdecs {K : zI} (hK : K ∈ zmt) {pc : Nat} {il : Instr × Nat} (h : zlk (zk_cd K) pc = some il) : decode (zk_by K) pc = .ok (il.1, il.2) ∧ (zlen il.1 ≠ 0 → zlen il.1 = il.2) := by
  have h1 := zmtd K hK
  unfold zcdchk zchkE at h1
  have h2 := List.all_eq_true.mp h1 _ (zlk_mem h)
  simp only [Bool.and_eq_true, decide_eq_true_eq, Bool.or_eq_true, beq_iff_eq] at h2
  refine ⟨h2.1, fun hne => ?_⟩
  rcases h2.2 with q | q
  · exact absurd q hne
  · exact q
section ZBODY
variable {p : Program} {l : Launch} {e : Env} {R : Room} {s : State} {m : MethodId} {args : Array Value} {below : List Frame} {meth : Method} {c : Code} {H : Heap} {locs : List Loc} {Q : State → Prop}
variable {D : va_G} {dA : Nat → ClassId} {A : Nat → Prop} {K : zI} {φ : Nat → Nat} {L : zL} {st : List Value} {M : zM} {ls : Array Slot} {pc uc us : Nat}
theorem zsp_grp {i : Instr} {σ : zS} (h : zsp K i pc L st M uc us = some (.inl σ)) : zgr_a i = true ∨ zgr_b i = true ∨ zgr_c i = true ∨ zgr_d i = true ∨ zgr_e i = true ∨ zgr_f i = true ∨ zgr_g i = true ∨ (zgr_n i = true ∨ zgr_m i = true) := by
  cases i <;> first
    | exact Or.inl rfl
    | exact Or.inr (Or.inl rfl)
    | exact Or.inr (Or.inr (Or.inl rfl))
    | exact Or.inr (Or.inr (Or.inr (Or.inl rfl)))
    | exact Or.inr (Or.inr (Or.inr (Or.inr (Or.inl rfl))))
    | exact Or.inr (Or.inr (Or.inr (Or.inr (Or.inr (Or.inl rfl)))))
    | exact Or.inr (Or.inr (Or.inr (Or.inr (Or.inr (Or.inr (Or.inl rfl))))))
    | exact Or.inr (Or.inr (Or.inr (Or.inr (Or.inr (Or.inr (Or.inr (Or.inl rfl)))))))
    | exact Or.inr (Or.inr (Or.inr (Or.inr (Or.inr (Or.inr (Or.inr (Or.inr rfl)))))))
    | (exfalso; simp only [zsp] at h; cases h; done)
    | (exfalso; simp only [zsp] at h; repeat' split at h <;> first | cases h | skip)
theorem z_sp (hX : zFix p R s m args meth c D dA A K) (hat : zAt D dA A s (zk_ml K) φ L st M H locs ls) {i : Instr} {len : Nat} (hd : decode (zk_by K) pc = .ok (i, len)) (hlen : zlen i ≠ 0 → zlen i = len) {σ : zS} (h : zsp K i pc L st M uc us = some (.inl σ))
    (kk : ∀ (φ' : Nat → Nat) (H' : Heap) (locs' : List Loc) (ls' : Array Slot), (∀ a, a ≤ M.1 → φ' a = φ a) → zle M σ.2.2.2.1 → zAt D dA A s (zk_ml K) φ' σ.2.1 σ.2.2.1 σ.2.2.2.1 H' locs' ls' →
      W p l e R s m args below meth c H' locs' σ.2.2.2.2.1 σ.2.2.2.2.2 Q (F0 m σ.1 ls' (σ.2.2.1.map (zad φ')))) :
    W p l e R s m args below meth c H locs uc us Q (F0 m pc ls (st.map (zad φ))) := by
  rcases zsp_grp h with g | g | g | g | g | g | g | g | g
  · exact z_sp_a hX hat hd hlen g h kk
  · exact z_sp_b hX hat hd hlen g h kk
  · exact z_sp_c hX hat hd hlen g h kk
  · exact z_sp_d hX hat hd hlen g h kk
  · exact z_sp_e hX hat hd hlen g h kk
  · exact z_sp_f hX hat hd hlen g h kk
  · exact z_sp_g hX hat hd hlen g h kk
  · exact z_sp_n hX hat hd hlen g h kk
  · exact z_sp_m hX hat hd hlen g h kk
/-- the world where a run ends -/
def zOut (D : va_G) (dA : Nat → ClassId) (A : Nat → Prop) (s : State) (φ φ' : Nat → Nat) (M M' : zM) (H : Heap) (locs : List Loc) : Prop :=
  (∀ a, a ≤ M.1 → φ' a = φ a) ∧ zle M M' ∧ va_P D zC (zW dA φ' M') H ∧ va_D A (zW dA φ' M') ∧ zwf M' ∧ va_S A s.heap H locs
theorem zOut.pre {φ' φ'' : Nat → Nat} {M' M'' : zM} (h1 : ∀ a, a ≤ M.1 → φ' a = φ a) (h2 : zle M M') (h : zOut D dA A s φ' φ'' M' M'' H locs) : zOut D dA A s φ φ'' M M'' H locs :=
  ⟨fun a ha => (h.1 a (Nat.le_trans ha h2.1)).trans (h1 a ha), h2.trans h.2.1, h.2.2⟩
theorem zAt.out (hat : zAt D dA A s (zk_ml K) φ L st M H locs ls) : zOut D dA A s φ φ M M H locs := ⟨fun _ _ => rfl, zle.rfl M, hat.P, hat.Dd, hat.wf, hat.S⟩
set_option maxHeartbeats 4000000 in
/-- a call in a body: it goes on behind it, or at a handler, or the exception leaves -/
theorem z_inv (hX : zFix p R s m args meth c D dA A K) (hKm : K ∈ zmt) {call : zF} (hcall : ∀ (x : Nat) (J : zI) (vs : List Value) (M : zM) (o : zO) (M' : zM), call x vs M = some (o, M') → zmt[x]? = some J → zmchk J = true → zCon l J vs M o M' ∧ ∀ ee, o = .inr ee → 12 ≤ ee ∧ ee < 15)
    (hat : zAt D dA A s (zk_ml K) φ L st M H locs ls) {ix ix1 x y q : Nat} (hp : zpool (zk_own K) ix1 = some (1, x, y, q)) (hm : ix1 % 100000 = ix) (hd : decode (zk_by K) pc = .ok (zcop y ix, 3)) {res : zS ⊕ (zO × zM)} (h : zinv call K x y pc L st M uc us = some res)
    (kk : ∀ (σ : zS), res = .inl σ → ∀ (φ' : Nat → Nat) (H' : Heap) (locs' : List Loc) (ls' : Array Slot), (∀ a, a ≤ M.1 → φ' a = φ a) → zle M σ.2.2.2.1 → zAt D dA A s (zk_ml K) φ' σ.2.1 σ.2.2.1 σ.2.2.2.1 H' locs' ls' →
      W p l e R s m args below meth c H' locs' σ.2.2.2.2.1 σ.2.2.2.2.2 Q (F0 m σ.1 ls' (σ.2.2.1.map (zad φ'))))
    (kx : ∀ (ee : Nat) (M' : zM), res = .inr (.inr ee, M') → zk_hs K = [] → (12 ≤ ee ∧ ee < 15) → ∀ (φ' : Nat → Nat) (H' : Heap) (locs' : List Loc) (uc' us' : Nat) (rest : List Value) (q : Addr) (ce : Cell), zOut D dA A s φ φ' M M' H' locs' → uc' ≤ zk_mc K → us' ≤ zk_ms K → H'[q]? = some ce → ce.vm = .none → s.vm.findClass (zcn ee) = some ce.cls →
      vx_W p l e R s m args below meth c H' locs' uc' us' Q (F0 m pc ls rest) q) :
    W p l e R s m args below meth c H locs uc us Q (F0 m pc ls (st.map (zad φ))) := by
  unfold zinv at h
  split at h
  · cases h
  · next J hJ =>
    split at h
    · cases h
    · next vs r hpop =>
      obtain ⟨pre, hst, hlen, hvs⟩ := zpop_spec _ _ _ _ _ hpop
      rw [List.append_nil] at hvs
      have hpre : pre = vs.reverse := by rw [hvs, List.reverse_reverse]
      subst hpre
      subst hst
      rw [List.length_reverse] at hlen
      split at h
      · next hc =>
        obtain ⟨h1, h2, h3, h4, h5, h6⟩ := hc
        have hrk : zSk M.1 r := fun v hv => hat.sk v (List.mem_append_right _ hv)
        split at h
        · cases h
        · next v M' hcl =>
          cases h
          obtain ⟨con, -⟩ := hcall x J vs M _ M' hcl hJ (zp_callee hp hJ)
          refine zv_call (z_run hX hat hp hm hJ hd hlen h1 h2 h3 h4 h5 h6 con) hat.S (zsub hX.2.2.2.2.2.2.1 hat) (fun w φ' H1 locs1 ho hf hS => ?_) (fun ee φ' H1 locs1 q ce ho => by cases ho)
          cases ho
          obtain ⟨g1, g2⟩ := zAt.call hX hat hrk hf hS
          rw [g2]
          exact kk _ rfl φ' H1 locs1 ls hf.1 hf.2.1 g1
        · next ee M' hcl =>
          obtain ⟨con, hee⟩ := hcall x J vs M _ M' hcl hJ (zp_callee hp hJ)
          have hee := hee ee rfl
          refine zv_call (z_run hX hat hp hm hJ hd hlen h1 h2 h3 h4 h5 h6 con) hat.S (zsub hX.2.2.2.2.2.2.1 hat) (fun w φ' H1 locs1 ho => by cases ho) (fun e' φ' H1 locs1 q ce ho he hf hS hce hcv hcl' => ?_)
          cases ho
          obtain ⟨g1, -⟩ := zAt.call hX hat hrk hf hS
          by_cases hn : zk_hs K = []
          · unfold zcat at h
            rw [if_pos hn] at h
            split at h
            · next hb =>
              cases h
              exact kx ee M' rfl hn hee φ' H1 locs1 _ _ _ q ce ⟨hf.1, hf.2.1, g1.P, g1.Dd, g1.wf, hS⟩ hb.1 hb.2 hce hcv hcl'
            · cases h
          · exact absurd (zhs_nil hKm) hn
      · cases h
/-- a whole body, from any of its places -/
theorem z_body (hX : zFix p R s m args meth c D dA A K) (hKm : K ∈ zmt) {call : zF} (hcall : ∀ (x : Nat) (J : zI) (vs : List Value) (M : zM) (o : zO) (M' : zM), call x vs M = some (o, M') → zmt[x]? = some J → zmchk J = true → zCon l J vs M o M' ∧ ∀ ee, o = .inr ee → 12 ≤ ee ∧ ee < 15) {o : zO} {Mf : zM} :
    ∀ (N : Nat) (σ : zS) (φ : Nat → Nat) (H : Heap) (locs : List Loc) (ls : Array Slot), zAt D dA A s (zk_ml K) φ σ.2.1 σ.2.2.1 σ.2.2.2.1 H locs ls → zrun call K N σ = some (o, Mf) →
    (∀ (σ' : zS) (φ' : Nat → Nat) (H' : Heap) (locs' : List Loc) (ls' : Array Slot) (i : Instr) (len : Nat), (∀ a, a ≤ σ.2.2.2.1.1 → φ' a = φ a) → zle σ.2.2.2.1 σ'.2.2.2.1 → zAt D dA A s (zk_ml K) φ' σ'.2.1 σ'.2.2.1 σ'.2.2.2.1 H' locs' ls' → decode (zk_by K) σ'.1 = .ok (i, len) → (zlen i ≠ 0 → zlen i = len) →
      zsp K i σ'.1 σ'.2.1 σ'.2.2.1 σ'.2.2.2.1 σ'.2.2.2.2.1 σ'.2.2.2.2.2 = some (.inr (o, Mf)) → W p l e R s m args below meth c H' locs' σ'.2.2.2.2.1 σ'.2.2.2.2.2 Q (F0 m σ'.1 ls' (σ'.2.2.1.map (zad φ')))) →
    (∀ (ee : Nat), o = .inr ee → zk_hs K = [] → (12 ≤ ee ∧ ee < 15) → ∀ (φ' : Nat → Nat) (H' : Heap) (locs' : List Loc) (ls' : Array Slot) (pc' uc' us' : Nat) (rest : List Value) (q : Addr) (ce : Cell), zOut D dA A s φ φ' σ.2.2.2.1 Mf H' locs' → uc' ≤ zk_mc K → us' ≤ zk_ms K → H'[q]? = some ce → ce.vm = .none → s.vm.findClass (zcn ee) = some ce.cls →
      vx_W p l e R s m args below meth c H' locs' uc' us' Q (F0 m pc' ls' rest) q) →
    W p l e R s m args below meth c H locs σ.2.2.2.2.1 σ.2.2.2.2.2 Q (F0 m σ.1 ls (σ.2.2.1.map (zad φ))) := by
  intro N
  induction N with
  | zero => intro σ φ H locs ls _ h; cases h
  | succ N ih =>
    intro σ φ H locs ls hat h kend kunc
    obtain ⟨pc, L, st, M, uc, us⟩ := σ
    dsimp only at hat h kend kunc ⊢
    simp only [zrun] at h
    split at h
    · cases h
    · next il hil =>
      obtain ⟨i, len⟩ := il
      obtain ⟨hd, hlen⟩ := zdecs hKm hil
      dsimp only at hd hlen h
      have go : ∀ σ' : zS, zrun call K N σ' = some (o, Mf) → ∀ (φ' : Nat → Nat) (H' : Heap) (locs' : List Loc) (ls' : Array Slot), (∀ a, a ≤ M.1 → φ' a = φ a) → zle M σ'.2.2.2.1 → zAt D dA A s (zk_ml K) φ' σ'.2.1 σ'.2.2.1 σ'.2.2.2.1 H' locs' ls' →
          W p l e R s m args below meth c H' locs' σ'.2.2.2.2.1 σ'.2.2.2.2.2 Q (F0 m σ'.1 ls' (σ'.2.2.1.map (zad φ'))) := fun σ' hr φ' H' locs' ls' g1 g2 g3 =>
        ih σ' φ' H' locs' ls' g3 hr (fun σ'' φ'' H'' locs'' ls'' i' len' k1 k2 => kend σ'' φ'' H'' locs'' ls'' i' len' (fun a ha => (k1 a (Nat.le_trans ha g2.1)).trans (g1 a ha)) (g2.trans k2))
          (fun ee ho hn he φ'' H'' locs'' ls'' pc'' uc'' us'' rest q ce k1 => kunc ee ho hn he φ'' H'' locs'' ls'' pc'' uc'' us'' rest q ce (zOut.pre g1 g2 k1))
      split at h
      · cases h
      · next σ' hs =>
        unfold zst at hs
        split at hs
        · next ix =>
          have hd3 : 3 = len := hlen (Nat.succ_ne_zero 2)
          subst hd3
          split at hs
          · next x y q hp =>
            split at hs
            · next hy =>
              obtain ⟨hy, hix⟩ := hy
              refine z_inv (ix := ix) hX hKm hcall hat hp (by omega) (by rw [hd]; unfold zcop; rw [if_pos hy]) hs (fun σ1 e1 => ?_) (fun ee M' e1 => by cases e1)
              cases e1
              exact go σ' h
            · cases hs
          · cases hs
        · next ix =>
          have hd3 : 3 = len := hlen (Nat.succ_ne_zero 2)
          subst hd3
          split at hs
          · next x y q hp =>
            split at hs
            · next hy =>
              obtain ⟨hy, hix⟩ := hy
              refine z_inv (ix := ix) hX hKm hcall hat hp (by omega) (by rw [hd]; unfold zcop; rw [if_neg (by omega), if_neg (by omega)]) hs (fun σ1 e1 => ?_) (fun ee M' e1 => by cases e1)
              cases e1
              exact go σ' h
            · cases hs
          · next a b q hp => exact z_jdk hX hat hp (by rw [hd]; rfl) hs (go σ' h)
          · next a b q hp => exact z_jdk hX hat hp (by rw [hd]; rfl) hs (go σ' h)
          · cases hs
        · next ix =>
          have hd3 : 3 = len := hlen (Nat.succ_ne_zero 2)
          subst hd3
          split at hs
          · next x y q hp =>
            split at hs
            · next hy =>
              obtain ⟨hy, hix⟩ := hy
              refine z_inv (ix := ix) hX hKm hcall hat hp (by omega) (by rw [hd]; unfold zcop; rw [if_neg (by omega), if_pos hy]) hs (fun σ1 e1 => ?_) (fun ee M' e1 => by cases e1)
              cases e1
              exact go σ' h
            · cases hs
          · next a b q hp => exact z_jdk hX hat hp (by rw [hd]; rfl) hs (go σ' h)
          · cases hs
        · exact z_sp hX hat hd hlen hs (go σ' h)
      · next r hs =>
        cases h
        unfold zst at hs
        split at hs
        · next ix =>
          have hd3 : 3 = len := hlen (Nat.succ_ne_zero 2)
          subst hd3
          split at hs
          · next x y q hp =>
            split at hs
            · next hy =>
              obtain ⟨hy, hix⟩ := hy
              refine z_inv (ix := ix) hX hKm hcall hat hp (by omega) (by rw [hd]; unfold zcop; rw [if_pos hy]) hs (fun σ1 e1 => by cases e1) (fun ee M' e1 hn he φ' H' locs' uc' us' rest q ce k1 k2 k3 k4 k5 k6 => ?_)
              cases e1
              exact kunc ee rfl hn he φ' H' locs' ls _ uc' us' rest q ce k1 k2 k3 k4 k5 k6
            · cases hs
          · cases hs
        · next ix =>
          have hd3 : 3 = len := hlen (Nat.succ_ne_zero 2)
          subst hd3
          split at hs
          · next x y q hp =>
            split at hs
            · next hy =>
              obtain ⟨hy, hix⟩ := hy
              refine z_inv (ix := ix) hX hKm hcall hat hp (by omega) (by rw [hd]; unfold zcop; rw [if_neg (by omega), if_neg (by omega)]) hs (fun σ1 e1 => by cases e1) (fun ee M' e1 hn he φ' H' locs' uc' us' rest q ce k1 k2 k3 k4 k5 k6 => ?_)
              cases e1
              exact kunc ee rfl hn he φ' H' locs' ls _ uc' us' rest q ce k1 k2 k3 k4 k5 k6
            · cases hs
          · next a b q hp =>
            exfalso
            unfold zjdk at hs
            repeat' split at hs
            all_goals first | cases hs | skip
          · next a b q hp =>
            exfalso
            unfold zjdk at hs
            repeat' split at hs
            all_goals first | cases hs | skip
          · cases hs
        · next ix =>
          have hd3 : 3 = len := hlen (Nat.succ_ne_zero 2)
          subst hd3
          split at hs
          · next x y q hp =>
            split at hs
            · next hy =>
              obtain ⟨hy, hix⟩ := hy
              refine z_inv (ix := ix) hX hKm hcall hat hp (by omega) (by rw [hd]; unfold zcop; rw [if_neg (by omega), if_pos hy]) hs (fun σ1 e1 => by cases e1) (fun ee M' e1 hn he φ' H' locs' uc' us' rest q ce k1 k2 k3 k4 k5 k6 => ?_)
              cases e1
              exact kunc ee rfl hn he φ' H' locs' ls _ uc' us' rest q ce k1 k2 k3 k4 k5 k6
            · cases hs
          · next a b q hp =>
            exfalso
            unfold zjdk at hs
            repeat' split at hs
            all_goals first | cases hs | skip
          · cases hs
        · exact kend (pc, L, st, M, uc, us) φ H locs ls i len (fun _ _ => rfl) (zle.rfl M) hat hd hlen hs
end ZBODY
