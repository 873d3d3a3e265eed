/-! every run of the pure machine is a run of the machine -/
set_option maxHeartbeats 4000000 in
theorem z_con {l : Launch} (hfl : l.stackTraces = false) {call : zF} (hcall : ∀ (x : Nat) (J : zI) (vs : List Value) (M : zM) (o : zO) (M' : zM), call x vs M = some (o, M') → zmt[x]? = some J → zmchk J = true → zCon l J vs M o M' ∧ ∀ ee, o = .inr ee → 12 ≤ ee ∧ ee < 15)
    {K : zI} (hKm : K ∈ zmt) (hmk : zmchk K = true) {vs : List Value} {M M' : zM} {o : zO} {N : Nat} (hlen : (zsl vs).length ≤ zk_ml K) (h : zrun call K N (0, zent (zk_ml K) vs, [], M, 0, 0) = some (o, M')) : zCon l K vs M o M' := by
  intro D dA φ sz
  obtain ⟨w1, w2, w3, w4, w5, w6, w7⟩ := zmchk_spec hmk
  have body : ∀ (p : Program) (e : Env) (s : State) (m : MethodId) (args : Array Value) (below : List Frame) (meth : Method) (c : Code) (s₁ : State), BodyLoose p l (zk_y K) (headSpec (zws K) (zrm K)) (zk_by K) (zk_ml K) (zk_rt K) e s m args below meth c s₁ → c.maxLocals = zk_ml K → c.exceptionTable.toList = tableOf (zk_hs K) → zPc D dA φ vs M sz args s →
      W p l e (headSpec (zws K) (zrm K)).room s m args below meth c s.heap [] 0 0 (vx_MQ below (zQc D dA (va_A (zW dA φ M) sz) φ M o M') (zXc D dA (va_A (zW dA φ M) sz) φ M o M') args s (zk_mc K) (zk_ms K) (va_A (zW dA φ M) sz)) (entryFrame m args (zk_ml K)) := by
    intro p e s m args below meth c s₁ B hml htb hv
    obtain ⟨rfl, hsz, hP, hD, hwf, hvk, hFa, hF⟩ := hv
    subst hsz
    have hts0 := atoms_spec (ws := zws K) B.pre
    have hown := findClass_of_methodNamed B.named
    rw [w4] at hown
    have hX : zFix p (headSpec (zws K) (zrm K)).room s m ((vs.map (zad φ)).toArray) meth c D dA (va_A (zW dA φ M) s.heap.size) K :=
      ⟨B.exec, B.bytes, hml, hown, fun w hw => hts0 w (List.mem_cons_of_mem _ hw), hFa, fun q h => Or.inr h, ⟨Nat.le_refl _, Nat.le_refl _, Nat.le_refl _, Nat.le_refl _⟩, ⟨(name_of_methodNamed B.named B.method).1, B.notSynchronized⟩, htb⟩
    have hl := lv_entry (vs.map (zad φ)) (n := zk_ml K) (by rw [zlg_len]; exact hlen)
    rw [lg_entry_eq]
    generalize (lg_sl (vs.map (zad φ)) ++ List.replicate (zk_ml K - (lg_sl (vs.map (zad φ))).length) Slot.unset).toArray = ls at hl ⊢
    have hat : zAt D dA (va_A (zW dA φ M) s.heap.size) s (zk_ml K) φ (zent (zk_ml K) vs) [] M s.heap [] ls := ⟨hP, hD.self, va_S.rf, hwf, zloc_entry φ hlen hl, fun i v hv => hvk v (zsl_mem (zent_get hv)), fun v hv => (by cases hv), hF⟩
    exact z_body hX hKm hcall N (0, zent (zk_ml K) vs, [], M, 0, 0) φ s.heap [] ls hat h (fun σ' φ' H' locs' ls' i len g1 g2 g3 g4 g5 g6 => z_end hfl hX hKm B.returns g1 g2 g3 g4 g5 g6)
      (fun ee ho hn he φ' H' locs' ls' pc' uc' us' rest q ce g1 g2 g3 g4 g5 g6 => by
        subst ho
        exact vx_out (E := zcn ee) (zcovers htb hn pc') B.notSynchronized g4 g5 g6 (zXc_of he g1) g1.2.2.2.2.2.2.2 g2 g3)
  by_cases hs : zk_hs K = []
  · refine vx_ofW w5 (ws' := zG) (by unfold zws zcw; rw [if_pos hs]) (fun p e s m args below meth c s₁ B hml ht hv => body p e s m args below meth c s₁ B hml ?_ hv)
    rw [hs]
    exact List.eq_nil_iff_forall_not_mem.mpr ht
  · refine vx_ofWH w5 (ws' := zG) (hh := zk_hs K) (by unfold zws zcw; rw [if_neg hs]) (fun p e s m args below meth c s₁ B hml hv => body p e s m args below meth c s₁ B hml ?_ hv)
    have hts0 := atoms_spec (ws := zws K) B.pre
    exact vx_table (x := zk_y K) B (hts0 (Cond.codeWith (zk_y K) (zk_by K) (zk_ml K) (zk_rt K) (zk_hs K)) (by
      unfold zws zcw
      rw [if_neg hs]
      exact List.mem_cons_self))
theorem zjdk_no {K : zI} {ep : zP} {pc : Nat} {L : zL} {st : List Value} {M : zM} {uc us : Nat} {r : zO × zM} : zjdk K ep pc L st M uc us ≠ some (.inr r) := by
  intro h
  unfold zjdk at h
  repeat' split at h
  all_goals first | cases h | skip
theorem zcat_exc {K : zI} {e pc : Nat} {L : zL} {M : zM} {uc us ee : Nat} {Mf : zM} (h : zcat K e pc L M uc us = some (.inr (.inr ee, Mf))) : ee = e := by
  unfold zcat at h
  repeat' split at h
  all_goals first | (cases h; rfl) | cases h
theorem zinv_exc {call : zF} (hce : ∀ (x : Nat) (vs : List Value) (M : zM) (ee : Nat) (M' : zM), call x vs M = some (.inr ee, M') → 12 ≤ ee ∧ ee < 15) {K : zI} {x y pc : Nat} {L : zL} {st : List Value} {M : zM} {uc us ee : Nat} {Mf : zM} (h : zinv call K x y pc L st M uc us = some (.inr (.inr ee, Mf))) : 12 ≤ ee ∧ ee < 15 := by
  unfold zinv at h
  split at h
  · cases h
  · split at h
    · cases h
    · split at h
      · split at h
        · cases h
        · cases h
        · next e0 M0 hc =>
          rw [zcat_exc h]
          exact hce _ _ _ _ _ hc
      · cases h
theorem zrun_exc {call : zF} (hce : ∀ (x : Nat) (vs : List Value) (M : zM) (ee : Nat) (M' : zM), call x vs M = some (.inr ee, M') → 12 ≤ ee ∧ ee < 15) {K : zI} (hKm : K ∈ zmt) {ee : Nat} {Mf : zM} : ∀ (N : Nat) (σ : zS), zrun call K N σ = some (.inr ee, Mf) → 12 ≤ ee ∧ ee < 15
  | 0, _, h => by cases h
  | N + 1, σ, h => by
    simp only [zrun] at h
    split at h
    · cases h
    · split at h
      · cases h
      · exact zrun_exc hce hKm N _ h
      · next r hs =>
        cases h
        unfold zst at hs
        split at hs
        · split at hs
          · split at hs
            · exact zinv_exc hce hs
            · cases hs
          · cases hs
        · split at hs
          · split at hs
            · exact zinv_exc hce hs
            · cases hs
          · exact absurd hs zjdk_no
          · exact absurd hs zjdk_no
          · cases hs
        · split at hs
          · split at hs
            · exact zinv_exc hce hs
            · cases hs
          · exact absurd hs zjdk_no
          · cases hs
        · exact zsp_exc hKm hs
theorem zcall_exc : ∀ (F : Nat) (x : Nat) (vs : List Value) (M : zM) (ee : Nat) (M' : zM), zcall F x vs M = some (.inr ee, M') → 12 ≤ ee ∧ ee < 15
  | 0, _, _, _, _, _, h => by cases h
  | F + 1, x, vs, M, ee, M', h => by
    simp only [zcall] at h
    split at h
    · cases h
    · next K hK =>
      split at h
      · exact zrun_exc (zcall_exc F) (List.mem_of_getElem? hK) F _ h
      · cases h
theorem z_sound {l : Launch} (hfl : l.stackTraces = false) : ∀ (F : Nat) (x : Nat) (J : zI) (vs : List Value) (M : zM) (o : zO) (M' : zM), zcall F x vs M = some (o, M') → zmt[x]? = some J → zmchk J = true → zCon l J vs M o M' ∧ ∀ ee, o = .inr ee → 12 ≤ ee ∧ ee < 15
  | 0, _, _, _, _, _, _, h, _, _ => by cases h
  | F + 1, x, J, vs, M, o, M', h, hJ, hm => by
    have h0 := h
    simp only [zcall, hJ] at h
    split at h
    · next hlen => exact ⟨z_con hfl (z_sound hfl F) (List.mem_of_getElem? hJ) hm hlen h, fun ee ho => zcall_exc (F + 1) x vs M ee M' (by rw [← ho]; exact h0)⟩
    · cases h
/-! the law's start -/
theorem zarr_cls {args : Array Value} {s : State} {ty : FieldType} (h : (Cond.arrayClass ty).before args s = true) (hp : ∀ c, va_RA s c ty ↔ s.vm.findClass ("[" ++ ty.toString) = some c) : ∃ c : ClassId, ArrOfT s c ty ∧ va_RA s c ty := by
  obtain ⟨c, k, comp, h1, h2, h3⟩ := Cond.arrayClass_spec h
  exact ⟨c, fun n z => ⟨fun k h => (by cases h), k, h2, comp, h3⟩, (hp c).mpr h1⟩
theorem zarr_obj {args : Array Value} {s : State} {C : String} (h : (Cond.arrayOver (FieldType.object C)).before args s = true) : ∃ c : ClassId, ArrOfT s c (FieldType.object C) ∧ va_RA s c (FieldType.object C) := by
  obtain ⟨comp, c, k, h1, -, h2, h3, h4⟩ := Cond.arrayOver_spec h
  exact ⟨c, fun n z => ⟨fun k h => (by cases h), k, h2, comp, h3⟩, k, comp, h2, h3, h1, h4⟩
theorem zarr_arr {args : Array Value} {s : State} {t : FieldType} (h : (Cond.arrayOver (.array t)).before args s = true) : ∃ c : ClassId, ArrOfT s c (.array t) ∧ va_RA s c (.array t) := by
  obtain ⟨comp, c, k, h1, -, h2, h3, h4⟩ := arrayOverA_spec h
  exact ⟨c, fun n z => ⟨fun k h => (by cases h), k, h2, comp, h3⟩, h4⟩
theorem zfacts_start {args : Array Value} {s : State} (hts : ∀ w ∈ lw_tbl, w.before args s = true) : ∃ (D : va_G) (dA : Nat → ClassId), zFacts D dA s := by
  have htG : ∀ w ∈ zG, w.before args s = true := fun w hw => hts w (List.mem_filter.mp hw).1
  have hk : ∀ c : Nat, ∃ (cC : ClassId) (iS : Nat → Nat), c < 11 → u_Kn s (zcn c) (zT c) (zN c) cC iS := fun c => by
    by_cases hc : c < 11
    · obtain ⟨cC, iS, h⟩ := u_known htG (zlay_in hc) (htG _ (zcl_ins hc))
      exact ⟨cC, iS, fun _ => h⟩
    · exact ⟨0, fun _ => 0, fun h => absurd h hc⟩
  obtain ⟨a20, a21⟩ := zarr_cls (htG _ zac_20) (fun _ => Iff.rfl)
  obtain ⟨d20, d21⟩ := zarr_cls (htG _ zac_23) (fun _ => Iff.rfl)
  obtain ⟨e0, e1⟩ := zarr_obj (hts _ zao_0)
  obtain ⟨f0, f1⟩ := zarr_obj (hts _ zao_1)
  obtain ⟨g0, g1⟩ := zarr_obj (hts _ zao_2)
  obtain ⟨h0, h1⟩ := zarr_obj (hts _ zao_4)
  obtain ⟨i0, i1⟩ := zarr_obj (hts _ zao_6)
  obtain ⟨j0, j1⟩ := zarr_obj (hts _ zao_7)
  obtain ⟨m0, m1⟩ := zarr_arr (hts _ zaa_40)
  obtain ⟨n0, n1⟩ := zarr_arr (hts _ zaa_41)
  obtain ⟨o0, o1⟩ := zarr_arr (hts _ zaa_42)
  obtain ⟨p0, p1⟩ := zarr_arr (hts _ zaa_43)
  obtain ⟨dA, hdA⟩ : ∃ dA : Nat → ClassId, dA = fun k => if k = 20 then a20 else if k = 23 then d20 else if k = 30 then e0 else if k = 31 then f0 else if k = 32 then g0 else if k = 34 then h0 else if k = 36 then i0 else if k = 37 then j0 else if k = 40 then m0 else if k = 41 then n0 else if k = 42 then o0 else p0 := ⟨_, rfl⟩
  obtain ⟨D, hD⟩ : ∃ D : va_G, D = (fun c => Classical.choose (hk c), fun c => Classical.choose (Classical.choose_spec (hk c))) := ⟨_, rfl⟩
  have hDk : ∀ c, c < 11 → u_Kn s (zcn c) (zT c) (zN c) (D.1 c) (D.2 c) := fun c hc => by
    rw [hD]
    exact Classical.choose_spec (Classical.choose_spec (hk c)) hc
  have hK : va_K D zC (ztl dA) s := by
    refine ⟨fun c q hq => ?_, fun k q hq => ?_⟩
    · have hc : c < 11 := by
        have := (List.getElem?_eq_some_iff.mp hq).1
        simpa [zC] using this
      rw [zC_get hc] at hq
      cases hq
      exact hDk c hc
    · have hlt := (List.getElem?_eq_some_iff.mp hq).1
      simp only [ztl, List.length_cons, List.length_nil] at hlt
      subst hdA
      match k, hlt with
      | 0, _ => cases hq; exact a21
      | 1, _ => cases hq; exact d21
      | 2, _ => cases hq; exact e1
      | 3, _ => cases hq; exact f1
      | 4, _ => cases hq; exact g1
      | 5, _ => cases hq; exact h1
      | 6, _ => cases hq; exact i1
      | 7, _ => cases hq; exact j1
      | 8, _ => cases hq; exact m1
      | 9, _ => cases hq; exact n1
      | 10, _ => cases hq; exact o1
      | 11, _ => cases hq; exact p1
  refine ⟨D, dA, ?_, ?_, trivial, hK, ?_, hts _ zaa_40⟩
  · intro w hw hn
    have h := hts w hw
    unfold zNb at hn
    split at hn
    · exact va_Nw.of rfl h
    · exact h
    · exact va_Nw.of rfl h
    · exact va_Nw.of rfl h
    · cases hn
  · intro own k tx hm
    have h := hts _ hm
    have h' : (Cond.stringRef own k tx).before #[] s = true := h
    cases hc : s.vm.findClass own with
    | none => simp [Cond.before, Cond.holds, Cond.value, hc] at h'
    | some cur =>
      obtain ⟨_, _, _, a, -, -, -, -, -, hev⟩ := Cond.stringRef_spec hc h'
      exact ⟨a, vk_R.of h' hev⟩
  · intro e he
    rcases zup_kind he with h | h | h | h | h
    · have hu : zup e = 30 + e := by unfold zup; rw [if_pos h]
      have hc : zcc D dA e = D.1 e := by unfold zcc; rw [if_pos (by omega)]
      rw [hu] at he ⊢
      rw [hc, zqt_obj h]
      obtain ⟨t0, g⟩ := zqk_get dA he
      rw [zqt_obj h] at g
      obtain ⟨kA, comp, q1, q2, q3, -⟩ := (hK.2 t0 _ g).2
      have hcls := (hDk e (by omega)).2
      have hcomp : comp = D.1 e := Option.some.inj (q3.symm.trans hcls.1)
      subst hcomp
      obtain ⟨kE, hkE, -⟩ := Vm.findClass_spec q3
      exact ⟨kA, kE, q1, q2, hkE⟩
    · subst h
      obtain ⟨comp, c, k, k1, -, k2, k3, k4⟩ := arrayOverA_spec (hts _ zaa_40)
      have ec : c = dA 40 := Option.some.inj (k4.symm.trans (hK.2 8 _ rfl).2)
      have em : comp = dA 20 := Option.some.inj (k1.symm.trans (hK.2 0 _ rfl).2)
      subst ec em
      obtain ⟨kE, hkE, -⟩ := Vm.findClass_spec k1
      exact ⟨k, kE, k2, k3, hkE⟩
    · subst h
      obtain ⟨comp, c, k, k1, -, k2, k3, k4⟩ := arrayOverA_spec (hts _ zaa_43)
      have ec : c = dA 43 := Option.some.inj (k4.symm.trans (hK.2 11 _ rfl).2)
      have em : comp = dA 23 := Option.some.inj (k1.symm.trans (hK.2 1 _ rfl).2)
      subst ec em
      obtain ⟨kE, hkE, -⟩ := Vm.findClass_spec k1
      exact ⟨k, kE, k2, k3, hkE⟩
    · subst h
      obtain ⟨comp, c, k, k1, -, k2, k3, k4⟩ := arrayOverA_spec (hts _ zaa_41)
      have ec : c = dA 41 := Option.some.inj (k4.symm.trans (hK.2 9 _ rfl).2)
      have em : comp = dA 40 := Option.some.inj (k1.symm.trans (hK.2 8 _ rfl).2)
      subst ec em
      obtain ⟨kE, hkE, -⟩ := Vm.findClass_spec k1
      exact ⟨k, kE, k2, k3, hkE⟩
    · subst h
      obtain ⟨comp, c, k, k1, -, k2, k3, k4⟩ := arrayOverA_spec (hts _ zaa_42)
      have ec : c = dA 42 := Option.some.inj (k4.symm.trans (hK.2 10 _ rfl).2)
      have em : comp = dA 41 := Option.some.inj (k1.symm.trans (hK.2 9 _ rfl).2)
      subst ec em
      obtain ⟨kE, hkE, -⟩ := Vm.findClass_spec k1
      exact ⟨k, kE, k2, k3, hkE⟩
/-- the pure machine's memory as the law begins: the script alone -/
def zM0 (L : Nat) (xs : Nat → Int32) : zM := (0, fun a => if a = 0 then (50, L) else (0, 0), fun a j => if a = 0 then .int (xs j) else .null)
