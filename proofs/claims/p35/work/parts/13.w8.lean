/-! methods whole, and the law's body -/
theorem zlg_len (φ : Nat → Nat) (vs : List Value) : (lg_sl (vs.map (zad φ))).length = (zsl vs).length := by
  induction vs with
  | nil => rfl
  | cons v vs ih =>
    have h1 : (lg_sl ((v :: vs).map (zad φ))).length = (if v.category = 2 then 2 else 1) + (lg_sl (vs.map (zad φ))).length := by
      simp only [lg_sl, List.map_cons, List.flatMap_cons, List.length_append, zad_cat]
      split <;> rfl
    have h2 : (zsl (v :: vs)).length = (if v.category = 2 then 2 else 1) + (zsl vs).length := by
      simp only [zsl, List.flatMap_cons, List.length_append]
      split <;> rfl
    rw [h1, h2, ih]
theorem zsl_args (φ : Nat → Nat) : ∀ (vs : List Value) (k i : Nat) (v : Value), (zsl vs)[i]? = some (some v) → (k + i, zad φ v) ∈ lv_args k (vs.map (zad φ))
  | [], k, i, v, h => by simp [zsl] at h
  | w :: vs, k, i, v, h => by
    have e1 : zsl (w :: vs) = (if w.category = 2 then [some w, none] else [some w]) ++ zsl vs := by simp [zsl]
    rw [e1] at h
    simp only [List.map_cons, lv_args, zad_cat]
    by_cases hc : w.category = 2
    · rw [if_pos hc] at h ⊢
      match i with
      | 0 =>
        simp only [List.cons_append, List.getElem?_cons_zero, Option.some.injEq] at h
        rw [h]
        exact List.mem_cons_self
      | 1 => simp at h
      | i + 2 =>
        simp only [List.cons_append, List.nil_append, List.getElem?_cons_succ] at h
        have := zsl_args φ vs (k + 2) i v h
        rw [show k + 2 + i = k + (i + 2) by omega] at this
        exact List.mem_cons_of_mem _ this
    · rw [if_neg hc] at h ⊢
      match i with
      | 0 =>
        simp only [List.cons_append, List.getElem?_cons_zero, Option.some.injEq] at h
        rw [h]
        exact List.mem_cons_self
      | i + 1 =>
        simp only [List.cons_append, List.nil_append, List.getElem?_cons_succ] at h
        have := zsl_args φ vs (k + 1) i v h
        rw [show k + 1 + i = k + (i + 1) by omega] at this
        exact List.mem_cons_of_mem _ this
theorem zent_get {n : Nat} {vs : List Value} {i : Nat} {v : Value} (h : (zent n vs)[i]? = some (some v)) : (zsl vs)[i]? = some (some v) := by
  unfold zent at h
  by_cases hi : i < (zsl vs).length
  · rw [List.getElem?_append_left hi] at h
    exact h
  · rw [List.getElem?_append_right (by omega), List.getElem?_replicate] at h
    split at h <;> cases h
theorem zsl_mem {vs : List Value} {i : Nat} {v : Value} (h : (zsl vs)[i]? = some (some v)) : v ∈ vs := by
  have h1 := List.mem_of_getElem? h
  unfold zsl at h1
  obtain ⟨w, hw, h2⟩ := List.mem_flatMap.mp h1
  split at h2
  · simp only [List.mem_cons, Option.some.injEq, List.not_mem_nil, or_false, reduceCtorEq] at h2
    rw [h2]; exact hw
  · simp only [List.mem_cons, Option.some.injEq, List.not_mem_nil, or_false] at h2
    rw [h2]; exact hw
theorem zloc_entry (φ : Nat → Nat) {vs : List Value} {n : Nat} (h : (zsl vs).length ≤ n) {ls : Array Slot} (hl : lv_has ls n (lv_args 0 (vs.map (zad φ)))) : zloc φ (zent n vs) ls n := by
  refine zloc.of hl (by unfold zent; simp; omega) fun i v hv => ?_
  have := zsl_args φ vs 0 i v (zent_get hv)
  rw [Nat.zero_add] at this
  exact this
theorem zat_in {e ic : Nat} (h : zatchk e ic = true) : ∀ w ∈ vx_atS (zcn 9) ic (zcn e) ztnames, (w ∈ lw_tbl ∧ (goodWord w = true ∨ zNb w = true)) ∧ vx_ot w = true := by
  intro w hw
  have h1 := List.all_eq_true.mp h w hw
  simp only [Bool.and_eq_true, decide_eq_true_eq, Bool.or_eq_true] at h1
  exact ⟨⟨h1.1, h1.2.1⟩, h1.2.2⟩
theorem zcovers {c : Code} {K : zI} (h : c.exceptionTable.toList = tableOf (zk_hs K)) (hn : zk_hs K = []) (pc : Nat) : ∀ x ∈ c.exceptionTable.toList, covers x pc = false := by
  rw [h, hn]
  intro x hx
  cases hx
section ZEND
variable {p : Program} {l : Launch} {e : Env} {R : Room} {s : State} {m : MethodId} {args : Array Value} {below : List Frame} {meth : Method} {c : Code} {H : Heap} {locs : List Loc} {Q : State → Prop}
variable {D : va_G} {dA : Nat → ClassId} {A : Nat → Prop} {K : zI} {φ φ0 : Nat → Nat} {L : zL} {st : List Value} {M M0 : zM} {ls : Array Slot} {pc uc us : Nat}
set_option maxHeartbeats 8000000 in
set_option maxRecDepth 100000 in
/-- the end of a body: a value handed back, or an exception thrown -/
theorem z_end (hfl : l.stackTraces = false) (hX : zFix p R s m args meth c D dA A K) (hKm : K ∈ zmt) (hr : meth.sig.returnType = zk_rt K) (h1 : ∀ a, a ≤ M0.1 → φ a = φ0 a) (h2 : zle M0 M) (hat : zAt D dA A s (zk_ml K) φ L st M H locs ls) {i : Instr} {len : Nat} (hd : decode (zk_by K) pc = .ok (i, len)) (hlen : zlen i ≠ 0 → zlen i = len) {o : zO} {Mf : zM} (h : zsp K i pc L st M uc us = some (.inr (o, Mf))) :
    W p l e R s m args below meth c H locs uc us (vx_MQ below (zQc D dA A φ0 M0 o Mf) (zXc D dA A φ0 M0 o Mf) args s (zk_mc K) (zk_ms K) A) (F0 m pc ls (st.map (zad φ))) := by
  obtain ⟨hx, hb, hml, hown, hts, hFa, hA, hR, hnm, htb⟩ := hX
  have hlocks := hnm.2
  cases i with
  | ireturn =>
    have e1 : 1 = len := hlen Nat.one_ne_zero
    subst e1
    simp only [zsp] at h
    split at h
    · next v =>
      split at h
      · next ty hty =>
        split at h
        · next hc =>
          cases h
          refine W.widen hc.2.1 hc.2.2 (vx_ret (W.zret hx hb (hr.trans hty) hc.1 (fun t ht hW => ⟨⟨some (.int v), φ, rfl, rfl, h1, h2, by rw [ht]; exact hat.P, hat.Dd, hat.wf, fun w hw => by cases hw; exact zvk_int _ _⟩, hat.S.F ht⟩) hat.S.2.2 hd hlocks))
        · cases h
      · cases h
    · cases h
  | lreturn =>
    have e1 : 1 = len := hlen Nat.one_ne_zero
    subst e1
    simp only [zsp] at h
    split at h
    · next v =>
      split at h
      · next hc =>
        cases h
        refine W.widen hc.2.1 hc.2.2 (vx_ret (W.lret hx hb (hr.trans hc.1) (fun t ht hW => ⟨⟨some (.long v), φ, rfl, rfl, h1, h2, by rw [ht]; exact hat.P, hat.Dd, hat.wf, fun w hw => by cases hw; exact zvk_long _ _⟩, hat.S.F ht⟩) hat.S.2.2 hd hlocks))
      · cases h
    · cases h
  | dreturn =>
    have e1 : 1 = len := hlen Nat.one_ne_zero
    subst e1
    simp only [zsp] at h
    split at h
    · next v =>
      split at h
      · next hc =>
        cases h
        refine W.widen hc.2.1 hc.2.2 (vx_ret (W.dret hx hb (hr.trans hc.1) (fun t ht hW => ⟨⟨some (.double v), φ, rfl, rfl, h1, h2, by rw [ht]; exact hat.P, hat.Dd, hat.wf, fun w hw => by cases hw; exact zvk_dbl _ _⟩, hat.S.F ht⟩) hat.S.2.2 hd hlocks))
      · cases h
    · cases h
  | areturn =>
    have e1 : 1 = len := hlen Nat.one_ne_zero
    subst e1
    simp only [zsp] at h
    split at h
    · next v =>
      split at h
      · next hc =>
        have key : ∀ rt : FieldType, zk_rt K = some rt → ((∃ n, rt = .object n) ∨ ∃ t, rt = .array t) → (o, Mf) = (.inl (some (.ref v)), M) → W p l e R s m args below meth c H locs uc us (vx_MQ below (zQc D dA A φ0 M0 o Mf) (zXc D dA A φ0 M0 o Mf) args s (zk_mc K) (zk_ms K) A) (F0 m pc ls ([.ref v].map (zad φ))) := by
          intro rt hrt hk heq
          cases heq
          exact W.widen hc.1 hc.2 (vx_ret (W.aret hx hb (hr.trans hrt) hk (Or.inr ⟨_, rfl⟩) (fun t ht hW => ⟨⟨some (.ref v), φ, rfl, rfl, h1, h2, by rw [ht]; exact hat.P, hat.Dd, hat.wf, fun w hw => by cases hw; exact zSk_hd hat.sk⟩, hat.S.F ht⟩) hat.S.2.2 hd hlocks))
        split at h
        · next n hty => exact key _ hty (Or.inl ⟨n, rfl⟩) (by cases h; rfl)
        · next n hty => exact key _ hty (Or.inr ⟨n, rfl⟩) (by cases h; rfl)
        · cases h
      · cases h
    · cases h
  | return_ =>
    have e1 : 1 = len := hlen Nat.one_ne_zero
    subst e1
    simp only [zsp] at h
    split at h
    · split at h
      · next hc =>
        cases h
        refine W.widen hc.2.1 hc.2.2 (vx_ret (W.vret hx hb (hr.trans hc.1) (fun t ht hW => ⟨⟨none, φ, rfl, rfl, h1, h2, by rw [ht]; exact hat.P, hat.Dd, hat.wf, fun w hw => by cases hw⟩, hat.S.F ht⟩) hat.S.2.2 hd hlocks))
      · cases h
    · cases h
  | new ix =>
    have e1 : 3 = len := hlen (Nat.succ_ne_zero 2)
    subst e1
    simp only [zsp] at h
    split at h
    · next x j q hp =>
      split at h
      · split at h <;> cases h
      · split at h
        · next e0 rest0 hth =>
          split at h
          · next hc =>
            cases h
            obtain ⟨c1, c2, c3, c4, c5, c6⟩ := hc
            subst c1
            have ht := List.all_eq_true.mp (zthk K hKm) _ (zlk_mem hth)
            obtain ⟨ik, wide, is, ic, tx, p1, p2⟩ := rest0
            simp only [ztchk, Bool.and_eq_true, decide_eq_true_eq] at ht
            obtain ⟨t1, t2, t3, t4, t5, t6, t7, t8⟩ := ht
            have hik : ik = ix := by
              rw [hd] at t3
              cases t3
              rfl
            subst hik
            rw [t1] at hown
            have hatk : zatchk e0 ic = true := by
              have h3 : e0 = 12 ∨ e0 = 13 ∨ e0 = 14 := by omega
              rcases h3 with h3 | h3 | h3 <;> subst h3
              · rw [t8]; exact zat_12
              · rw [t8]; exact zat_13
              · rw [t8]; exact zat_14
            have hw : ∀ w ∈ vx_atS (zcn 9) ic (zcn e0) ztnames, w.before args s = true := fun w hw => by
              obtain ⟨⟨g1, g2⟩, g3⟩ := zat_in hatk w hw
              rcases g2 with g2 | g2
              · exact hts w (List.mem_filter.mpr ⟨g1, g2⟩)
              · simp only [vx_ot, Bool.or_eq_true] at g3
                rcases g3 with g3 | g3
                · exact va_Nw.use g3 (hFa.1 w g1 g2)
                · exact hts w (List.mem_filter.mpr ⟨g1, g3⟩)
            obtain ⟨sa, hsa⟩ := hFa.2.1 _ _ _ (List.mem_of_getElem? t7)
            have hot : ∀ w ∈ Cond.classLink (zcn 9) ik (zcn e0) :: Cond.initialized (zcn e0) :: vx_atS (zcn 9) ic (zcn e0) ztnames, vx_ot w = true := fun w hw => by
              rcases List.mem_cons.mp hw with rfl | hw
              · rfl
              · rcases List.mem_cons.mp hw with rfl | hw
                · rfl
                · exact (zat_in hatk w hw).2
            have hfit : Bundle.fit (zcn e0) = true := by
              have h3 : e0 = 12 ∨ e0 = 13 ∨ e0 = 14 := by omega
              rcases h3 with h3 | h3 | h3 <;> subst h3 <;> decide +kernel
            have hnames : ∀ n ∈ ztnames, Bundle.fit n = true := by decide +kernel
            have hxc : ∀ t : State, s.vm.Alike t.vm → H.size ≤ t.heap.size → (∀ q : Nat, q < H.size → t.heap[q]? = H[q]?) → zXc D dA A φ0 M0 (.inr e0) M (zcn e0) s t := fun t _ hz hq =>
              ⟨⟨e0, φ, rfl, rfl, t2, h1, h2, hat.P.kept (fun k y hy => hq _ ((hat.P k y hy).lt)), hat.Dd, hat.wf, fun w hw => by cases hw⟩,
                ⟨Nat.le_trans hat.S.1 hz, fun q q1 q2 => (hq q (Nat.lt_of_lt_of_le q1 hat.S.1)).trans (hat.S.2.1 q q1 q2)⟩⟩
            have hrl : ((st.map (zad φ)).map fun v => v.category).sum + (13 * (ztnames.length + 1) + 43) ≤ R.locals := by
              rw [zct_map]
              have := hR.2.1
              show zct st + 82 ≤ R.locals
              omega
            have hrf : ztnames.length + 3 < R.frames := by
              have := hR.1
              show 5 < R.frames
              omega
            cases wide with
            | true =>
              simp only [if_true] at t5
              simp only [Bool.and_eq_true, decide_eq_true_eq] at t5
              exact vx_throwSW hx hb hfl (names := ztnames) (sa := sa) hown hfit hnames (hts _ (zG_of t6 rfl)) (hts _ (zei t2)) hsa hw hot hat.F.1 hat.F.2.1 hat.S (hat.loc.1.trans hml.symm) t3 t4 t5.1 t5.2.1 t5.2.2 (zcovers htb c2 _) hrf hrl (Nat.le_trans c5 hR.2.2.1) (Nat.le_trans c6 hR.2.2.2) hlocks hxc hat.S.2.2 c5 c6
            | false =>
              simp only [Bool.false_eq_true, if_false] at t5
              simp only [Bool.and_eq_true, decide_eq_true_eq] at t5
              exact vx_throwS hx hb hfl (names := ztnames) (sa := sa) hown hfit hnames (hts _ (zG_of t6 rfl)) (hts _ (zei t2)) hsa hw hot hat.F.1 hat.F.2.1 hat.S (hat.loc.1.trans hml.symm) t3 t4 t5.1 t5.2.1 t5.2.2 (zcovers htb c2 _) hrf hrl (Nat.le_trans c5 hR.2.2.1) (Nat.le_trans c6 hR.2.2.2) hlocks hxc hat.S.2.2 c5 c6
          · cases h
        · cases h
    · cases h
  | _ => exfalso; simp only [zsp, zgo, zbr] at h; first | (cases h; done) | ((repeat' split at h) <;> cases h)
theorem zXc_of {ee : Nat} {φ' : Nat → Nat} {Mf : zM} (he : 12 ≤ ee ∧ ee < 15) (h : zOut D dA A s φ0 φ' M0 Mf H locs) : ∀ t : State, t.heap = H → s.vm.Alike t.vm → zXc D dA A φ0 M0 (.inr ee) Mf (zcn ee) s t := fun t ht _ =>
  ⟨⟨ee, φ', rfl, rfl, he, h.1, h.2.1, by rw [ht]; exact h.2.2.1, h.2.2.2.1, h.2.2.2.2.1, fun w hw => by cases hw⟩, h.2.2.2.2.2.F ht⟩
end ZEND
/-- what a run's outcome is, where it is an exception -/
theorem zsp_exc {K : zI} (hKm : K ∈ zmt) {i : Instr} {pc : Nat} {L : zL} {st : List Value} {M : zM} {uc us ee : Nat} {Mf : zM} (h : zsp K i pc L st M uc us = some (.inr (.inr ee, Mf))) : 12 ≤ ee ∧ ee < 15 := by
  cases i with
  | new ix =>
    simp only [zsp] at h
    split at h
    · split at h
      · split at h <;> cases h
      · split at h
        · next e0 rest0 hth =>
          split at h
          · next hc =>
            cases h
            have ht := List.all_eq_true.mp (zthk K hKm) _ (zlk_mem hth)
            obtain ⟨ik, wide, is, ic, tx, p1, p2⟩ := rest0
            simp only [ztchk, Bool.and_eq_true, decide_eq_true_eq] at ht
            exact ht.2.1
          · cases h
        · cases h
    · cases h
  | _ => exfalso; simp only [zsp, zgo, zbr, zend] at h; first | (cases h; done) | ((repeat' split at h) <;> cases h)
