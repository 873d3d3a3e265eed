/-! CONTRACTS: a run of the pure machine is a run of the machine -/
theorem zHeapF.mvU {A : Nat → Prop} {φ : Nat → Nat} {M : zM} {u U : State} {H : Heap} (hvm : u.vm.Alike U.vm) (h : zHeapF A φ M u H) : zHeapF A φ M U H := ⟨vx_Zq.moved hvm h.1, vx_Zq.moved hvm h.2.1, va_X.moved hvm h.2.2.1, h.2.2.2⟩
theorem zHeapF.kept {A : Nat → Prop} {φ : Nat → Nat} {M : zM} {U : State} {H H1 : Heap} (h : zHeapF A φ M U H) (hz : H.size ≤ H1.size) (hq : ∀ a : Nat, a < H.size → ¬ A a → H1[a]? = H[a]?) : zHeapF A φ M U H1 :=
  ⟨h.1.kept hq, h.2.1.kept hq, h.2.2.1.kept (hq _ h.2.2.2.1 h.2.2.2.2), Nat.lt_of_lt_of_le h.2.2.2.1 hz, h.2.2.2.2⟩
theorem zHeapF.narrow {A B : Nat → Prop} {φ : Nat → Nat} {M : zM} {U : State} {H : Heap} (h : zHeapF A φ M U H) (hAB : ∀ q, B q → A q) : zHeapF B φ M U H :=
  ⟨h.1.narrow hAB, h.2.1.narrow hAB, h.2.2.1, h.2.2.2.1, fun z => h.2.2.2.2 (hAB _ z)⟩
def zFin (D : va_G) (dA : Nat → ClassId) (A : Nat → Prop) (φ φ' : Nat → Nat) (M M' : zM) (v : Option Value) (H : Heap) : Prop :=
  (∀ a, a ≤ M.1 → φ' a = φ a) ∧ zle M M' ∧ va_P D zC (zW dA φ' M') H ∧ va_D A (zW dA φ' M') ∧ zwf M' ∧ ∀ w, v = some w → zvk M'.1 w
def zQc (D : va_G) (dA : Nat → ClassId) (A : Nat → Prop) (φ : Nat → Nat) (M : zM) (o : zO) (M' : zM) : Array Value → State → Outcome → State → Prop := fun _ st oc t =>
  (∃ (v : Option Value) (φ' : Nat → Nat), o = .inl v ∧ oc = .returned (v.map (zad φ')) ∧ zFin D dA A φ φ' M M' v t.heap) ∧ va_F A st t
def zXc (D : va_G) (dA : Nat → ClassId) (A : Nat → Prop) (φ : Nat → Nat) (M : zM) (o : zO) (M' : zM) : String → State → State → Prop := fun E st t =>
  (∃ (ee : Nat) (φ' : Nat → Nat), o = .inr ee ∧ E = zcn ee ∧ (12 ≤ ee ∧ ee < 15) ∧ zFin D dA A φ φ' M M' none t.heap) ∧ va_F A st t
def zPc (D : va_G) (dA : Nat → ClassId) (φ : Nat → Nat) (vs : List Value) (M : zM) (sz : Nat) : Array Value → State → Prop := fun av U =>
  av = (vs.map (zad φ)).toArray ∧ U.heap.size = sz ∧ va_P D zC (zW dA φ M) U.heap ∧ va_D (fun _ => True) (zW dA φ M) ∧ zwf M ∧ zSk M.1 vs ∧ zFacts D dA U ∧ zHeapF (va_A (zW dA φ M) sz) φ M U U.heap
def zCon (l : Launch) (J : zI) (vs : List Value) (M : zM) (o : zO) (M' : zM) : Prop :=
  ∀ (D : va_G) (dA : Nat → ClassId) (φ : Nat → Nat) (sz : Nat), vx_Met l (zk_y J) (zws J) (zrm J) (zPc D dA φ vs M sz) (zQc D dA (va_A (zW dA φ M) sz) φ M o M') (zXc D dA (va_A (zW dA φ M) sz) φ M o M') (zk_mc J) (zk_ms J) (va_A (zW dA φ M) sz)
theorem zPc_blind (D : va_G) (dA : Nat → ClassId) (φ : Nat → Nat) (vs : List Value) (M : zM) (sz : Nat) : FrameBlind (zPc D dA φ vs M sz) := by
  intro a U g mk q
  obtain ⟨q1, q2, q3, q4, q5, q6, q7, q8⟩ := q
  exact ⟨q1, q2, q3, q4, q5, q6, zFacts.warm (s := U) (U := U.calling g mk a) (State.WarmedH.refl U) q7, zHeapF.mvU (u := U) (U := U.calling g mk a) (Vm.Alike.refl U.vm) q8⟩
theorem zgood {ws : List Cond} (h : ∀ w ∈ ws, w ∈ zG) : GoodIn zG ws := fun w hw => ⟨h w hw, good_of_word (List.mem_filter.mp (h w hw)).2⟩
theorem zpop_spec : ∀ (n : Nat) (acc st args r : List Value), zpop n acc st = some (args, r) → ∃ pre, st = pre ++ r ∧ pre.length = n ∧ args = pre.reverse ++ acc
  | 0, acc, st, args, r, h => by
    simp only [zpop, Option.some.injEq, Prod.mk.injEq] at h
    exact ⟨[], h.2, rfl, h.1.symm⟩
  | n + 1, acc, [], args, r, h => by simp [zpop] at h
  | n + 1, acc, v :: st, args, r, h => by
    simp only [zpop] at h
    obtain ⟨pre, h1, h2, h3⟩ := zpop_spec n (v :: acc) st args r h
    exact ⟨v :: pre, by rw [h1]; rfl, by simp [h2], by rw [h3]; simp⟩
theorem zmchk_spec {J : zI} (h : zmchk J = true) : zcw J ∈ zG ∧ (if zsts J = true then Cond.static (zk_y J) ∈ zG else Cond.instanceMethod (zk_y J) ∈ zG) ∧ Cond.initialized (zk_y J).cls ∈ zG ∧ (zk_y J).cls = zcn (zk_own J) ∧ plainName (zk_y J).cls = true ∧
    ((zk_y J).cls ≠ "java/lang/invoke/MethodHandle" ∧ (zk_y J).cls ≠ "java/lang/invoke/VarHandle") ∧ (parseMethodDescriptor (zk_y J).desc).map (fun d => d.parameters.length) = some (zk_na J) := by
  simp only [zmchk, Bool.and_eq_true, decide_eq_true_eq] at h
  obtain ⟨h1, h2, h3, h4, h5, h6, h7, -⟩ := h
  refine ⟨zG_of h1 ?_, ?_, zG_of h3 rfl, h4, h5, h6, h7⟩
  · unfold zcw
    split <;> rfl
  · split
    · next hs =>
      rw [if_pos hs] at h2
      exact zG_of (by simpa using h2) rfl
    · next hs =>
      rw [if_neg hs] at h2
      exact zG_of (by simpa using h2) rfl
section ZCALL
variable {p : Program} {l : Launch} {e : Env} {R : Room} {s : State} {m : MethodId} {args : Array Value} {below : List Frame} {meth : Method} {c : Code} {H : Heap} {locs : List Loc} {Q : State → Prop}
variable {D : va_G} {dA : Nat → ClassId} {A : Nat → Prop} {K : zI} {φ : Nat → Nat} {L : zL} {st : List Value} {M : zM} {ls : Array Slot} {pc uc us : Nat}
theorem zsub (hA : ∀ q : Nat, s.heap.size ≤ q → A q) (hat : zAt D dA A s (zk_ml K) φ L st M H locs ls) : ∀ q, va_A (zW dA φ M) H.size q → A q := fun q h => by
  rcases h with ⟨k, e0, hk⟩ | h
  · exact hat.Dd.2 k (q, e0) hk
  · exact hA q (Nat.le_trans hat.S.1 h)
theorem zPc_at (hX : zFix p R s m args meth c D dA A K) (hat : zAt D dA A s (zk_ml K) φ L st M H locs ls) {vs : List Value} (hv : zSk M.1 vs) : ∀ U : State, U.heap = H → s.WarmedH U.vm → zPc D dA φ vs M H.size ((vs.map (zad φ)).toArray) U := by
  intro U hU hW
  obtain ⟨-, -, -, -, -, hFa, hA, -, -, -⟩ := hX
  have hF := ((hat.F.kept hat.S.1 hat.S.2.1).mvU hW.alike).narrow (zsub hA hat)
  exact ⟨rfl, by rw [hU], by rw [hU]; exact hat.P, hat.Dd.weaken (fun _ _ _ _ => trivial), hat.wf, hv, hFa.warm hW, by rw [hU]; exact hF⟩
theorem zv_call {A1 : Nat → Prop} {mc ms : Nat} {st0 rest : List Value} {a : Array Value} {o : zO} {M' : zM} (hr : vx_Run p l e R s m args below meth c H locs uc us mc ms (F0 m pc ls st0) rest (zQc D dA A1 φ M o M' a) (zXc D dA A1 φ M o M') A1) (hS : va_S A s.heap H locs) (h1 : ∀ q, A1 q → A q)
    (kk : ∀ (v : Option Value) (φ' : Nat → Nat) (H1 : Heap) (locs1 : List Loc), o = .inl v → zFin D dA A1 φ φ' M M' v H1 → va_S A s.heap H1 locs1 → W p l e R s m args below meth c H1 locs1 (uc + mc) (us + ms) Q (F0 m (pc + 3) ls ((v.map (zad φ')).toList ++ rest)))
    (kx : ∀ (ee : Nat) (φ' : Nat → Nat) (H1 : Heap) (locs1 : List Loc) (q : Addr) (ce : Cell), o = .inr ee → (12 ≤ ee ∧ ee < 15) → zFin D dA A1 φ φ' M M' none H1 → va_S A s.heap H1 locs1 → H1[q]? = some ce → ce.vm = .none → s.vm.findClass (zcn ee) = some ce.cls → vx_W p l e R s m args below meth c H1 locs1 (uc + mc) (us + ms) Q (F0 m pc ls rest) q) :
    W p l e R s m args below meth c H locs uc us Q (F0 m pc ls st0) := by
  intro T hT X
  rcases hr T hT X with ⟨v, st₀, t, T', L, h0, X', hL, e1, e2, ⟨⟨w, φ', ho, hv, hf⟩, hF⟩, st⟩ | ⟨q, st₀, t, T', L, E, ce, h0, X', hL, e1, e2, ⟨⟨ee, φ', ho, hE, hee, hf⟩, hF⟩, hce, hcv, hcl, st⟩
  · cases hv
    obtain ⟨-, -, k3⟩ := vx_keep h0 e1 hS (fun q _ h => h1 q h) h1 hL hF
    obtain ⟨t2, a1, b1⟩ := kk w φ' T'.heap (locs ++ L) ho (by rw [e1]; exact hf) k3 T' rfl X'
    exact ⟨t2, st t2 a1, b1⟩
  · obtain ⟨-, -, k3⟩ := vx_keep h0 e1 hS (fun q _ h => h1 q h) h1 hL hF
    subst hE
    obtain ⟨t2, a1, b1⟩ := kx ee φ' T'.heap (locs ++ L) q ce ho hee (by rw [e1]; exact hf) k3 (by rw [e1]; exact hce) hcv hcl T' rfl X'
    exact ⟨t2, st.trans a1, b1⟩
/-- behind a call the caller's frame stands in the new world -/
theorem zAt.call (hX : zFix p R s m args meth c D dA A K) {M' : zM} {φ' : Nat → Nat} {H1 : Heap} {locs1 : List Loc} {v : Option Value} {r : List Value} (hat : zAt D dA A s (zk_ml K) φ L st M H locs ls) (hr : zSk M.1 r) (hf : zFin D dA (va_A (zW dA φ M) H.size) φ φ' M M' v H1) (hS : va_S A s.heap H1 locs1) :
    zAt D dA A s (zk_ml K) φ' L (v.toList ++ r) M' H1 locs1 ls ∧ (v.map (zad φ')).toList ++ r.map (zad φ) = (v.toList ++ r).map (zad φ') := by
  obtain ⟨f1, f2, f3, f4, f5, f6⟩ := hf
  obtain ⟨-, -, -, -, -, hFa, hA, -, -, -⟩ := hX
  refine ⟨⟨f3, f4.weaken (fun _ q _ h => zsub hA hat q.1 h), hS, f5, hat.loc.congr f1 hat.lk, fun i w hw => zvk_mono f2.1 (hat.lk i w hw), ?_, hat.F.mv (f1 0 (Nat.zero_le _)) f2.2.1 f2.2.2⟩, ?_⟩
  · intro w hw
    rcases List.mem_append.mp hw with hw | hw
    · cases v with
      | none => cases hw
      | some u =>
        rw [Option.toList_some, List.mem_singleton] at hw
        rw [hw]
        exact f6 u rfl
    · exact zvk_mono f2.1 (hr w hw)
  · rw [List.map_append, zmap_congr f1 hr]
    cases v <;> rfl
def zcop (y ix : Nat) : Instr := if y = 0 ∨ y = 3 then .invokevirtual ix else if y = 2 ∨ y = 5 then .invokespecial ix else .invokestatic ix
theorem zp_call {cc ix x y q : Nat} (h : zpool cc ix = some (1, x, y, q)) : (y < 3 ∨ y = 6 → Cond.methodLink (zcn cc) (ix % 100000) (zyn x) ∈ zG) ∧ (¬ (y < 3 ∨ y = 6) → Cond.methodLinkNest (zcn cc) (ix % 100000) (zyn x) (zhost cc) ∈ lw_tbl) := by
  have h1 := zpool_ok h
  simp only [zpchk] at h1
  constructor
  · intro hy
    rw [if_pos hy] at h1
    exact zG_of (by simpa using h1) rfl
  · intro hy
    rw [if_neg hy] at h1
    exact List.mem_of_getElem? (by simpa using h1)
theorem zyn_eq {x : Nat} {J : zI} (h : zmt[x]? = some J) : zyn x = zk_y J := by
  unfold zyn
  rw [h]
theorem zmemws {J : zI} (h : zcw J ∈ zG) : ∀ w ∈ zws J, w ∈ zG := fun w hw => by
  rcases List.mem_cons.mp hw with rfl | hw
  · exact h
  · exact hw
theorem zp_callee {cc ix x y q : Nat} {J : zI} (hp : zpool cc ix = some (1, x, y, q)) (hJ : zmt[x]? = some J) : zmchk J = true := by
  have hcc := zcc_ok hp
  simp only [zcchk, hJ, Bool.and_eq_true, decide_eq_true_eq] at hcc
  rcases zmkk J (List.mem_of_getElem? hJ) with hq | hq
  · exact hq
  · have hnl := hcc.1
    rw [hq] at hnl
    exact absurd rfl hnl
set_option maxHeartbeats 4000000 in
set_option maxRecDepth 100000 in
theorem z_run (hX : zFix p R s m args meth c D dA A K) {vs r : List Value} (hat : zAt D dA A s (zk_ml K) φ L (vs.reverse ++ r) M H locs ls) {ix ix1 x y q : Nat} {J : zI} (hp : zpool (zk_own K) ix1 = some (1, x, y, q)) (hm : ix1 % 100000 = ix) (hJ : zmt[x]? = some J) (hd : decode (zk_by K) pc = .ok (zcop y ix, 3))
    (hn : vs.length = zk_na J + (if y = 1 ∨ y = 4 ∨ y = 6 then 0 else 1)) (h1 : zk_rf J + 1 ≤ zk_rf K) (h2 : 8 + (zk_ml J + 11) + zk_rl J ≤ zk_rl K) (h3 : zct r ≤ 8) (h4 : uc + zk_mc J ≤ zk_mc K) (h5 : us + zk_ms J ≤ zk_ms K) (h6 : zrcv J y vs M = true) {o : zO} {M' : zM} (con : zCon l J vs M o M') :
    vx_Run p l e R s m args below meth c H locs uc us (zk_mc J) (zk_ms J) (F0 m pc ls ((vs.reverse ++ r).map (zad φ))) (r.map (zad φ)) (zQc D dA (va_A (zW dA φ M) H.size) φ M o M' (vs.map (zad φ)).toArray) (zXc D dA (va_A (zW dA φ M) H.size) φ M o M') (va_A (zW dA φ M) H.size) := by
  have hvs : zSk M.1 vs := fun v hv => hat.sk v (List.mem_append_left _ (List.mem_reverse.mpr hv))
  have hPre := zPc_at hX hat hvs
  have hbl := zPc_blind D dA φ vs M H.size
  have hX' := hX
  obtain ⟨hx, hb, hml, hown, hts, hFa, hA, hR, hnm, -⟩ := hX'
  have hK := hFa.2.2.2.1
  have hcc := zcc_ok hp
  have hpc := zp_call hp
  rw [zyn_eq hJ, hm] at hpc
  simp only [zcchk, hJ, Bool.and_eq_true, decide_eq_true_eq] at hcc
  obtain ⟨hnl, hcc⟩ := hcc
  have hmk : zmchk J = true := zp_callee hp hJ
  obtain ⟨w1, w2, w3, w4, w5, w6, w7⟩ := zmchk_spec hmk
  have hRm : (zrm J).frames + 1 ≤ R.frames ∧ 8 + (zk_ml J + 11) + (zrm J).locals ≤ R.locals := ⟨Nat.le_trans h1 hR.1, Nat.le_trans h2 hR.2.1⟩
  have hf : uc + zk_mc J ≤ R.cells ∧ us + zk_ms J ≤ R.slots := ⟨Nat.le_trans h4 hR.2.2.1, Nat.le_trans h5 hR.2.2.2⟩
  have hW : 2 * (F0 m pc ls ((vs.reverse ++ r).map (zad φ))).monitorRoom + ((r.map (zad φ)).map fun v => v.category).sum ≤ 8 := by
    rw [zct_map]
    show 2 * 0 + zct r ≤ 8
    omega
  have hsz : (F0 m pc ls ((vs.reverse ++ r).map (zad φ))).locals.size = zk_ml K := hat.loc.1
  have con' := con D dA φ H.size
  have hstk : ∀ (a : Nat) (as : List Value), vs = .ref a :: as → (vs.reverse ++ r).map (zad φ) = (as.map (zad φ)).reverse ++ .ref (φ a) :: r.map (zad φ) := fun a as hv => by
    rw [hv]
    simp [zad]
  have hnst : ¬ (y = 1 ∨ y = 4 ∨ y = 6) → ∃ a as, vs = .ref a :: as := fun hy => by
    unfold zrcv at h6
    rw [if_neg hy] at h6
    split at h6
    · exact ⟨_, _, rfl⟩
    · cases h6
  have hcases : y = 0 ∨ y = 1 ∨ (y = 2 ∨ y = 5) ∨ y = 4 ∨ y = 6 := by
    by_cases a0 : y = 0
    · exact Or.inl a0
    by_cases a1 : y = 1
    · exact Or.inr (Or.inl a1)
    by_cases a2 : y = 2 ∨ y = 5
    · exact Or.inr (Or.inr (Or.inl a2))
    by_cases a4 : y = 4
    · exact Or.inr (Or.inr (Or.inr (Or.inl a4)))
    by_cases a6 : y = 6
    · exact Or.inr (Or.inr (Or.inr (Or.inr a6)))
    rw [if_neg a0, if_neg a1, if_neg a2, if_neg a4, if_neg a6] at hcc
    cases hcc
  rcases hcases with hy | hy | hy | hy | hy
  · subst hy
    rw [if_pos rfl] at hcc
    simp only [Bool.and_eq_true, Bool.not_eq_true', decide_eq_true_eq] at hcc
    obtain ⟨s1, s2, s3, s4⟩ := hcc
    rw [if_neg (by simp [s1])] at w2
    obtain ⟨a, as, hv⟩ := hnst (by omega)
    have hrc : zal M a = true ∧ M.2.1 a = (zk_own J, zN (zk_own J)) := by
      simp only [zrcv, hv] at h6
      simpa using h6
    have hwa := zW_get (dA := dA) (φ := φ) hrc.1
    rw [hrc.2, zE_obj dA φ (by omega)] at hwa
    have hrecv := va_recv hK hat.P (zC_get s2) hwa
    have hpre' : ∀ U : State, U.heap = H → s.WarmedH U.vm → zPc D dA φ vs M H.size (Value.ref (φ a) :: as.map (zad φ)).toArray U := fun U hU hW => by
      have := hPre U hU hW
      rw [hv] at this ⊢
      exact this
    have key := vx_runV (locs := locs) (l := l) (e := e) (below := below) (meth := meth) (own := zcn (zk_own K)) (C := zcn (zk_own J)) (b := φ a) (As := as.map (zad φ)) (rest := r.map (zad φ)) (Ts := zG) (index := ix) (g := F0 m pc ls ((vs.reverse ++ r).map (zad φ))) ⟨hx, hb, hml, hown, hts⟩ con'
      (cwV (R := R) (bytes := zk_by J) (maxL := zk_ml J) (ret := zk_rt J) (ws' := zG) (zk_na J) hts (zgood (fun w hw => by
        unfold wsV at hw
        rcases List.mem_append.mp hw with hw | hw
        · simp only [List.mem_cons, List.not_mem_nil, or_false] at hw
          rcases hw with hw | hw | hw | hw <;> rw [hw]
          · exact hpc.1 (by omega)
          · exact w2
          · exact zG_of s4 rfl
          · rw [← w4]; exact w3
        · exact zmemws w1 w hw)) (by unfold zws zcw; rw [if_pos s3]) rfl rfl ⟨w4, w6.1, w6.2, w7⟩ hRm)
      ⟨hbl, hrecv, hpre'⟩ rfl (by rw [hv] at hn; simpa using hn) hsz (hstk a as hv) hW hd hf
    exact key
  · subst hy
    rw [if_neg (by omega), if_pos rfl] at hcc
    simp only [Bool.and_eq_true, decide_eq_true_eq] at hcc
    obtain ⟨s1, s2, s3⟩ := hcc
    rw [if_pos s1] at w2
    have key := vx_runS (locs := locs) (l := l) (e := e) (below := below) (meth := meth) (own := zcn (zk_own K)) (As := vs.map (zad φ)) (rest := r.map (zad φ)) (Ts := zG) (index := ix) (g := F0 m pc ls ((vs.reverse ++ r).map (zad φ))) ⟨hx, hb, hml, hown, hts⟩ con'
      (cwS (R := R) (bytes := zk_by J) (maxL := zk_ml J) (ret := zk_rt J) (ws' := zG) (zk_na J) hts (zgood (fun w hw => by
        unfold wsS at hw
        rcases List.mem_append.mp hw with hw | hw
        · simp only [List.mem_cons, List.not_mem_nil, or_false] at hw
          rcases hw with hw | hw | hw <;> rw [hw]
          · exact hpc.1 (by omega)
          · exact w2
          · rw [← s3, ← w4]; exact w3
        · exact zmemws w1 w hw)) (by unfold zws zcw; rw [if_pos s2]) rfl rfl ⟨by rw [w4, s3], w6.1, w6.2, w7⟩ hRm)
      ⟨hbl, hPre⟩ rfl (by simpa using hn) hsz (by simp) hW hd hf
    exact key
  · rw [if_neg (by omega), if_neg (by omega), if_pos hy] at hcc
    simp only [Bool.and_eq_true, Bool.not_eq_true', decide_eq_true_eq] at hcc
    obtain ⟨s1, s2, s3, s4⟩ := hcc
    rw [if_neg (by simp [s1])] at w2
    obtain ⟨a, as, hv⟩ := hnst (by omega)
    have hpre' : ∀ U : State, U.heap = H → s.WarmedH U.vm → zPc D dA φ vs M H.size (Value.ref (φ a) :: as.map (zad φ)).toArray U := fun U hU hW => by
      have := hPre U hU hW
      rw [hv] at this ⊢
      exact this
    have hlen : (as.map (zad φ)).length = zk_na J := by
      rw [hv, if_neg (by omega)] at hn
      simpa using hn
    have hd' : decode (zk_by K) pc = .ok (.invokespecial ix, 3) := by
      rw [hd]
      unfold zcop
      rw [if_neg (by omega), if_pos hy]
    by_cases hy2 : y < 3 ∨ y = 6
    · have key := vx_runI (locs := locs) (l := l) (e := e) (below := below) (meth := meth) (own := zcn (zk_own K)) (b := φ a) (As := as.map (zad φ)) (rest := r.map (zad φ)) (Ts := zG) (index := ix) (g := F0 m pc ls ((vs.reverse ++ r).map (zad φ))) ⟨hx, hb, hml, hown, hts⟩ con'
        (cwI (R := R) (bytes := zk_by J) (maxL := zk_ml J) (ws' := zG) (zk_na J) hts (zgood (zmemws w1)) (by unfold zws zcw; rw [if_pos s2, s4]) rfl rfl (hts _ w3) (hts _ (hpc.1 hy2)) (hts _ w2) s3 ⟨w6.1, w6.2, w7⟩ hRm)
        ⟨hbl, hpre'⟩ rfl hlen hsz (hstk a as hv) hW hd' hf
      exact key
    · have key := vx_runIN (locs := locs) (l := l) (e := e) (below := below) (meth := meth) (own := zcn (zk_own K)) (host := zhost (zk_own K)) (b := φ a) (As := as.map (zad φ)) (rest := r.map (zad φ)) (Ts := zG) (index := ix) (g := F0 m pc ls ((vs.reverse ++ r).map (zad φ))) ⟨hx, hb, hml, hown, hts⟩ con'
        ⟨va_cnB (R := R) (bytes := zk_by J) (maxL := zk_ml J) (ret := none) (ws' := zG) (zk_na J) hts (zgood (zmemws w1)) (by unfold zws zcw; rw [if_pos s2, s4]) rfl rfl (hFa.1 _ (hpc.2 hy2) rfl) (hts _ w3) ⟨w6.1, w6.2, w7⟩ hRm, s3, hts _ w2⟩
        ⟨hbl, hpre'⟩ rfl hlen hsz (hstk a as hv) hW hd' hf
      exact key
  · subst hy
    rw [if_neg (by omega), if_neg (by omega), if_neg (by omega), if_pos rfl] at hcc
    simp only [Bool.and_eq_true, decide_eq_true_eq] at hcc
    obtain ⟨s1, s2⟩ := hcc
    rw [if_pos s1] at w2
    have key := vx_runSN (locs := locs) (l := l) (e := e) (below := below) (meth := meth) (own := zcn (zk_own K)) (host := zhost (zk_own K)) (As := vs.map (zad φ)) (rest := r.map (zad φ)) (Ts := zG) (index := ix) (g := F0 m pc ls ((vs.reverse ++ r).map (zad φ))) ⟨hx, hb, hml, hown, hts⟩ con'
      ⟨va_cnB (R := R) (bytes := zk_by J) (maxL := zk_ml J) (ret := zk_rt J) (ws' := zG) (zk_na J) hts (zgood (zmemws w1)) (by unfold zws zcw; rw [if_pos s2]) rfl rfl (hFa.1 _ (hpc.2 (by omega)) rfl) (hts _ w3) ⟨w6.1, w6.2, w7⟩ hRm, hts _ w2, trivial⟩
      ⟨hbl, hPre⟩ rfl (by simpa using hn) hsz (by simp) hW hd hf
    exact key
  · subst hy
    rw [if_neg (by omega), if_neg (by omega), if_neg (by omega), if_neg (by omega), if_pos rfl] at hcc
    simp only [Bool.and_eq_true, Bool.not_eq_true', decide_eq_true_eq, decide_eq_false_iff_not] at hcc
    obtain ⟨s1, s2, s3⟩ := hcc
    rw [if_pos s1] at w2
    have key := vx_runSX (locs := locs) (l := l) (e := e) (below := below) (meth := meth) (own := zcn (zk_own K)) (As := vs.map (zad φ)) (rest := r.map (zad φ)) (Ts := zG) (index := ix) (g := F0 m pc ls ((vs.reverse ++ r).map (zad φ))) ⟨hx, hb, hml, hown, hts⟩ con'
      (vx_cwSW (R := R) (bytes := zk_by J) (maxL := zk_ml J) (ret := zk_rt J) (hh := zk_hs J) (ws' := zG) (zk_na J) hts (zgood (fun w hw => by
        unfold va_wsS at hw
        rcases List.mem_append.mp hw with hw | hw
        · simp only [List.mem_cons, List.not_mem_nil, or_false] at hw
          rcases hw with hw | hw | hw <;> rw [hw]
          · exact hpc.1 (by omega)
          · exact w2
          · exact w3
        · exact zmemws w1 w hw)) (by unfold zws zcw; rw [if_neg s2]) rfl rfl ⟨w6.1, w6.2, w7⟩ hRm)
      ⟨hbl, hPre⟩ rfl (by simpa using hn) hsz (by simp) hW hd hf
    exact key
end ZCALL
