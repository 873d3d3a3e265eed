/-! new T[n][m].. : the machine makes what the pure machine makes (own rows) -/
theorem zmk_snd : ∀ (ns : List Nat) (k : Nat) (M : zM), ns ≠ [] → (zmk ns k M).2 = M.1 + 1
  | [], _, _, h => absurd rfl h
  | [_], _, _, _ => rfl
  | _ :: _ :: _, _, _, _ => rfl
/-- what a making leaves: the cells that were there -/
def zKeep (M M' : zM) (n : Nat) : Prop := M'.1 = M.1 + n ∧ ∀ b, b ≤ M.1 → M'.2.1 b = M.2.1 b ∧ M'.2.2 b = M.2.2 b
theorem zKeep_new (M : zM) (q : Nat × Nat) (f : Nat → Value) : zKeep M (znew M q f) 1 := by
  refine ⟨rfl, fun b hb => ?_⟩
  have e0 : ¬ b = M.1 + 1 := by omega
  simp only [znew, e0, if_false, and_self]
theorem zmkL_keep {F : zM → zM × Nat} {c : Nat} (hF : ∀ M, zKeep M (F M).1 c) (a : Nat) : ∀ (i : Nat) (M : zM), (zmkL F a i M).1 = M.1 + i * c ∧ ∀ b, b ≤ M.1 → (zmkL F a i M).2.1 b = M.2.1 b ∧ (b ≠ a → (zmkL F a i M).2.2 b = M.2.2 b)
  | 0, M => by
    refine ⟨?_, fun b _ => ⟨rfl, fun _ => rfl⟩⟩
    show M.1 = M.1 + 0 * c
    omega
  | i + 1, M => by
    obtain ⟨h1, h2⟩ := zmkL_keep hF a i M
    obtain ⟨g1, g2⟩ := hF (zmkL F a i M)
    refine ⟨?_, fun b hb => ?_⟩
    · show (F (zmkL F a i M)).1.1 = _
      rw [g1, h1, Nat.succ_mul]
      omega
    · have hb' : b ≤ (zmkL F a i M).1 := by rw [h1]; exact Nat.le_add_right_of_le hb
      refine ⟨?_, fun hne => ?_⟩
      · show (F (zmkL F a i M)).1.2.1 b = _
        rw [(g2 b hb').1, (h2 b hb).1]
      · have e0 : ∀ k, ¬ (b = a ∧ k = i) := fun k e => hne e.1
        funext k
        show (if b = a ∧ k = i then _ else (F (zmkL F a i M)).1.2.2 b k) = _
        rw [if_neg (e0 k), (g2 b hb').2, (h2 b hb).2 hne]
theorem zmk_keep : ∀ (ns : List Nat) (k : Nat) (M : zM), zKeep M (zmk ns k M).1 (zmc ns)
  | [], _, M => ⟨rfl, fun _ _ => ⟨rfl, rfl⟩⟩
  | [_], k, M => zKeep_new M _ _
  | n :: m :: ns, k, M => by
    obtain ⟨h1, h2⟩ := zmkL_keep (F := zmk (m :: ns) (zdn k)) (fun M' => zmk_keep (m :: ns) (zdn k) M') (M.1 + 1) n (znew M (k, n) (fun _ => .null))
    obtain ⟨g1, g2⟩ := zKeep_new M (k, n) (fun _ => .null)
    refine ⟨?_, fun b hb => ?_⟩
    · show (zmkL _ _ _ _).1 = _
      rw [h1, g1]
      show M.1 + 1 + n * zmc (m :: ns) = M.1 + (1 + n * zmc (m :: ns))
      omega
    · obtain ⟨a1, a2⟩ := h2 b (by rw [g1]; omega)
      exact ⟨a1.trans (g2 b hb).1, (a2 (by omega)).trans (g2 b hb).2⟩
/-- the classes of arrays, at a machine's tables -/
def zMF (dA : Nat → ClassId) (vm : Vm) : Prop := (∀ k, (k = 40 ∨ k = 41 ∨ k = 42 ∨ k = 43) → ∃ kA : Class, vm.classes[dA k]? = some kA ∧ kA.kind = .array (dA (zdn k)) (zqt k)) ∧
  (∃ (kA : Class) (cc : ClassId), vm.classes[dA 20]? = some kA ∧ kA.kind = .array cc .int) ∧ ∃ (kA : Class) (cc : ClassId), vm.classes[dA 23]? = some kA ∧ kA.kind = .array cc .boolean
theorem zMF.moved {dA : Nat → ClassId} {u U : State} (hvm : u.vm.Alike U.vm) (h : zMF dA u.vm) : zMF dA U.vm := by
  obtain ⟨h1, ⟨kA, cc, h2, h3⟩, kB, cb, h4, h5⟩ := h
  refine ⟨fun k hk => ?_, ?_, ?_⟩
  · obtain ⟨kA, g1, g2⟩ := h1 k hk
    obtain ⟨k', e1, e2⟩ := hvm.2.2 _ _ g1
    exact ⟨k', e1, by rw [e2]; exact g2⟩
  · obtain ⟨k', e1, e2⟩ := hvm.2.2 _ _ h2
    exact ⟨k', cc, e1, by rw [e2]; exact h3⟩
  · obtain ⟨k', e1, e2⟩ := hvm.2.2 _ _ h4
    exact ⟨k', cb, e1, by rw [e2]; exact h5⟩
theorem zMF_of {D : va_G} {dA : Nat → ClassId} {U : State} (hK : va_K D zC (ztl dA) U) (hA : zArr D dA U) : zMF dA U.vm := by
  refine ⟨fun k hk => ?_, ?_, ?_⟩
  · have key : zup (zdn k) = k ∧ zqk k = true ∧ zcc D dA (zdn k) = dA (zdn k) := by
      rcases hk with h | h | h | h <;> subst h <;> exact ⟨rfl, rfl, rfl⟩
    obtain ⟨kA, kE, h1, h2, -⟩ := hA (zdn k) (by rw [key.1]; exact key.2.1)
    rw [key.1] at h1 h2
    rw [key.2.2] at h2
    exact ⟨kA, h1, h2⟩
  · obtain ⟨-, kA, h1, comp, h2⟩ := (hK.2 0 _ rfl).1 0 (fun _ => .null)
    exact ⟨kA, comp, h1, h2⟩
  · obtain ⟨-, kA, h1, comp, h2⟩ := (hK.2 1 _ rfl).1 0 (fun _ => .null)
    exact ⟨kA, comp, h1, h2⟩
/-- class, and what stands in a new array of kind k -/
theorem zMF_get {dA : Nat → ClassId} {vm : Vm} (h : zMF dA vm) {k : Nat} (hk : k = 20 ∨ k = 23 ∨ k = 40 ∨ k = 41 ∨ k = 42 ∨ k = 43) : ∃ (kA : Class) (comp : ClassId) (ty : FieldType), vm.classes[dA k]? = some kA ∧ kA.kind = .array comp ty ∧ defaultValue ty = zdef k ∧ componentBytes ty ≤ 8 ∧ fits ty (zdef k) = true ∧ (40 ≤ k → comp = dA (zdn k) ∧ ty.isReference = true) := by
  obtain ⟨h1, ⟨kA, cc, h2, h3⟩, kB, cb, h4, h5⟩ := h
  rcases hk with e | e | e | e | e | e
  · subst e; exact ⟨kA, cc, .int, h2, h3, rfl, by decide, rfl, fun q => by omega⟩
  · subst e; exact ⟨kB, cb, .boolean, h4, h5, rfl, by decide, rfl, fun q => by omega⟩
  · subst e
    obtain ⟨kC, g1, g2⟩ := h1 40 (Or.inl rfl)
    exact ⟨kC, _, _, g1, g2, rfl, by decide, rfl, fun _ => ⟨rfl, rfl⟩⟩
  · subst e
    obtain ⟨kC, g1, g2⟩ := h1 41 (Or.inr (Or.inl rfl))
    exact ⟨kC, _, _, g1, g2, rfl, by decide, rfl, fun _ => ⟨rfl, rfl⟩⟩
  · subst e
    obtain ⟨kC, g1, g2⟩ := h1 42 (Or.inr (Or.inr (Or.inl rfl)))
    exact ⟨kC, _, _, g1, g2, rfl, by decide, rfl, fun _ => ⟨rfl, rfl⟩⟩
  · subst e
    obtain ⟨kC, g1, g2⟩ := h1 43 (Or.inr (Or.inr (Or.inr rfl)))
    exact ⟨kC, _, _, g1, g2, rfl, by decide, rfl, fun _ => ⟨rfl, rfl⟩⟩
section ZMA
variable {p : Program} {l : Launch} {e : Env} {R : Room} {s : State} {m : MethodId} {args : Array Value} {below : List Frame} {meth : Method} {c : Code}
variable {D : va_G} {dA : Nat → ClassId} {A : Nat → Prop}
/-- the state in the midst of a making -/
def zmR (p : Program) (l : Launch) (e : Env) (R : Room) (s : State) (m : MethodId) (args : Array Value) (below : List Frame) (meth : Method) (c : Code) (D : va_G) (dA : Nat → ClassId) (A : Nat → Prop) (φ : Nat → Nat) (M : zM) (T : State) (locs : List Loc) (cells slots : Nat) : Prop :=
  Stand p l e R s m args below meth c T locs cells slots ∧ va_P D zC (zW dA φ M) T.heap ∧ va_D A (zW dA φ M) ∧ va_S A s.heap T.heap locs ∧ zwf M
/-- one array, of defaults -/
theorem zma_new {φ : Nat → Nat} {M : zM} {T : State} {locs : List Loc} {cells slots : Nat} (hA : ∀ q, s.heap.size ≤ q → A q) (hR : zmR p l e R s m args below meth c D dA A φ M T locs cells slots) (hF : zMF dA T.vm) {k n : Nat} (hk : k = 20 ∨ k = 23 ∨ k = 40 ∨ k = 41 ∨ k = 42 ∨ k = 43) {ty : FieldType} {kA : Class} {comp : ClassId} (hkA : T.vm.classes[dA k]? = some kA) (hkind : kA.kind = .array comp ty) (hty : componentBytes ty ≤ 8) (hfit : fits ty (zdef k) = true) (hn : n ≤ 1000) (hc : cells + 1 ≤ R.cells) (hs : slots + n ≤ R.slots) :
    ∃ (T' : State) (φ' : Nat → Nat), zmR p l e R s m args below meth c D dA A φ' (znew M (k, n) (fun _ => zdef k)) T' locs (cells + 1) (slots + n) ∧ T'.vm = T.vm ∧ (∀ a, a ≤ M.1 → φ' a = φ a) ∧
      ∀ (f : JFrame) (E : CtlPost) (d : Bool) (acts : List Action) (Q : Addr → Pre), (∀ d' acts', Q (φ' (M.1 + 1)) d' acts' (T'.setTop f)) → wp (Jvm.newArray (dA k) n (zdef k)) Q E e d acts (T.setTop f) := by
  obtain ⟨X, hP, hD, hS, hwf⟩ := hR
  obtain ⟨hr1, hr2⟩ := X.roomAbove hc hs
  have hlim : ¬ n > e.platform.arrayLengthLimit := by rw [Launch.admits_arrayLengthLimit X.admits]; omega
  have hheap : ¬ n * componentBytes ty > e.platform.maxHeapBytes := by
    rw [Launch.admits_maxHeapBytes X.admits]
    have := Nat.mul_le_mul hn hty
    omega
  have hdef : (zdef k).isDefault = true := by
    rcases hk with h | h | h | h | h | h <;> subst h <;> rfl
  have X1 := X.pushed { cls := dA k, slots := Array.replicate n (zdef k), vm := .none }
  rw [Array.size_replicate] at X1
  obtain ⟨φ', hφ⟩ : ∃ φ' : Nat → Nat, φ' = fun a => if a = M.1 + 1 then T.heap.size else φ a := ⟨_, rfl⟩
  have e1 : ∀ a, a ≤ M.1 → φ' a = φ a := fun a ha => by rw [hφ]; exact if_neg (by omega)
  have e2 : φ' (M.1 + 1) = T.heap.size := by rw [hφ]; exact if_pos rfl
  have hz : ∀ b, zdef k ≠ .ref b := fun b h => zdef_ref k b h
  have o1 : ∀ q : Nat, q < T.heap.size → (T.pushCell { cls := dA k, slots := Array.replicate n (zdef k), vm := .none }).heap[q]? = T.heap[q]? := fun q hq => State.heap_pushCell_of_lt _ _ hq
  have hcell : (T.pushCell { cls := dA k, slots := Array.replicate n (zdef k), vm := .none }).heap[T.heap.size]? = some { cls := dA k, slots := Array.replicate n (zdef k), vm := .none } := State.heap_pushCell_size _ _
  have key : ∃ x : vp_A, zE dA φ' (k, n) (fun _ => zdef k) = .inl (dA k, x) ∧ vp_cell (dA k) x = ({ cls := dA k, slots := Array.replicate n (zdef k), vm := .none } : Cell) := by
    rcases hk with h | h | h | h | h | h <;> subst h <;> exact ⟨_, rfl, (arrV_new _ _ _).symm⟩
  obtain ⟨x, x1, x2⟩ := key
  have hW := zW_new (dA := dA) (φ := φ) (φ' := φ') (q := T.heap.size) (k := (k, n)) (f := fun _ => zdef k) hwf e1 e2 x1.symm
  refine ⟨_, φ', ⟨X1, ?_, ?_, ?_, ?_⟩, rfl, e1, fun f E d acts Q kk => ?_⟩
  · rw [← hW]
    refine (hP.kept (fun i y hy => o1 y.1 ((hP i y hy).lt))).app (fun i y hy => ?_)
    cases i with
    | zero =>
      cases hy
      show _ = some (vp_cell (dA k) x)
      rw [x2]
      exact hcell
    | succ i => cases hy
  · rw [← hW]
    exact hD.push hP rfl (hA _ hS.1)
  · refine ⟨?_, fun x h1 h2 => (o1 x (Nat.lt_of_lt_of_le h1 hS.1)).trans (hS.2.1 x h1 h2), hS.2.2⟩
    have := State.heap_pushCell_size T ({ cls := dA k, slots := Array.replicate n (zdef k), vm := .none } : Cell)
    have h3 := (Array.getElem?_eq_some_iff.mp this).1
    exact Nat.le_trans hS.1 (Nat.le_of_lt h3)
  · exact zwf_new hwf (fun j b h => absurd h (hz b))
  · have hfits : ∀ i v, (Array.replicate n (zdef k))[i]? = some v → (T.setTop f).fitsSlot (dA k) .none i v = true := by
      intro i v hv
      rw [Array.getElem?_replicate] at hv
      split at hv
      · cases hv
        simp [State.fitsSlot, State.slotType?, hkA, hkind, hfit]
      · cases hv
    have hall : allocActs (Array.replicate n (zdef k)) (T.setTop f).heap.size acts = acts := by
      unfold allocActs
      rw [if_pos]
      rw [Array.all_replicate]
      split <;> simp [hdef]
    simp only [Jvm.newArray, Jvm.arrayFits, wp_bind', W.ask, W.ite, hlim, if_false, wp_pure', W.theClass, State.vm_setTop, hkA, hkind, hheap, W.alloc, W.stop, Option.some.injEq, exists_eq_left', Array.size_replicate, hall]
    rw [if_neg (by omega)]
    refine ⟨?_, ?_, hfits, ?_⟩
    · rw [State.heap_setTop]; omega
    · show T.slotsUsed + n ≤ _
      omega
    · rw [State.pushCell_setTop, State.heap_setTop, ← e2]
      exact kk d acts
theorem zdok_kind : ∀ (ns : List Nat) (k : Nat), zdok ns k = true → k = 20 ∨ k = 23 ∨ k = 40 ∨ k = 41 ∨ k = 42 ∨ k = 43
  | [], _, h => by cases h
  | [_], k, h => by
    simp only [zdok, Bool.or_eq_true, beq_iff_eq] at h
    omega
  | _ :: _ :: _, k, h => by
    simp only [zdok, Bool.and_eq_true, Bool.or_eq_true, beq_iff_eq] at h
    omega
theorem zmc_pos : ∀ (ns : List Nat), ns ≠ [] → 1 ≤ zmc ns
  | [], h => absurd rfl h
  | [_], _ => Nat.le_refl _
  | _ :: _ :: _, _ => Nat.le_add_right _ _
theorem znn' {n : Int32} (h : 0 ≤ n) : ¬ n < 0 := by
  rw [Int32.lt_iff_toInt_lt]
  rw [Int32.le_iff_toInt_le] at h
  omega
/-- one turn of the filling -/
theorem zma_fill {k n y : Nat} {a : Nat} {φ' : Nat → Nat} {M' : zM} {T' : State} {lx : List Loc} {cells slots b : Nat} {ty : FieldType} {kA : Class} {comp : ClassId} (hq : zqk k = true) (hkA : T'.vm.classes[dA k]? = some kA) (hkind : kA.kind = .array comp ty) (href : ty.isReference = true) (hy : y < n) (ha : zal M' a = true) (hka : M'.2.1 a = (k, n)) (hb : b ≤ M'.1) (hR : zmR p l e R s m args below meth c D dA A φ' M' T' lx cells slots) :
    ∃ T'' : State, zmR p l e R s m args below meth c D dA A φ' (zput M' a y (.ref b)) T'' (lx ++ [⟨φ' a, y⟩]) cells slots ∧ T''.vm = T'.vm ∧ ∀ (f : JFrame) (E : CtlPost) (d : Bool) (acts : List Action) (Q : PUnit → Pre), (∀ d' acts', Q ⟨⟩ d' acts' (T''.setTop f)) → wp (Jvm.writeLoc (φ' a) y (.ref (φ' b))) Q E e d acts (T'.setTop f) := by
  obtain ⟨X', hP', hD', hS', hwf'⟩ := hR
  have hw := zW_get (dA := dA) (φ := φ') ha
  rw [hka, zE_ref dA φ' (q := (k, n)) hq] at hw
  have hcell : T'.heap[φ' a]? = some (arrV (dA k) n (fun j => va_rf (zgr φ' (M'.2.2 a j)))) := hP' _ _ hw
  have e2 : (.inl (dA k, n, .inr (.inr (.inr (.inr (va_up (fun j => zgr φ' (M'.2.2 a j)) y (some (φ' b))))))) : va_E) = zE dA φ' (M'.2.1 a) (fun q => if q = y then .ref b else M'.2.2 a q) := by
    rw [hka, zE_ref dA φ' (q := (k, n)) hq]
    refine congrArg (fun g => (.inl (dA k, n, .inr (.inr (.inr (.inr g)))) : va_E)) (funext fun q => ?_)
    simp only [va_up]
    split <;> rfl
  have e3 := zW_put ha e2
  have hlt2 : φ' a < T'.heap.size := (Array.getElem?_eq_some_iff.mp hcell).1
  refine ⟨T'.setCell (φ' a) ((arrV (dA k) n (fun j => va_rf (zgr φ' (M'.2.2 a j)))).setSlot y (.ref (φ' b))), ⟨X'.stored hcell _ _, ?_, ?_, ?_, ?_⟩, rfl, fun f E d acts Q kk => ?_⟩
  · rw [← e3]
    refine hP'.set hD' hw ?_ (fun q hq => heapAt_setCell_ne _ (Ne.symm hq))
    show _ = some (vp_cell (dA k) _)
    rw [heapAt_setCell_self _ hlt2, vp_cell_q, arrV_store]
    refine congrArg (fun g => some (arrV (dA k) n g)) (funext fun q => ?_)
    by_cases hq : q = y
    · subst hq
      simp [updV, va_up, va_rf]
    · simp [updV, va_up, hq]
  · rw [← e3]
    exact hD'.set hw
  · exact hS'.put (by rw [size_setCell]) (fun q hq => heapAt_setCell_ne _ (Ne.symm hq)) (hD'.2 _ _ hw)
  · exact zwf_put hwf' (fun b' hb' => by cases hb'; exact hb)
  · simp only [W.writeLoc, State.heap_setTop]
    refine ⟨arrV (dA k) n (fun j => va_rf (zgr φ' (M'.2.2 a j))), hcell, (fun h => by cases h), (by rw [arrV_size]; exact hy), ?_, ?_⟩
    · have hcl : (T'.setTop f).vm.classes[dA k]? = some kA := by rw [State.vm_setTop]; exact hkA
      simp [State.fitsSlot, State.slotType?, arrV, hkA, hkind]
      cases ty <;> first | rfl | cases href
    · rw [State.setCell_setTop]
      exact kk _ _
set_option maxHeartbeats 4000000 in
/-- 'make' of the machine's -/
theorem zma_make (hA : ∀ q, s.heap.size ≤ q → A q) : ∀ (is : List Int32) (k : Nat) (T : State) (φ : Nat → Nat) (M : zM) (locs : List Loc) (cells slots : Nat), (∀ i, i ∈ is → 0 ≤ i ∧ i.toNatClampNeg ≤ 1000) → zdok (is.map Int32.toNatClampNeg) k = true → zmR p l e R s m args below meth c D dA A φ M T locs cells slots → zMF dA T.vm →
    cells + zmc (is.map Int32.toNatClampNeg) ≤ R.cells → slots + zms (is.map Int32.toNatClampNeg) ≤ R.slots →
    ∃ (T' : State) (φ' : Nat → Nat) (locs' : List Loc), zmR p l e R s m args below meth c D dA A φ' (zmk (is.map Int32.toNatClampNeg) k M).1 T' locs' (cells + zmc (is.map Int32.toNatClampNeg)) (slots + zms (is.map Int32.toNatClampNeg)) ∧ T'.vm = T.vm ∧ (∀ a, a ≤ M.1 → φ' a = φ a) ∧
      ∀ (f : JFrame) (E : CtlPost) (d : Bool) (acts : List Action) (Q : Addr → Pre), (∀ d' acts', Q (φ' (M.1 + 1)) d' acts' (T'.setTop f)) → wp (multianewarray.make (dA k) is) Q E e d acts (T.setTop f)
  | [], k, _, _, _, _, _, _, _, hd, _, _, _, _ => by cases hd
  | [i], k, T, φ, M, locs, cells, slots, hi, hd, hR, hF, hc, hs => by
    have hk := zdok_kind _ _ hd
    obtain ⟨kA, comp, ty, h1, h2, h3, h4, h5, -⟩ := zMF_get hF hk
    have hn := hi i List.mem_cons_self
    obtain ⟨T', φ', g1, g2, g3, g4⟩ := zma_new hA hR hF hk h1 h2 h4 h5 hn.2 hc hs
    refine ⟨T', φ', locs, g1, g2, g3, fun f E d acts Q kk => ?_⟩
    rw [multianewarray.make]
    simp only [wp_bind', W.ite, znn' hn.1, if_false, wp_pure', W.theClass, State.vm_setTop, h1, h2, Option.some.injEq, exists_eq_left']
    rw [h3]
    exact g4 f E d acts Q kk
  | i :: j :: is, k, T, φ, M, locs, cells, slots, hi, hd, hR, hF, hc, hs => by
    have hn := hi i List.mem_cons_self
    have hi' : ∀ x, x ∈ j :: is → 0 ≤ x ∧ x.toNatClampNeg ≤ 1000 := fun x hx => hi x (List.mem_cons_of_mem _ hx)
    simp only [List.map_cons, zdok, Bool.and_eq_true, Bool.or_eq_true, beq_iff_eq] at hd
    obtain ⟨hk0, hd'⟩ := hd
    have hk : k = 20 ∨ k = 23 ∨ k = 40 ∨ k = 41 ∨ k = 42 ∨ k = 43 := by omega
    obtain ⟨kA, comp, ty, h1, h2, h3, h4, h5, h6⟩ := zMF_get hF hk
    obtain ⟨h6, href⟩ := h6 (by omega)
    subst h6
    have hz : zdef k = .null := by
      rcases hk0 with ((e | e) | e) | e <;> subst e <;> rfl
    have hq : zqk k = true := by
      rcases hk0 with ((e | e) | e) | e <;> subst e <;> rfl
    generalize hns : (j :: is).map Int32.toNatClampNeg = ns
    replace hd' : zdok ns (zdn k) = true := by rw [← hns]; exact hd'
    have hns' : ns ≠ [] := by rw [← hns]; exact List.cons_ne_nil _ _
    have emc : zmc ((i :: j :: is).map Int32.toNatClampNeg) = 1 + i.toNatClampNeg * zmc ns := by rw [← hns]; rfl
    have ems : zms ((i :: j :: is).map Int32.toNatClampNeg) = i.toNatClampNeg + i.toNatClampNeg * zms ns := by rw [← hns]; rfl
    have emk : ∀ M', (zmk ((i :: j :: is).map Int32.toNatClampNeg) k M') = (zmkL (zmk ns (zdn k)) (M'.1 + 1) i.toNatClampNeg (znew M' (k, i.toNatClampNeg) (fun _ => .null)), M'.1 + 1) := fun M' => by rw [← hns]; rfl
    rw [emc] at hc
    rw [ems] at hs
    simp only [emc, ems, emk]
    generalize hnN : i.toNatClampNeg = n at hc hs hn
    have hfind : ((j :: is).find? (· < 0)) = none := by
      rw [List.find?_eq_none]
      intro x hx
      simp [znn' (hi' x hx).1]
    obtain ⟨T1, φ1, g1, g2, g3, g4⟩ := zma_new hA hR hF hk h1 h2 h4 h5 hn.2 (by omega) (by omega)
    rw [hz] at g1 g4
    generalize hM1 : znew M (k, n) (fun _ => (.null : Value)) = M1 at g1
    have m1 : M1.1 = M.1 + 1 := by rw [← hM1]; rfl
    have mk : M1.2.1 (M.1 + 1) = (k, n) := by rw [← hM1]; exact if_pos rfl
    have hin : ∀ x, zKeep x (zmk ns (zdn k) x).1 (zmc ns) := fun x => zmk_keep ns (zdn k) x
    have lp : ∀ (q y : Nat) (Tx : State) (φx : Nat → Nat) (lx : List Loc), y + q = n → zmR p l e R s m args below meth c D dA A φx (zmkL (zmk ns (zdn k)) (M.1 + 1) y M1) Tx lx (cells + 1 + y * zmc ns) (slots + n + y * zms ns) → Tx.vm = T.vm → (∀ a, a ≤ M1.1 → φx a = φ1 a) →
        ∃ (T' : State) (φ' : Nat → Nat) (locs' : List Loc), zmR p l e R s m args below meth c D dA A φ' (zmkL (zmk ns (zdn k)) (M.1 + 1) n M1) T' locs' (cells + 1 + n * zmc ns) (slots + n + n * zms ns) ∧ T'.vm = T.vm ∧ (∀ a, a ≤ M1.1 → φ' a = φ1 a) ∧
          ∀ (f : JFrame) (E : CtlPost) (d : Bool) (acts : List Action) (Q : PUnit → Pre), (∀ d' acts', Q ⟨⟩ d' acts' (T'.setTop f)) → wp (forIn (List.range' y q 1) PUnit.unit (fun i _ => do Jvm.writeLoc (φ1 (M.1 + 1)) i (.ref (← multianewarray.make (dA (zdn k)) (j :: is))); Pure.pure (ForInStep.yield PUnit.unit))) Q E e d acts (Tx.setTop f) := by
      intro q
      induction q with
      | zero =>
        intro y Tx φx lx hy r1 r2 r3
        have : y = n := by omega
        subst this
        refine ⟨Tx, φx, lx, r1, r2, r3, fun f E d acts Q kk => ?_⟩
        show wp (Pure.pure PUnit.unit) _ _ _ _ _ _
        simp only [wp_pure']
        exact kk d acts
      | succ q ih =>
        intro y Tx φx lx hy r1 r2 r3
        have hlt : y < n := by omega
        have hmc : y * zmc ns + zmc ns ≤ n * zmc ns := by
          rw [← Nat.succ_mul]; exact Nat.mul_le_mul_right _ hlt
        have hms : y * zms ns + zms ns ≤ n * zms ns := by
          rw [← Nat.succ_mul]; exact Nat.mul_le_mul_right _ hlt
        generalize hMx : zmkL (zmk ns (zdn k)) (M.1 + 1) y M1 = Mx at r1
        obtain ⟨kp1, kp2⟩ := zmkL_keep hin (M.1 + 1) y M1
        rw [hMx] at kp1 kp2
        obtain ⟨T', φ', lx', q1, q2, q3, q4⟩ := zma_make hA (j :: is) (zdn k) Tx φx Mx lx _ _ hi' (by rw [hns]; exact hd') r1 (by rw [r2]; exact hF) (by rw [hns]; omega) (by rw [hns]; omega)
        rw [hns] at q1
        generalize hM' : (zmk ns (zdn k) Mx).1 = M' at q1
        obtain ⟨c1, c2⟩ := hin Mx
        rw [hM'] at c1 c2
        have ha : zal M' (M.1 + 1) = true := by
          simp only [zal, Bool.and_eq_true, decide_eq_true_eq]
          omega
        have hka : M'.2.1 (M.1 + 1) = (k, n) := by
          rw [(c2 _ (by omega)).1, (kp2 _ (by omega)).1, mk]
        have ea : φ1 (M.1 + 1) = φ' (M.1 + 1) := by rw [q3 _ (by omega), r3 _ (by omega)]
        have hpos := zmc_pos ns hns'
        obtain ⟨T'', u1, u2, u3⟩ := zma_fill (b := Mx.1 + 1) hq (by rw [q2, r2]; exact h1) h2 href hlt ha hka (by omega) q1
        have e1 : zmkL (zmk ns (zdn k)) (M.1 + 1) (y + 1) M1 = zput M' (M.1 + 1) y (.ref (Mx.1 + 1)) := by
          show zput (zmk ns (zdn k) (zmkL _ _ _ _)).1 _ _ (.ref (zmk ns (zdn k) (zmkL _ _ _ _)).2) = _
          rw [hMx, hM', zmk_snd ns _ _ hns']
        have ecells : cells + 1 + (y + 1) * zmc ns = cells + 1 + y * zmc ns + zmc ns := by rw [Nat.succ_mul]; omega
        have eslots : slots + n + (y + 1) * zms ns = slots + n + y * zms ns + zms ns := by rw [Nat.succ_mul]; omega
        obtain ⟨Te, φe, le, v1, v2, v3, v4⟩ := ih (y + 1) T'' φ' _ (by omega) (by rw [e1, ecells, eslots]; exact u1) (u2.trans (q2.trans r2)) (fun a h => by rw [q3 a (by omega), r3 a h])
        refine ⟨Te, φe, le, v1, v2, v3, fun f E d acts Q kk => ?_⟩
        rw [List.range'_succ, List.forIn_cons]
        simp only [wp_bind', wp_pure']
        refine q4 f _ d acts _ (fun d1 acts1 => ?_)
        rw [ea]
        simp only [wp_bind', wp_pure']
        refine u3 f _ d1 acts1 _ (fun d2 acts2 => ?_)
        rw [← ea]
        exact v4 f E d2 acts2 Q kk
    obtain ⟨Te, φe, le, v1, v2, v3, v4⟩ := lp n 0 T1 φ1 locs (by omega) (by rw [Nat.zero_mul, Nat.zero_mul]; exact g1) g2 (fun _ _ => rfl)
    refine ⟨Te, φe, le, by rw [← Nat.add_assoc, ← Nat.add_assoc]; exact v1, v2, fun a h => by rw [v3 a (by omega), g3 a h], fun f E d acts Q kk => ?_⟩
    rw [multianewarray.make]
    simp only [wp_bind', W.ite, znn' hn.1, if_false, wp_pure', W.theClass, State.vm_setTop, h1, h2, Option.some.injEq, exists_eq_left']
    rw [hnN]
    refine g4 f _ d acts _ (fun d1 acts1 => ?_)
    simp only [hfind]
    rw [ite_self, wp_bind', Std.Legacy.Range.forIn_eq_forIn_range']
    have hsz : ([:n] : Std.Legacy.Range).size = n := by simp [Std.Legacy.Range.size]
    rw [hsz]
    refine v4 f _ d1 acts1 _ (fun d2 acts2 => ?_)
    rw [← v3 (M.1 + 1) (by omega)]
    simp only [wp_pure']
    exact kk d2 acts2
theorem zpopi_spec {φ : Nat → Nat} : ∀ (n : Nat) (acc : List Nat) (st : List Value) (ns : List Nat) (r : List Value), zpopi n acc st = some (ns, r) → ∃ is : List Int32, is.length = n ∧ (∀ i, i ∈ is → 0 ≤ i ∧ i.toNatClampNeg ≤ 1000) ∧ ns = is.map Int32.toNatClampNeg ++ acc ∧ st = (is.reverse.map Value.int) ++ r
  | 0, acc, st, ns, r, h => by
    cases h
    exact ⟨[], rfl, fun i h => (by cases h), rfl, rfl⟩
  | n + 1, acc, .int i :: st, ns, r, h => by
    simp only [zpopi] at h
    split at h
    · next hc =>
      obtain ⟨is, h1, h2, h3, h4⟩ := zpopi_spec (φ := φ) n _ st ns r h
      refine ⟨is ++ [i], by simp [h1], fun x hx => ?_, ?_, ?_⟩
      · rcases List.mem_append.mp hx with hx | hx
        · exact h2 x hx
        · rw [List.mem_singleton.mp hx]; exact hc
      · rw [h3]; simp
      · rw [h4]; simp
    · cases h
  | n + 1, acc, [], ns, r, h => by cases h
  | n + 1, acc, .long _ :: st, ns, r, h => by cases h
  | n + 1, acc, .double _ :: st, ns, r, h => by cases h
  | n + 1, acc, .float _ :: st, ns, r, h => by cases h
  | n + 1, acc, .ref _ :: st, ns, r, h => by cases h
  | n + 1, acc, .null :: st, ns, r, h => by cases h
variable {H : Heap} {locs : List Loc} {Q : State → Prop} {K : zI} {φ : Nat → Nat} {L : zL} {st : List Value} {M : zM} {ls : Array Slot} {pc uc us : Nat}
set_option maxHeartbeats 4000000 in
theorem z_multi (hX : zFix p R s m args meth c D dA A K) {ix dm k : Nat} (hd : decode (zk_by K) pc = .ok (.multianewarray ix dm, 4)) {nm : String} {cA : ClassId} (hcA : s.vm.findClass nm = some (dA k)) (hlink : Cond.classLink (zcn (zk_own K)) ix nm ∈ zG) {is : List Int32} {r : List Value} (hat : zAt D dA A s (zk_ml K) φ L (is.reverse.map Value.int ++ r) M H locs ls) (hlen : is.length = dm) (h2 : 2 ≤ dm) (hi : ∀ i, i ∈ is → 0 ≤ i ∧ i.toNatClampNeg ≤ 1000) (hok : zdok (is.map Int32.toNatClampNeg) k = true)
    (hc : uc + zmc (is.map Int32.toNatClampNeg) ≤ zk_mc K) (hs : us + zms (is.map Int32.toNatClampNeg) ≤ zk_ms K)
    (kk : ∀ (φ' : Nat → Nat) (H' : Heap) (locs' : List Loc) (ls' : Array Slot), (∀ a, a ≤ M.1 → φ' a = φ a) → zle M (zmk (is.map Int32.toNatClampNeg) k M).1 → zAt D dA A s (zk_ml K) φ' L (.ref (M.1 + 1) :: r) (zmk (is.map Int32.toNatClampNeg) k M).1 H' locs' ls' →
      W p l e R s m args below meth c H' locs' (uc + zmc (is.map Int32.toNatClampNeg)) (us + zms (is.map Int32.toNatClampNeg)) Q (F0 m (pc + 4) ls' ((.ref (M.1 + 1) :: r : List Value).map (zad φ')))) :
    W p l e R s m args below meth c H locs uc us Q (F0 m pc ls ((is.reverse.map Value.int ++ r : List Value).map (zad φ))) := by
  obtain ⟨hx, hb, hml, hown, hts, hFa, hA, hR, hnm, -⟩ := hX
  have hK := hFa.2.2.2.1
  intro T hT X
  have hpl : e.platform.magicAccessors = ({} : Platform).magicAccessors := by rw [X.admits.platform]
  obtain ⟨c0, hfc0, hcl⟩ := Cond.classLink_spec hown (hts _ hlink) e.platform hpl
  cases hcA.symm.trans hfc0
  obtain ⟨hg₁, hwarm₁, hready₁⟩ := State.classEntry (e := e) X.warmed hcl
  generalize hvm1 : T.vm.noted m.cls ix (.cls (dA k)) = vm₁ at hg₁ hwarm₁ hready₁
  have X₁ := X.noted hwarm₁
  have hF : zMF dA (T.setVm vm₁).vm := (zMF_of hK hFa.2.2.2.2.1).moved hwarm₁.alike
  have hstk : (is.reverse.map Value.int ++ r : List Value).map (zad φ) = is.reverse.map Value.int ++ r.map (zad φ) := by
    rw [List.map_append, List.map_map]
    rfl
  rw [hstk]
  generalize hSS : is.reverse.map Value.int ++ r.map (zad φ) = SS
  have hrk : zSk M.1 r := fun v hv => hat.sk v (List.mem_append_right _ hv)
  have hRm : zmR p l e R s m args below meth c D dA A φ M (T.setVm vm₁) locs uc us := ⟨X₁, by show va_P _ _ _ T.heap; rw [hT]; exact hat.P, hat.Dd, by show va_S _ _ T.heap _; rw [hT]; exact hat.S, hat.wf⟩
  obtain ⟨T', φ', locs', q1, q2, q3, q4⟩ := zma_make hA is k (T.setVm vm₁) φ M locs uc us hi hok hRm hF (Nat.le_trans hc hR.2.2.1) (Nat.le_trans hs hR.2.2.2)
  obtain ⟨X', hP', hD', hS', hwf'⟩ := q1
  obtain ⟨z1, z2⟩ := zmk_keep (is.map Int32.toNatClampNeg) k M
  have hpos : 1 ≤ zmc (is.map Int32.toNatClampNeg) := zmc_pos _ (fun h => by
    rw [List.map_eq_nil_iff] at h
    rw [h] at hlen
    simp only [List.length_nil] at hlen
    omega)
  have hle : zle M (zmk (is.map Int32.toNatClampNeg) k M).1 := ⟨by omega, (z2 0 (Nat.zero_le _)).1, (z2 0 (Nat.zero_le _)).2⟩
  have hat' : zAt D dA A s (zk_ml K) φ' L (.ref (M.1 + 1) :: r) (zmk (is.map Int32.toNatClampNeg) k M).1 T'.heap locs' ls := ⟨hP', hD', hS', hwf', hat.loc.congr q3 hat.lk, fun i v hv => zvk_mono hle.1 (hat.lk i v hv), zSk_cons (fun b hb => by cases hb; omega) (fun v hv => zvk_mono hle.1 (hrk v hv)), hat.F.mv (q3 0 (Nat.zero_le _)) hle.2.1 hle.2.2⟩
  obtain ⟨t, a1, b1⟩ := kk φ' T'.heap locs' ls q3 hle hat' T' rfl X'
  refine ⟨t, ?_, b1⟩
  rw [List.map_cons, zmap_congr q3 hrk] at a1
  have hdc : decode c.code pc = .ok (.multianewarray ix dm, 4) := by rw [hb]; exact hd
  jvm_step X.here [hx, hdc]
  have hmt := State.method?_setTop (s := T) (F0 m pc ls SS) X.here.top
  simp only [multianewarray.sem, wp_bind', W.resolveClassAt_links hmt hg₁]
  rw [W.popN, if_neg (by rw [← hlen]; omega)]
  refine ⟨F0 m pc ls SS, State.topJava?_setTop' (s := T.setVm vm₁) _ X.here.top, is.map Value.int, r.map (zad φ), by rw [List.length_map, hlen], by rw [← List.map_reverse]; exact hSS.symm, ?_⟩
  have hmap : ∀ (E : CtlPost) (d : Bool) (acts : List Action) (S : State) (Q' : List Int32 → Pre), Q' is d acts S → wp ((is.map Value.int).mapM (m := Sem) (fun | .int n => Pure.pure n | _ => illTyped "multianewarray: an int count was expected")) Q' E e d acts S := by
    clear hSS hlen hi hok hc hs kk z1 z2 hpos hle hat' hmt q4 q3 q2 hP' hD' hS' hwf' X' hat hstk hRm a1 b1
    induction is with
    | nil => intro E d acts S Q' h; simp only [List.map_nil, List.mapM_nil, wp_pure']; exact h
    | cons i is ih =>
      intro E d acts S Q' h
      simp only [List.map_cons, List.mapM_cons, wp_bind', wp_pure']
      exact ih _ _ _ _ _ h
  simp only [wp_bind']
  refine hmap _ _ _ _ _ ?_
  have eS : ((T.setTop (F0 m pc ls SS)).setVm vm₁).setTop (F0 m pc ls (r.map (zad φ))) = (T.setVm vm₁).setTop (F0 m pc ls (r.map (zad φ))) := by
    show ((T.setVm vm₁).setTop _).setTop _ = _
    rw [State.setTop_setTop]
  simp only [wp_bind']
  rw [show ((T.setTop (F0 m pc ls SS)).setVm vm₁).setTop { method := m, pc := pc, locals := ls, stack := List.map (zad φ) r, locked := none } = (T.setVm vm₁).setTop (F0 m pc ls (r.map (zad φ))) from eS]
  refine q4 _ _ _ _ _ (fun d' acts' => ?_)
  simp only [wp_bind', W.mark, W.pushRef, State.topJava?_setTop' _ X'.here.top, Option.some.injEq, exists_eq_left', State.setTop_setTop, State.heap_setTop]
  intro acts''
  simp [jvm, X'.here.top]
  simp only [zad] at a1
  exact a1
def zgr_m : Instr → Bool
  | .multianewarray _ _ => true
  | _ => false
set_option maxHeartbeats 4000000 in
/-- arrays of arrays, made at once -/
theorem z_sp_m (hX : zFix p R s m args meth c D dA A K) (hat : zAt D dA A s (zk_ml K) φ L st M H locs ls) {i : Instr} {len : Nat} (hd : decode (zk_by K) pc = .ok (i, len)) (hlen : zlen i ≠ 0 → zlen i = len) {σ : zS} (hg : zgr_m i = true) (h : zsp K i pc L st M uc us = some (.inl σ))
    (kk : ∀ (φ' : Nat → Nat) (H' : Heap) (locs' : List Loc) (ls' : Array Slot), (∀ a, a ≤ M.1 → φ' a = φ a) → zle M σ.2.2.2.1 → zAt D dA A s (zk_ml K) φ' σ.2.1 σ.2.2.1 σ.2.2.2.1 H' locs' ls' →
      W p l e R s m args below meth c H' locs' σ.2.2.2.2.1 σ.2.2.2.2.2 Q (F0 m σ.1 ls' (σ.2.2.1.map (zad φ')))) :
    W p l e R s m args below meth c H locs uc us Q (F0 m pc ls (st.map (zad φ))) := by
  cases i with
  | multianewarray ix dm =>
    have e1 : 4 = len := hlen (Nat.succ_ne_zero 3); subst e1
    simp only [zsp] at h
    split at h
    · next k j q hp =>
      split at h
      · next ns r hpop =>
        split at h
        · next hc =>
          cases h
          obtain ⟨c1, c2, c3, c4⟩ := hc
          obtain ⟨is, i1, i2, i3, i4⟩ := zpopi_spec (φ := φ) dm [] st ns r hpop
          rw [List.append_nil] at i3
          subst i3
          subst i4
          have hK := hX.2.2.2.2.2.1.2.2.2.1
          have hk : k = 40 ∨ k = 41 ∨ k = 42 ∨ k = 43 := by
            match is, i1 with
            | [], i1 => simp at i1; omega
            | [_], i1 => simp at i1; omega
            | _ :: _ :: _, _ =>
              simp only [List.map_cons, zdok, Bool.and_eq_true, Bool.or_eq_true, beq_iff_eq] at c2
              omega
          have hl := zp_arr hp
          rcases hk with e | e | e | e <;> subst e
          · exact z_multi hX hd (cA := dA 40) (nm := "[[I") (hK.2 8 _ rfl).2 hl hat i1 c1 i2 c2 c3 c4 kk
          · exact z_multi hX hd (cA := dA 41) (nm := "[[[I") (hK.2 9 _ rfl).2 hl hat i1 c1 i2 c2 c3 c4 kk
          · exact z_multi hX hd (cA := dA 42) (nm := "[[[[I") (hK.2 10 _ rfl).2 hl hat i1 c1 i2 c2 c3 c4 kk
          · exact z_multi hX hd (cA := dA 43) (nm := "[[Z") (hK.2 11 _ rfl).2 hl hat i1 c1 i2 c2 c3 c4 kk
        · cases h
      · cases h
    · cases h
  | _ => cases hg
end ZMA
