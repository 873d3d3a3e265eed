/-! ONE STEP OF THE PURE MACHINE IS A STEP OF THE MACHINE -/
/-- the class of a cell of kind e -/
def zcc (D : va_G) (dA : Nat → ClassId) (e : Nat) : ClassId := if e < 11 then D.1 e else dA e
/-- the classes of rows of references: what they hold -/
def zArr (D : va_G) (dA : Nat → ClassId) (U : State) : Prop := ∀ e, zqk (zup e) = true → ∃ kA kE : Class, U.vm.classes[dA (zup e)]? = some kA ∧ kA.kind = .array (zcc D dA e) (zqt (zup e)) ∧ U.vm.classes[zcc D dA e]? = some kE
theorem zArr.moved {D : va_G} {dA : Nat → ClassId} {u U : State} (hvm : u.vm.Alike U.vm) (h : zArr D dA u) : zArr D dA U := fun e he => by
  obtain ⟨kA, kE, h1, h2, h3⟩ := h e he
  obtain ⟨kA', g1, g2⟩ := hvm.2.2 _ _ h1
  obtain ⟨kE', g3, -⟩ := hvm.2.2 _ _ h3
  exact ⟨kA', kE', g1, by rw [g2]; exact h2, g3⟩
def zFacts (D : va_G) (dA : Nat → ClassId) (U : State) : Prop :=
  (∀ w ∈ lw_tbl, zNb w = true → va_Nw w U) ∧ (∀ (own : String) (k : Nat) (tx : String), Cond.stringRef own k tx ∈ lw_tbl → ∃ sa, vk_R own k tx sa U) ∧
  True ∧ (va_K D zC (ztl dA) U ∧ zArr D dA U ∧ zAO .int U)
theorem zFacts.warm {D : va_G} {dA : Nat → ClassId} {s U : State} (hW : s.WarmedH U.vm) (h : zFacts D dA s) : zFacts D dA U := by
  obtain ⟨h1, h2, h3, h4, h6, h7⟩ := h
  refine ⟨fun w hw hn => ?_, fun own k tx hm => ?_, trivial, va_K.moved hW.alike h4, h6.moved hW.alike, h7.moved hW.alike⟩
  · have h5 := h1 w hw hn
    unfold zNb at hn
    split at hn
    · exact va_Nw.warmM hW h5
    · exact va_AO.moved hW.alike h5
    · exact va_Nw.warmC hW h5
    · exact va_Nw.warmD hW h5
    · cases hn
  · obtain ⟨sa, h5⟩ := h2 own k tx hm
    exact ⟨sa, vk_R.warm hW h5⟩
/-- what of the heap's old part a method needs: two statics of Throwable, the script -/
def zHeapF (A : Nat → Prop) (φ : Nat → Nat) (M : zM) (U : State) (H : Heap) : Prop :=
  vx_Zq Bundle.tN "UNASSIGNED_STACK" Bundle.steD A U H ∧ vx_Zq Bundle.tN "SUPPRESSED_SENTINEL" Bundle.listD A U H ∧
  va_X (φ 0) (M.2.1 0).2 (fun j => zgi (M.2.2 0 j)) U H ∧ φ 0 < H.size ∧ ¬ A (φ 0)
theorem zHeapF.mv {A : Nat → Prop} {φ φ' : Nat → Nat} {M M' : zM} {U : State} {H : Heap} (h : zHeapF A φ M U H) (h0 : φ' 0 = φ 0) (h1 : M'.2.1 0 = M.2.1 0) (h2 : M'.2.2 0 = M.2.2 0) : zHeapF A φ' M' U H := by
  unfold zHeapF at h ⊢
  rw [h0, h1, h2]
  exact h
/-- the state of a frame: the world, the locals, the stack -/
def zAt (D : va_G) (dA : Nat → ClassId) (A : Nat → Prop) (s : State) (nL : Nat) (φ : Nat → Nat) (L : zL) (st : List Value) (M : zM) (H : Heap) (locs : List Loc) (ls : Array Slot) : Prop :=
  va_P D zC (zW dA φ M) H ∧ va_D A (zW dA φ M) ∧ va_S A s.heap H locs ∧ zwf M ∧ zloc φ L ls nL ∧ zLk M.1 L ∧ zSk M.1 st ∧ zHeapF A φ M s s.heap
/-- a later memory: no fewer cells, the script's own as it was -/
def zle (M M' : zM) : Prop := M.1 ≤ M'.1 ∧ M'.2.1 0 = M.2.1 0 ∧ M'.2.2 0 = M.2.2 0
theorem zle.rfl (M : zM) : zle M M := ⟨Nat.le_refl _, Eq.refl _, Eq.refl _⟩
theorem zle.trans {M M' M'' : zM} (h : zle M M') (h' : zle M' M'') : zle M M'' := ⟨Nat.le_trans h.1 h'.1, h'.2.1.trans h.2.1, h'.2.2.trans h.2.2⟩
theorem zle_put {M : zM} {a j : Nat} {v : Value} (ha : zal M a = true) : zle M (zput M a j v) := by
  have ha1 : 1 ≤ a := by
    simp only [zal, Bool.and_eq_true, decide_eq_true_eq] at ha
    exact ha.1
  refine ⟨Nat.le_refl _, Eq.refl _, ?_⟩
  funext k
  have e0 : ¬ (0 = a ∧ k = j) := by omega
  simp only [zput, e0, if_false]
theorem zle_new (M : zM) (k : Nat × Nat) (f : Nat → Value) : zle M (znew M k f) := by
  have e0 : ¬ (0 : Nat) = M.1 + 1 := by omega
  refine ⟨Nat.le_succ _, ?_, ?_⟩
  · simp only [znew, e0, if_false]
  · simp only [znew, e0, if_false]
section ZAT
variable {D : va_G} {dA : Nat → ClassId} {A : Nat → Prop} {s : State} {nL : Nat} {φ : Nat → Nat} {L : zL} {st : List Value} {M : zM} {H : Heap} {locs : List Loc} {ls : Array Slot}
theorem zAt.P (h : zAt D dA A s nL φ L st M H locs ls) : va_P D zC (zW dA φ M) H := h.1
theorem zAt.Dd (h : zAt D dA A s nL φ L st M H locs ls) : va_D A (zW dA φ M) := h.2.1
theorem zAt.S (h : zAt D dA A s nL φ L st M H locs ls) : va_S A s.heap H locs := h.2.2.1
theorem zAt.wf (h : zAt D dA A s nL φ L st M H locs ls) : zwf M := h.2.2.2.1
theorem zAt.loc (h : zAt D dA A s nL φ L st M H locs ls) : zloc φ L ls nL := h.2.2.2.2.1
theorem zAt.lk (h : zAt D dA A s nL φ L st M H locs ls) : zLk M.1 L := h.2.2.2.2.2.1
theorem zAt.sk (h : zAt D dA A s nL φ L st M H locs ls) : zSk M.1 st := h.2.2.2.2.2.2.1
theorem zAt.F (h : zAt D dA A s nL φ L st M H locs ls) : zHeapF A φ M s s.heap := h.2.2.2.2.2.2.2
theorem zAt.len (h : zAt D dA A s nL φ L st M H locs ls) : L.length = nL := h.loc.2.1
theorem zAt.stk {st' : List Value} (h : zAt D dA A s nL φ L st M H locs ls) (hs : zSk M.1 st') : zAt D dA A s nL φ L st' M H locs ls := ⟨h.1, h.2.1, h.2.2.1, h.2.2.2.1, h.2.2.2.2.1, h.2.2.2.2.2.1, hs, h.2.2.2.2.2.2.2⟩
theorem zAt.get (h : zAt D dA A s nL φ L st M H locs ls) {i : Nat} {v : Value} (hv : L[i]? = some (some v)) : ls[i]? = some (.val (zad φ v)) := h.loc.2.2.2 i v hv
theorem zAt.st1 {st' : List Value} {ls' : Array Slot} {i : Nat} {v : Value} {w : Option Value} (h : zAt D dA A s nL φ L st M H locs ls) (hi : i < L.length) (hw : w = none ∨ ∃ u, w = some u ∧ v = zad φ u) (hk : ∀ u, w = some u → zvk M.1 u) (hs : zSk M.1 st')
    (h' : lv_has ls' nL ((i, v) :: (zlv φ L).filter (fun q => !(q.1 == i) && !(q.1 + 1 == i && q.2.category == 2)))) : zAt D dA A s nL φ (zst1 L i w) st' M H locs ls' :=
  ⟨h.1, h.2.1, h.2.2.1, h.2.2.2.1, zloc.st1 h.len hi hw h', zLk_st1 hi h.lk hk, hs, h.F⟩
theorem zAt.st2 {st' : List Value} {ls' : Array Slot} {i : Nat} {v w : Value} (h : zAt D dA A s nL φ L st M H locs ls) (hi : i + 1 < L.length) (hw : v = zad φ w) (hk : zvk M.1 w) (hs : zSk M.1 st')
    (h' : lv_has ls' nL ((i, v) :: (zlv φ L).filter (fun q => !(q.1 == i) && (!(q.1 == i + 1) && !(q.1 + 1 == i && q.2.category == 2))))) : zAt D dA A s nL φ (zst2 L i w) st' M H locs ls' :=
  ⟨h.1, h.2.1, h.2.2.1, h.2.2.2.1, zloc.st2 h.len hi hw h', zLk_st2 hi h.lk hk, hs, h.F⟩
/-- behind a store into a cell -/
theorem zAt.put {st' : List Value} {H' : Heap} {locs' : List Loc} {a j : Nat} {v : Value} {e : va_E} (h : zAt D dA A s nL φ L st M H locs ls) (ha : zal M a = true) (he : e = zE dA φ (M.2.1 a) (fun k => if k = j then v else M.2.2 a k)) (hv : zvk M.1 v) (hs : zSk M.1 st')
    (hP : va_P D zC ((zW dA φ M).set (a - 1) (φ a, e)) H') (hD : va_D A ((zW dA φ M).set (a - 1) (φ a, e))) (hS : va_S A s.heap H' locs') : zAt D dA A s nL φ L st' (zput M a j v) H' locs' ls := by
  rw [zW_put ha he] at hP hD
  have ha1 : 1 ≤ a := by
    simp only [zal, Bool.and_eq_true, decide_eq_true_eq] at ha
    exact ha.1
  refine ⟨hP, hD, hS, zwf_put h.wf hv, h.loc, h.lk, hs, h.F.mv rfl rfl ?_⟩
  funext k
  have e0 : ¬ (0 = a ∧ k = j) := by omega
  simp only [zput, e0, if_false]
/-- behind the making of a cell -/
theorem zAt.new {st' : List Value} {H' : Heap} {locs' : List Loc} {q : Nat} {k : Nat × Nat} {f : Nat → Value} {e : va_E} (h : zAt D dA A s nL φ L st M H locs ls) (he : e = zE dA φ k f) (hf : ∀ j b, f j ≠ .ref b) (hs : zSk M.1 st')
    (hP : va_P D zC (zW dA φ M ++ [(q, e)]) H') (hD : va_D A (zW dA φ M ++ [(q, e)])) (hS : va_S A s.heap H' locs') :
    ∃ φ', (∀ a, a ≤ M.1 → φ' a = φ a) ∧ φ' (M.1 + 1) = q ∧ zAt D dA A s nL φ' L (.ref (M.1 + 1) :: st') (znew M k f) H' locs' ls := by
  obtain ⟨φ', hφ⟩ : ∃ φ' : Nat → Nat, φ' = fun a => if a = M.1 + 1 then q else φ a := ⟨_, rfl⟩
  have h1 : ∀ a, a ≤ M.1 → φ' a = φ a := fun a ha => by
    rw [hφ]
    exact if_neg (by omega)
  have h2 : φ' (M.1 + 1) = q := by
    rw [hφ]
    exact if_pos rfl
  have hz : ∀ j, zvk 0 (f j) := fun j b hb => absurd hb (hf j b)
  have he' : e = zE dA φ' k f := by
    rw [he]
    refine (zE_congr (n := 0) (fun a ha => h1 a (by omega)) hz).symm
  rw [zW_new h.wf h1 h2 he'] at hP hD
  have hm : M.1 ≤ (znew M k f).1 := Nat.le_succ _
  have e0 : ¬ (0 : Nat) = M.1 + 1 := by omega
  refine ⟨φ', h1, h2, hP, hD, hS, zwf_new h.wf (fun j => zvk_mono (Nat.zero_le _) (hz j)), h.loc.congr h1 h.lk, fun i v hv => zvk_mono hm (h.lk i v hv), zSk_cons (fun b hb => by cases hb; exact Nat.le_refl _) (fun v hv => zvk_mono hm (hs v hv)), h.F.mv (h1 0 (Nat.zero_le _)) ?_ ?_⟩
  · simp only [znew, e0, if_false]
  · simp only [znew, e0, if_false]
end ZAT
theorem zp_field {c ix x j q : Nat} (h : zpool c ix = some (0, x, j, q)) : j < zN x ∧ x < 11 ∧ Cond.fieldLink (zcn c) ix (zcn x) (zT x j).2.1 (zT x j).2.2.1 ∈ zG ∧ (zT x j).1 = zcn x := by
  have h1 := zpool_ok h
  simp only [zpchk, Bool.and_eq_true, decide_eq_true_eq] at h1
  exact ⟨h1.1, h1.2.1, zG_of h1.2.2.1 rfl, h1.2.2.2⟩
theorem zp_const {c ix x j q : Nat} (h : zpool c ix = some (7, x, j, q)) : Cond.constant (zcn c) ix (Int32.ofNat x) ∈ zG := by
  have h1 := zpool_ok h
  simp only [zpchk, decide_eq_true_eq] at h1
  exact zG_of h1 rfl
theorem zp_long {c ix x j q : Nat} (h : zpool c ix = some (6, x, j, q)) : Cond.constantLong (zcn c) ix (Int64.ofNat x) ∈ zG := by
  have h1 := zpool_ok h
  simp only [zpchk, decide_eq_true_eq] at h1
  exact zG_of h1 rfl
theorem zix_spec {M : zM} {t a : Nat} {i : Int32} (h : zix M t a i = true) : zal M a = true ∧ (M.2.1 a).1 = t ∧ vp_in i (M.2.1 a).2 := by
  simp only [zix, Bool.and_eq_true, decide_eq_true_eq] at h
  refine ⟨h.1.1, h.1.2, fun q => ?_⟩
  rcases q with q | q
  · exact absurd h.2.1 (by rw [Int32.lt_iff_toInt_lt] at q; rw [Int32.le_iff_toInt_le]; omega)
  · omega
theorem zixS_spec {M : zM} {a : Nat} {i : Int32} (h : zixS M a i = true) : a = 0 ∧ vp_in i (M.2.1 a).2 := by
  simp only [zixS, Bool.and_eq_true, decide_eq_true_eq] at h
  refine ⟨h.1.1, fun q => ?_⟩
  rcases q with q | q
  · exact absurd h.2.1 (by rw [Int32.lt_iff_toInt_lt] at q; rw [Int32.le_iff_toInt_le]; omega)
  · omega
theorem zfs_get {φ : Nat → Nat} {n j : Nat} {f : Nat → Value} (h : j < n) : ((List.range n).map (fun k => zad φ (f k)))[j]? = some (zad φ (f j)) := by
  rw [List.getElem?_map, List.getElem?_range h]
  rfl
theorem znarrow_ad (φ : Nat → Nat) {ty : FieldType} {v : Value} (h : zfit ty v = true) : narrow ty (zad φ v) = zad φ v ∧ fits ty (zad φ v) = true := by
  simp only [zfit, Bool.and_eq_true, decide_eq_true_eq] at h
  obtain ⟨h1, h2⟩ := h
  cases v <;> first | exact ⟨h1, h2⟩ | skip
  rename_i a
  refine ⟨?_, ?_⟩
  · cases ty <;> rfl
  · cases ty <;> first | rfl | cases h2
theorem zup_kind {e : Nat} (h : zqk (zup e) = true) : e < 10 ∨ e = 20 ∨ e = 23 ∨ e = 40 ∨ e = 41 := by
  unfold zup at h
  by_cases h1 : e < 10
  · exact Or.inl h1
  rw [if_neg h1] at h
  by_cases h2 : e = 20
  · exact Or.inr (Or.inl h2)
  rw [if_neg h2] at h
  by_cases h3 : e = 40
  · exact Or.inr (Or.inr (Or.inr (Or.inl h3)))
  rw [if_neg h3] at h
  by_cases h4 : e = 41
  · exact Or.inr (Or.inr (Or.inr (Or.inr h4)))
  rw [if_neg h4] at h
  by_cases h5 : e = 23
  · exact Or.inr (Or.inr (Or.inl h5))
  rw [if_neg h5] at h
  cases h
/-- a cell of the world stands in the heap, of its kind's class -/
theorem zW_cell {D : va_G} {dA : Nat → ClassId} {φ : Nat → Nat} {M : zM} {U : State} {H : Heap} {v : Nat} (hK : va_K D zC (ztl dA) U) (hP : va_P D zC (zW dA φ M) H) (hv : zal M v = true) (hk : (M.2.1 v).1 < 10 ∨ (M.2.1 v).1 = 20 ∨ (M.2.1 v).1 = 23 ∨ (M.2.1 v).1 = 40 ∨ (M.2.1 v).1 = 41) : ∃ cellV : Cell, H[φ v]? = some cellV ∧ cellV.vm = .none ∧ cellV.cls = zcc D dA (M.2.1 v).1 := by
  have hw := zW_get (dA := dA) (φ := φ) hv
  rcases hk with hk | hk
  · rw [show M.2.1 v = ((M.2.1 v).1, (M.2.1 v).2) from rfl, zE_obj dA φ (by omega)] at hw
    obtain ⟨r', hr', cellV, g1, g2, g3, -⟩ := hP (v - 1) _ hw
    refine ⟨cellV, g1, g3, ?_⟩
    rw [g2]
    unfold zcc
    rw [if_pos (by omega)]
  · have hc : zcc D dA (M.2.1 v).1 = dA (M.2.1 v).1 := by
      unfold zcc
      rw [if_neg (by omega)]
    rw [hc]
    have key : ∃ a : vp_A, zE dA φ (M.2.1 v) (M.2.2 v) = .inl (dA (M.2.1 v).1, a) := by
      unfold zE
      rw [if_neg (by omega)]
      exact ⟨_, rfl⟩
    obtain ⟨a, ha⟩ := key
    rw [ha] at hw
    have h1 : H[φ v]? = some (vp_cell (dA (M.2.1 v).1) a) := hP (v - 1) _ hw
    refine ⟨_, h1, ?_, ?_⟩
    · obtain ⟨n, a⟩ := a
      rcases a with a | a | a | a | a <;> rfl
    · obtain ⟨n, a⟩ := a
      rcases a with a | a | a | a | a <;> rfl
section ZSP
variable {p : Program} {l : Launch} {e : Env} {R : Room} {s : State} {m : MethodId} {args : Array Value} {below : List Frame} {meth : Method} {c : Code} {H : Heap} {locs : List Loc} {Q : State → Prop}
variable {D : va_G} {dA : Nat → ClassId} {A : Nat → Prop} {K : zI} {φ : Nat → Nat} {L : zL} {st : List Value} {M : zM} {ls : Array Slot} {pc uc us : Nat}
/-- what stands fast while a method runs -/
def zFix (p : Program) (R : Room) (s : State) (m : MethodId) (args : Array Value) (meth : Method) (c : Code) (D : va_G) (dA : Nat → ClassId) (A : Nat → Prop) (K : zI) : Prop :=
  p.tables.exec = Jvm.exec ∧ c.code = zk_by K ∧ c.maxLocals = zk_ml K ∧ s.vm.findClass (zcn (zk_own K)) = some m.cls ∧ (∀ w ∈ zG, w.before args s = true) ∧ zFacts D dA s ∧ (∀ q : Nat, s.heap.size ≤ q → A q) ∧
  (zk_rf K ≤ R.frames ∧ zk_rl K ≤ R.locals ∧ zk_mc K ≤ R.cells ∧ zk_ms K ≤ R.slots) ∧ (meth.name = (zk_y K).name ∧ meth.locks = false) ∧ c.exceptionTable.toList = tableOf (zk_hs K)

def zgr_a : Instr → Bool
  | .iconst _ | .bipush _ | .sipush _ | .lconst _ | .dconst _ | .ldc2_w _ | .ldc _ | .iload_n _ | .iload _ | .lload_n _ | .lload _ | .dload_n _ | .dload _ | .aload_n _ | .aload _ => true
  | _ => false
set_option maxHeartbeats 4000000 in
set_option maxRecDepth 100000 in
/-- constants, loads -/
theorem z_sp_a (hX : zFix p R s m args meth c D dA A K) (hat : zAt D dA A s (zk_ml K) φ L st M H locs ls) {i : Instr} {len : Nat} (hd : decode (zk_by K) pc = .ok (i, len)) (hlen : zlen i ≠ 0 → zlen i = len) {σ : zS} (hg : zgr_a i = true) (h : zsp K i pc L st M uc us = some (.inl σ))
    (kk : ∀ (φ' : Nat → Nat) (H' : Heap) (locs' : List Loc) (ls' : Array Slot), (∀ a, a ≤ M.1 → φ' a = φ a) → zle M σ.2.2.2.1 → zAt D dA A s (zk_ml K) φ' σ.2.1 σ.2.2.1 σ.2.2.2.1 H' locs' ls' →
      W p l e R s m args below meth c H' locs' σ.2.2.2.2.1 σ.2.2.2.2.2 Q (F0 m σ.1 ls' (σ.2.2.1.map (zad φ')))) :
    W p l e R s m args below meth c H locs uc us Q (F0 m pc ls (st.map (zad φ))) := by
  obtain ⟨hx, hb, hml, hown, hts, hFa, hA, hR, hnm, -⟩ := hX
  have hK := hFa.2.2.2.1
  cases i with
  | iconst n =>
    have e1 : 1 = len := hlen Nat.one_ne_zero; subst e1
    simp only [zsp] at h
    cases h
    exact lv_iconst hx hb hd rfl (kk φ H locs ls (fun _ _ => rfl) (zle.rfl M) (hat.stk (zSk_cons (zvk_int _ _) hat.sk)))
  | bipush n =>
    have e1 : 2 = len := hlen (Nat.succ_ne_zero 1); subst e1
    simp only [zsp] at h
    cases h
    exact lv_bipush hx hb hd rfl (kk φ H locs ls (fun _ _ => rfl) (zle.rfl M) (hat.stk (zSk_cons (zvk_int _ _) hat.sk)))
  | sipush n =>
    have e1 : 3 = len := hlen (Nat.succ_ne_zero 2); subst e1
    simp only [zsp] at h
    cases h
    exact lv_sipush hx hb hd rfl (kk φ H locs ls (fun _ _ => rfl) (zle.rfl M) (hat.stk (zSk_cons (zvk_int _ _) hat.sk)))
  | lconst n =>
    have e1 : 1 = len := hlen Nat.one_ne_zero; subst e1
    simp only [zsp] at h
    cases h
    exact lv_lconst hx hb hd rfl (kk φ H locs ls (fun _ _ => rfl) (zle.rfl M) (hat.stk (zSk_cons (zvk_long _ _) hat.sk)))
  | dconst d =>
    have e1 : 1 = len := hlen Nat.one_ne_zero; subst e1
    simp only [zsp] at h
    split at h
    · next hd0 =>
      subst hd0
      cases h
      exact lv_dconst0 hx hb hd (kk φ H locs ls (fun _ _ => rfl) (zle.rfl M) (hat.stk (zSk_cons (zvk_dbl _ _) hat.sk)))
    · cases h
  | ldc2_w ix =>
    have e1 : 3 = len := hlen (Nat.succ_ne_zero 2); subst e1
    simp only [zsp] at h
    split at h
    · next x y q hp =>
      cases h
      exact lv_ldc2 hx hb hown (hts _ (zp_long hp)) hd (kk φ H locs ls (fun _ _ => rfl) (zle.rfl M) (hat.stk (zSk_cons (zvk_long _ _) hat.sk)))
    · cases h
  | ldc ix =>
    have e1 : 2 = len := hlen (Nat.succ_ne_zero 1); subst e1
    simp only [zsp] at h
    split at h
    · next x y q hp =>
      cases h
      exact lv_ldc hx hb hown (hts _ (zp_const hp)) hd (kk φ H locs ls (fun _ _ => rfl) (zle.rfl M) (hat.stk (zSk_cons (zvk_int _ _) hat.sk)))
    · cases h
  | iload_n k =>
    have e1 : 1 = len := hlen Nat.one_ne_zero; subst e1
    simp only [zsp] at h
    split at h
    · next x hv =>
      cases h
      exact lv_iload_n hx hb hd rfl (hat.get hv) (kk φ H locs ls (fun _ _ => rfl) (zle.rfl M) (hat.stk (zSk_cons (zvk_int _ _) hat.sk)))
    · cases h
  | iload k =>
    have e1 : 2 = len := hlen (Nat.succ_ne_zero 1); subst e1
    simp only [zsp] at h
    split at h
    · next x hv =>
      cases h
      exact lv_iload hx hb hd (hat.get hv) (kk φ H locs ls (fun _ _ => rfl) (zle.rfl M) (hat.stk (zSk_cons (zvk_int _ _) hat.sk)))
    · cases h
  | lload_n k =>
    have e1 : 1 = len := hlen Nat.one_ne_zero; subst e1
    simp only [zsp] at h
    split at h
    · next x hv =>
      cases h
      exact lv_lload_n hx hb hd rfl (hat.get hv) (kk φ H locs ls (fun _ _ => rfl) (zle.rfl M) (hat.stk (zSk_cons (zvk_long _ _) hat.sk)))
    · cases h
  | lload k =>
    have e1 : 2 = len := hlen (Nat.succ_ne_zero 1); subst e1
    simp only [zsp] at h
    split at h
    · next x hv =>
      cases h
      exact lv_lload hx hb hd (hat.get hv) (kk φ H locs ls (fun _ _ => rfl) (zle.rfl M) (hat.stk (zSk_cons (zvk_long _ _) hat.sk)))
    · cases h
  | dload_n k =>
    have e1 : 1 = len := hlen Nat.one_ne_zero; subst e1
    simp only [zsp] at h
    split at h
    · next x hv =>
      cases h
      exact lv_dload_n hx hb hd rfl (hat.get hv) (kk φ H locs ls (fun _ _ => rfl) (zle.rfl M) (hat.stk (zSk_cons (zvk_dbl _ _) hat.sk)))
    · cases h
  | dload k =>
    have e1 : 2 = len := hlen (Nat.succ_ne_zero 1); subst e1
    simp only [zsp] at h
    split at h
    · next x hv =>
      cases h
      exact lv_dload hx hb hd (hat.get hv) (kk φ H locs ls (fun _ _ => rfl) (zle.rfl M) (hat.stk (zSk_cons (zvk_dbl _ _) hat.sk)))
    · cases h
  | aload_n k =>
    have e1 : 1 = len := hlen Nat.one_ne_zero; subst e1
    simp only [zsp] at h
    split at h
    · next x hv =>
      cases h
      exact lv_aload_n hx hb hd rfl (hat.get hv) (kk φ H locs ls (fun _ _ => rfl) (zle.rfl M) (hat.stk (zSk_cons (hat.lk _ _ hv) hat.sk)))
    · cases h
  | aload k =>
    have e1 : 2 = len := hlen (Nat.succ_ne_zero 1); subst e1
    simp only [zsp] at h
    split at h
    · next x hv =>
      cases h
      exact lv_aload hx hb hd (hat.get hv) (kk φ H locs ls (fun _ _ => rfl) (zle.rfl M) (hat.stk (zSk_cons (hat.lk _ _ hv) hat.sk)))
    · cases h
  | _ => cases hg
def zgr_b : Instr → Bool
  | .istore_n _ | .istore _ | .astore_n _ | .astore _ | .lstore_n _ | .lstore _ | .dstore _ | .iinc _ _ => true
  | _ => false
set_option maxHeartbeats 4000000 in
set_option maxRecDepth 100000 in
/-- stores into locals -/
theorem z_sp_b (hX : zFix p R s m args meth c D dA A K) (hat : zAt D dA A s (zk_ml K) φ L st M H locs ls) {i : Instr} {len : Nat} (hd : decode (zk_by K) pc = .ok (i, len)) (hlen : zlen i ≠ 0 → zlen i = len) {σ : zS} (hg : zgr_b i = true) (h : zsp K i pc L st M uc us = some (.inl σ))
    (kk : ∀ (φ' : Nat → Nat) (H' : Heap) (locs' : List Loc) (ls' : Array Slot), (∀ a, a ≤ M.1 → φ' a = φ a) → zle M σ.2.2.2.1 → zAt D dA A s (zk_ml K) φ' σ.2.1 σ.2.2.1 σ.2.2.2.1 H' locs' ls' →
      W p l e R s m args below meth c H' locs' σ.2.2.2.2.1 σ.2.2.2.2.2 Q (F0 m σ.1 ls' (σ.2.2.1.map (zad φ')))) :
    W p l e R s m args below meth c H locs uc us Q (F0 m pc ls (st.map (zad φ))) := by
  obtain ⟨hx, hb, hml, hown, hts, hFa, hA, hR, hnm, -⟩ := hX
  have hK := hFa.2.2.2.1
  cases i with
  | istore_n k =>
    have e1 : 1 = len := hlen Nat.one_ne_zero; subst e1
    simp only [zsp] at h
    split at h
    · next x r =>
      split at h
      · next hi =>
        cases h
        exact lv_istore_n hx hb hd rfl hat.loc.has (hat.len ▸ hi) rfl (fun ls' h' => kk φ H locs ls' (fun _ _ => rfl) (zle.rfl M) (hat.st1 hi (Or.inr ⟨.int x, rfl, rfl⟩) (fun u hu => by cases hu; exact zSk_hd hat.sk) (zSk_tl hat.sk) h'))
      · cases h
    · cases h
  | istore k =>
    have e1 : 2 = len := hlen (Nat.succ_ne_zero 1); subst e1
    simp only [zsp] at h
    split at h
    · next x r =>
      split at h
      · next hi =>
        cases h
        exact lv_istore hx hb hd hat.loc.has (hat.len ▸ hi) rfl (fun ls' h' => kk φ H locs ls' (fun _ _ => rfl) (zle.rfl M) (hat.st1 hi (Or.inr ⟨.int x, rfl, rfl⟩) (fun u hu => by cases hu; exact zSk_hd hat.sk) (zSk_tl hat.sk) h'))
      · cases h
    · cases h
  | astore_n k =>
    have e1 : 1 = len := hlen Nat.one_ne_zero; subst e1
    simp only [zsp] at h
    split at h
    · next x r =>
      split at h
      · next hi =>
        cases h
        exact lv_astore_n hx hb hd rfl hat.loc.has (hat.len ▸ hi) rfl (fun ls' h' => kk φ H locs ls' (fun _ _ => rfl) (zle.rfl M) (hat.st1 hi (Or.inr ⟨.ref x, rfl, rfl⟩) (fun u hu => by cases hu; exact zSk_hd hat.sk) (zSk_tl hat.sk) h'))
      · cases h
    · cases h
  | astore k =>
    have e1 : 2 = len := hlen (Nat.succ_ne_zero 1); subst e1
    simp only [zsp] at h
    split at h
    · next x r =>
      split at h
      · next hi =>
        cases h
        exact lv_astore hx hb hd hat.loc.has (hat.len ▸ hi) rfl (fun ls' h' => kk φ H locs ls' (fun _ _ => rfl) (zle.rfl M) (hat.st1 hi (Or.inr ⟨.ref x, rfl, rfl⟩) (fun u hu => by cases hu; exact zSk_hd hat.sk) (zSk_tl hat.sk) h'))
      · cases h
    · cases h
  | lstore_n k =>
    have e1 : 1 = len := hlen Nat.one_ne_zero; subst e1
    simp only [zsp] at h
    split at h
    · next x r =>
      split at h
      · next hi =>
        cases h
        exact lv_lstore_n hx hb hd rfl hat.loc.has (hat.len ▸ hi) rfl (fun ls' h' => kk φ H locs ls' (fun _ _ => rfl) (zle.rfl M) (hat.st2 (w := .long x) hi rfl (zSk_hd hat.sk) (zSk_tl hat.sk) h'))
      · cases h
    · cases h
  | lstore k =>
    have e1 : 2 = len := hlen (Nat.succ_ne_zero 1); subst e1
    simp only [zsp] at h
    split at h
    · next x r =>
      split at h
      · next hi =>
        cases h
        exact lv_lstore hx hb hd hat.loc.has (hat.len ▸ hi) rfl (fun ls' h' => kk φ H locs ls' (fun _ _ => rfl) (zle.rfl M) (hat.st2 (w := .long x) hi rfl (zSk_hd hat.sk) (zSk_tl hat.sk) h'))
      · cases h
    · cases h
  | dstore k =>
    have e1 : 2 = len := hlen (Nat.succ_ne_zero 1); subst e1
    simp only [zsp] at h
    split at h
    · next x r =>
      split at h
      · next hi =>
        cases h
        exact lv_dstore hx hb hd hat.loc.has (hat.len ▸ hi) rfl (fun ls' h' => kk φ H locs ls' (fun _ _ => rfl) (zle.rfl M) (hat.st2 (w := .double x) hi rfl (zSk_hd hat.sk) (zSk_tl hat.sk) h'))
      · cases h
    · cases h
  | iinc k n =>
    have e1 : 3 = len := hlen (Nat.succ_ne_zero 2); subst e1
    simp only [zsp] at h
    split at h
    · next x hv =>
      cases h
      obtain ⟨k0, hk0⟩ := List.getElem?_of_mem (zlv_mem.mpr ⟨.int x, hv, rfl⟩ : ((k, zad φ (.int x)) : Nat × Value) ∈ zlv φ L)
      have hi : k < L.length := (List.getElem?_eq_some_iff.mp hv).1
      exact lv_iinc hx hb hd hat.loc.has hk0 rfl (hat.len ▸ hi) rfl (fun ls' h' => kk φ H locs ls' (fun _ _ => rfl) (zle.rfl M) (hat.st1 hi (Or.inr ⟨.int (x + Int32.ofInt n), rfl, rfl⟩) (fun u hu => by cases hu; exact zvk_int _ _) hat.sk h'))
    · cases h
  | _ => cases hg
def zgr_c : Instr → Bool
  | .iadd | .isub | .imul | .iand | .ior | .ixor | .ishl | .ishr | .idiv | .irem | .ladd | .lmul | .lcmp | .ddiv | .dcmp _ | .i2l | .i2d | .dup | .pop | .dup_x1 | .dup_x2 | .dup2 => true
  | _ => false
set_option maxHeartbeats 4000000 in
set_option maxRecDepth 100000 in
/-- arithmetic, the stack -/
theorem z_sp_c (hX : zFix p R s m args meth c D dA A K) (hat : zAt D dA A s (zk_ml K) φ L st M H locs ls) {i : Instr} {len : Nat} (hd : decode (zk_by K) pc = .ok (i, len)) (hlen : zlen i ≠ 0 → zlen i = len) {σ : zS} (hg : zgr_c i = true) (h : zsp K i pc L st M uc us = some (.inl σ))
    (kk : ∀ (φ' : Nat → Nat) (H' : Heap) (locs' : List Loc) (ls' : Array Slot), (∀ a, a ≤ M.1 → φ' a = φ a) → zle M σ.2.2.2.1 → zAt D dA A s (zk_ml K) φ' σ.2.1 σ.2.2.1 σ.2.2.2.1 H' locs' ls' →
      W p l e R s m args below meth c H' locs' σ.2.2.2.2.1 σ.2.2.2.2.2 Q (F0 m σ.1 ls' (σ.2.2.1.map (zad φ')))) :
    W p l e R s m args below meth c H locs uc us Q (F0 m pc ls (st.map (zad φ))) := by
  obtain ⟨hx, hb, hml, hown, hts, hFa, hA, hR, hnm, -⟩ := hX
  have hK := hFa.2.2.2.1
  cases i with
  | iadd =>
    have e1 : 1 = len := hlen Nat.one_ne_zero; subst e1
    simp only [zsp] at h
    split at h
    · next y x r =>
      cases h
      exact lv_iadd hx hb hd (kk φ H locs ls (fun _ _ => rfl) (zle.rfl M) (hat.stk (zSk_cons (zvk_int _ _) (zSk_tl (zSk_tl hat.sk)))))
    · cases h
  | isub =>
    have e1 : 1 = len := hlen Nat.one_ne_zero; subst e1
    simp only [zsp] at h
    split at h
    · next y x r =>
      cases h
      exact lv_isub hx hb hd (kk φ H locs ls (fun _ _ => rfl) (zle.rfl M) (hat.stk (zSk_cons (zvk_int _ _) (zSk_tl (zSk_tl hat.sk)))))
    · cases h
  | imul =>
    have e1 : 1 = len := hlen Nat.one_ne_zero; subst e1
    simp only [zsp] at h
    split at h
    · next y x r =>
      cases h
      exact lv_imul hx hb hd (kk φ H locs ls (fun _ _ => rfl) (zle.rfl M) (hat.stk (zSk_cons (zvk_int _ _) (zSk_tl (zSk_tl hat.sk)))))
    · cases h
  | iand =>
    have e1 : 1 = len := hlen Nat.one_ne_zero; subst e1
    simp only [zsp] at h
    split at h
    · next y x r =>
      cases h
      exact lv_iand hx hb hd (kk φ H locs ls (fun _ _ => rfl) (zle.rfl M) (hat.stk (zSk_cons (zvk_int _ _) (zSk_tl (zSk_tl hat.sk)))))
    · cases h
  | ior =>
    have e1 : 1 = len := hlen Nat.one_ne_zero; subst e1
    simp only [zsp] at h
    split at h
    · next y x r =>
      cases h
      exact lv_ior hx hb hd (kk φ H locs ls (fun _ _ => rfl) (zle.rfl M) (hat.stk (zSk_cons (zvk_int _ _) (zSk_tl (zSk_tl hat.sk)))))
    · cases h
  | ixor =>
    have e1 : 1 = len := hlen Nat.one_ne_zero; subst e1
    simp only [zsp] at h
    split at h
    · next y x r =>
      cases h
      exact lv_ixor hx hb hd (kk φ H locs ls (fun _ _ => rfl) (zle.rfl M) (hat.stk (zSk_cons (zvk_int _ _) (zSk_tl (zSk_tl hat.sk)))))
    · cases h
  | ishl =>
    have e1 : 1 = len := hlen Nat.one_ne_zero; subst e1
    simp only [zsp] at h
    split at h
    · next y x r =>
      cases h
      exact lv_ishl hx hb hd (kk φ H locs ls (fun _ _ => rfl) (zle.rfl M) (hat.stk (zSk_cons (zvk_int _ _) (zSk_tl (zSk_tl hat.sk)))))
    · cases h
  | ishr =>
    have e1 : 1 = len := hlen Nat.one_ne_zero; subst e1
    simp only [zsp] at h
    split at h
    · next y x r =>
      cases h
      exact lv_ishr hx hb hd (kk φ H locs ls (fun _ _ => rfl) (zle.rfl M) (hat.stk (zSk_cons (zvk_int _ _) (zSk_tl (zSk_tl hat.sk)))))
    · cases h
  | idiv =>
    have e1 : 1 = len := hlen Nat.one_ne_zero; subst e1
    simp only [zsp] at h
    split at h
    · next y x r =>
      split at h
      · cases h
      · next hne =>
        cases h
        exact lv_idiv hx hb hd hne (kk φ H locs ls (fun _ _ => rfl) (zle.rfl M) (hat.stk (zSk_cons (zvk_int _ _) (zSk_tl (zSk_tl hat.sk)))))
    · cases h
  | irem =>
    have e1 : 1 = len := hlen Nat.one_ne_zero; subst e1
    simp only [zsp] at h
    split at h
    · next y x r =>
      split at h
      · cases h
      · next hne =>
        cases h
        exact lv_irem hx hb hd hne (kk φ H locs ls (fun _ _ => rfl) (zle.rfl M) (hat.stk (zSk_cons (zvk_int _ _) (zSk_tl (zSk_tl hat.sk)))))
    · cases h
  | ladd =>
    have e1 : 1 = len := hlen Nat.one_ne_zero; subst e1
    simp only [zsp] at h
    split at h
    · next y x r =>
      cases h
      exact lv_ladd hx hb hd (kk φ H locs ls (fun _ _ => rfl) (zle.rfl M) (hat.stk (zSk_cons (zvk_long _ _) (zSk_tl (zSk_tl hat.sk)))))
    · cases h
  | lmul =>
    have e1 : 1 = len := hlen Nat.one_ne_zero; subst e1
    simp only [zsp] at h
    split at h
    · next y x r =>
      cases h
      exact lv_lmul hx hb hd (kk φ H locs ls (fun _ _ => rfl) (zle.rfl M) (hat.stk (zSk_cons (zvk_long _ _) (zSk_tl (zSk_tl hat.sk)))))
    · cases h
  | lcmp =>
    have e1 : 1 = len := hlen Nat.one_ne_zero; subst e1
    simp only [zsp] at h
    split at h
    · next y x r =>
      cases h
      exact W.lcmp hx hb hd (kk φ H locs ls (fun _ _ => rfl) (zle.rfl M) (hat.stk (zSk_cons (zvk_int _ _) (zSk_tl (zSk_tl hat.sk)))))
    · cases h
  | ddiv =>
    have e1 : 1 = len := hlen Nat.one_ne_zero; subst e1
    simp only [zsp] at h
    split at h
    · next y x r =>
      split at h
      · next hne =>
        cases h
        exact lv_ddiv hx hb hd hne (kk φ H locs ls (fun _ _ => rfl) (zle.rfl M) (hat.stk (zSk_cons (zvk_dbl _ _) (zSk_tl (zSk_tl hat.sk)))))
      · cases h
    · cases h
  | dcmp op =>
    have e1 : 1 = len := hlen Nat.one_ne_zero; subst e1
    simp only [zsp] at h
    split at h
    · next y x r =>
      cases h
      exact lv_dcmp hx hb hd (kk φ H locs ls (fun _ _ => rfl) (zle.rfl M) (hat.stk (zSk_cons (zvk_int _ _) (zSk_tl (zSk_tl hat.sk)))))
    · cases h
  | i2l =>
    have e1 : 1 = len := hlen Nat.one_ne_zero; subst e1
    simp only [zsp] at h
    split at h
    · next x r =>
      cases h
      exact lv_i2l hx hb hd rfl (kk φ H locs ls (fun _ _ => rfl) (zle.rfl M) (hat.stk (zSk_cons (zvk_long _ _) (zSk_tl hat.sk))))
    · cases h
  | i2d =>
    have e1 : 1 = len := hlen Nat.one_ne_zero; subst e1
    simp only [zsp] at h
    split at h
    · next x r =>
      cases h
      exact lv_i2d hx hb hd (kk φ H locs ls (fun _ _ => rfl) (zle.rfl M) (hat.stk (zSk_cons (zvk_dbl _ _) (zSk_tl hat.sk))))
    · cases h
  | dup =>
    have e1 : 1 = len := hlen Nat.one_ne_zero; subst e1
    simp only [zsp] at h
    split at h
    · next v r =>
      split at h
      · next hc =>
        cases h
        exact lv_dup hx hb hd ((zad_cat φ v).trans hc) (kk φ H locs ls (fun _ _ => rfl) (zle.rfl M) (hat.stk (zSk_cons (zSk_hd hat.sk) hat.sk)))
      · cases h
    · cases h
  | pop =>
    have e1 : 1 = len := hlen Nat.one_ne_zero; subst e1
    simp only [zsp] at h
    split at h
    · next v r =>
      split at h
      · next hc =>
        cases h
        exact lv_pop hx hb hd ((zad_cat φ v).trans hc) (kk φ H locs ls (fun _ _ => rfl) (zle.rfl M) (hat.stk (zSk_tl hat.sk)))
      · cases h
    · cases h
  | dup_x1 =>
    have e1 : 1 = len := hlen Nat.one_ne_zero; subst e1
    simp only [zsp] at h
    split at h
    · next v w r =>
      split at h
      · next hc =>
        cases h
        exact lv_dup_x1 hx hb hd ((zad_cat φ v).trans hc.1) ((zad_cat φ w).trans hc.2) (kk φ H locs ls (fun _ _ => rfl) (zle.rfl M) (hat.stk (zSk_cons (zSk_hd hat.sk) (zSk_cons (zSk_hd (zSk_tl hat.sk)) (zSk_cons (zSk_hd hat.sk) (zSk_tl (zSk_tl hat.sk)))))))
      · cases h
    · cases h
  | dup_x2 =>
    have e1 : 1 = len := hlen Nat.one_ne_zero; subst e1
    simp only [zsp] at h
    split at h
    · next v w u r =>
      split at h
      · next hc =>
        cases h
        exact lv_dup_x2 hx hb hd ((zad_cat φ v).trans hc.1) ((zad_cat φ w).trans hc.2.1) ((zad_cat φ u).trans hc.2.2) (kk φ H locs ls (fun _ _ => rfl) (zle.rfl M) (hat.stk (zSk_cons (zSk_hd hat.sk) (zSk_cons (zSk_hd (zSk_tl hat.sk)) (zSk_cons (zSk_hd (zSk_tl (zSk_tl hat.sk))) (zSk_cons (zSk_hd hat.sk) (zSk_tl (zSk_tl (zSk_tl hat.sk)))))))))
      · cases h
    · cases h
  | dup2 =>
    have e1 : 1 = len := hlen Nat.one_ne_zero; subst e1
    simp only [zsp] at h
    split at h
    · next v w r =>
      split at h
      · next hc =>
        cases h
        exact lv_dup2_11 hx hb hd ((zad_cat φ v).trans hc.1) ((zad_cat φ w).trans hc.2) (kk φ H locs ls (fun _ _ => rfl) (zle.rfl M) (hat.stk (zSk_cons (zSk_hd hat.sk) (zSk_cons (zSk_hd (zSk_tl hat.sk)) hat.sk))))
      · cases h
    · cases h
  | _ => cases hg
def zgr_d : Instr → Bool
  | .goto _ | .ifCond _ _ | .if_icmp _ _ | .tableswitch _ _ _ _ => true
  | _ => false
set_option maxHeartbeats 4000000 in
set_option maxRecDepth 100000 in
/-- branches -/
theorem z_sp_d (hX : zFix p R s m args meth c D dA A K) (hat : zAt D dA A s (zk_ml K) φ L st M H locs ls) {i : Instr} {len : Nat} (hd : decode (zk_by K) pc = .ok (i, len)) (hlen : zlen i ≠ 0 → zlen i = len) {σ : zS} (hg : zgr_d i = true) (h : zsp K i pc L st M uc us = some (.inl σ))
    (kk : ∀ (φ' : Nat → Nat) (H' : Heap) (locs' : List Loc) (ls' : Array Slot), (∀ a, a ≤ M.1 → φ' a = φ a) → zle M σ.2.2.2.1 → zAt D dA A s (zk_ml K) φ' σ.2.1 σ.2.2.1 σ.2.2.2.1 H' locs' ls' →
      W p l e R s m args below meth c H' locs' σ.2.2.2.2.1 σ.2.2.2.2.2 Q (F0 m σ.1 ls' (σ.2.2.1.map (zad φ')))) :
    W p l e R s m args below meth c H locs uc us Q (F0 m pc ls (st.map (zad φ))) := by
  obtain ⟨hx, hb, hml, hown, hts, hFa, hA, hR, hnm, -⟩ := hX
  have hK := hFa.2.2.2.1
  cases i with
  | goto off =>
    have e1 : 3 = len := hlen (Nat.succ_ne_zero 2); subst e1
    simp only [zsp] at h
    simp only [zbr] at h
    split at h
    · next h0 =>
      cases h
      exact lv_goto hx hb hd (Int.toNat_of_nonneg h0).symm (kk φ H locs ls (fun _ _ => rfl) (zle.rfl M) hat)
    · cases h
  | ifCond cnd off =>
    have e1 : 3 = len := hlen (Nat.succ_ne_zero 2); subst e1
    simp only [zsp] at h
    split at h
    · next x r =>
      split at h
      · next h0 =>
        cases cnd with
        | eq =>
          simp only [zcnd, decide_eq_true_eq] at h
          split at h
          · next hc => cases h; exact lv_if_eq hx hb hd (Int.toNat_of_nonneg h0).symm (fun _ => kk φ H locs ls (fun _ _ => rfl) (zle.rfl M) (hat.stk (zSk_tl hat.sk))) (fun q => absurd hc q)
          · next hc => cases h; exact lv_if_eq hx hb hd (Int.toNat_of_nonneg h0).symm (fun q => absurd q hc) (fun _ => kk φ H locs ls (fun _ _ => rfl) (zle.rfl M) (hat.stk (zSk_tl hat.sk)))
        | ne =>
          simp only [zcnd, decide_eq_true_eq] at h
          split at h
          · next hc => cases h; exact lv_if_ne hx hb hd (Int.toNat_of_nonneg h0).symm (fun _ => kk φ H locs ls (fun _ _ => rfl) (zle.rfl M) (hat.stk (zSk_tl hat.sk))) (fun q => absurd q hc)
          · next hc => cases h; exact lv_if_ne hx hb hd (Int.toNat_of_nonneg h0).symm (fun q => absurd q hc) (fun _ => kk φ H locs ls (fun _ _ => rfl) (zle.rfl M) (hat.stk (zSk_tl hat.sk)))
        | lt =>
          simp only [zcnd, decide_eq_true_eq] at h
          split at h
          · next hc => cases h; exact lv_if_lt hx hb hd (Int.toNat_of_nonneg h0).symm (fun _ => kk φ H locs ls (fun _ _ => rfl) (zle.rfl M) (hat.stk (zSk_tl hat.sk))) (fun q => absurd hc q)
          · next hc => cases h; exact lv_if_lt hx hb hd (Int.toNat_of_nonneg h0).symm (fun q => absurd q hc) (fun _ => kk φ H locs ls (fun _ _ => rfl) (zle.rfl M) (hat.stk (zSk_tl hat.sk)))
        | ge =>
          simp only [zcnd, decide_eq_true_eq] at h
          split at h
          · next hc => cases h; exact lv_if_ge hx hb hd (Int.toNat_of_nonneg h0).symm (fun _ => kk φ H locs ls (fun _ _ => rfl) (zle.rfl M) (hat.stk (zSk_tl hat.sk))) (fun q => absurd hc q)
          · next hc => cases h; exact lv_if_ge hx hb hd (Int.toNat_of_nonneg h0).symm (fun q => absurd q hc) (fun _ => kk φ H locs ls (fun _ _ => rfl) (zle.rfl M) (hat.stk (zSk_tl hat.sk)))
        | gt =>
          simp only [zcnd, decide_eq_true_eq] at h
          split at h
          · next hc => cases h; exact lv_if_gt hx hb hd (Int.toNat_of_nonneg h0).symm (fun _ => kk φ H locs ls (fun _ _ => rfl) (zle.rfl M) (hat.stk (zSk_tl hat.sk))) (fun q => absurd hc q)
          · next hc => cases h; exact lv_if_gt hx hb hd (Int.toNat_of_nonneg h0).symm (fun q => absurd q hc) (fun _ => kk φ H locs ls (fun _ _ => rfl) (zle.rfl M) (hat.stk (zSk_tl hat.sk)))
        | le =>
          simp only [zcnd, decide_eq_true_eq] at h
          split at h
          · next hc => cases h; exact lv_if_le hx hb hd (Int.toNat_of_nonneg h0).symm (fun _ => kk φ H locs ls (fun _ _ => rfl) (zle.rfl M) (hat.stk (zSk_tl hat.sk))) (fun q => absurd hc q)
          · next hc => cases h; exact lv_if_le hx hb hd (Int.toNat_of_nonneg h0).symm (fun q => absurd q hc) (fun _ => kk φ H locs ls (fun _ _ => rfl) (zle.rfl M) (hat.stk (zSk_tl hat.sk)))
      · cases h
    · cases h
  | if_icmp cnd off =>
    have e1 : 3 = len := hlen (Nat.succ_ne_zero 2); subst e1
    simp only [zsp] at h
    split at h
    · next y x r =>
      split at h
      · next h0 =>
        cases cnd with
        | eq =>
          simp only [zcnd, decide_eq_true_eq] at h
          split at h
          · next hc => cases h; exact lv_icmp_eq hx hb hd (Int.toNat_of_nonneg h0).symm (fun _ => kk φ H locs ls (fun _ _ => rfl) (zle.rfl M) (hat.stk (zSk_tl (zSk_tl hat.sk)))) (fun q => absurd hc q)
          · next hc => cases h; exact lv_icmp_eq hx hb hd (Int.toNat_of_nonneg h0).symm (fun q => absurd q hc) (fun _ => kk φ H locs ls (fun _ _ => rfl) (zle.rfl M) (hat.stk (zSk_tl (zSk_tl hat.sk))))
        | ne =>
          simp only [zcnd, decide_eq_true_eq] at h
          split at h
          · next hc => cases h; exact lv_icmp_ne hx hb hd (Int.toNat_of_nonneg h0).symm (fun _ => kk φ H locs ls (fun _ _ => rfl) (zle.rfl M) (hat.stk (zSk_tl (zSk_tl hat.sk)))) (fun q => absurd q hc)
          · next hc => cases h; exact lv_icmp_ne hx hb hd (Int.toNat_of_nonneg h0).symm (fun q => absurd q hc) (fun _ => kk φ H locs ls (fun _ _ => rfl) (zle.rfl M) (hat.stk (zSk_tl (zSk_tl hat.sk))))
        | lt =>
          simp only [zcnd, decide_eq_true_eq] at h
          split at h
          · next hc => cases h; exact lv_icmp_lt hx hb hd (Int.toNat_of_nonneg h0).symm (fun _ => kk φ H locs ls (fun _ _ => rfl) (zle.rfl M) (hat.stk (zSk_tl (zSk_tl hat.sk)))) (fun q => absurd hc q)
          · next hc => cases h; exact lv_icmp_lt hx hb hd (Int.toNat_of_nonneg h0).symm (fun q => absurd q hc) (fun _ => kk φ H locs ls (fun _ _ => rfl) (zle.rfl M) (hat.stk (zSk_tl (zSk_tl hat.sk))))
        | ge =>
          simp only [zcnd, decide_eq_true_eq] at h
          split at h
          · next hc => cases h; exact lv_icmp_ge hx hb hd (Int.toNat_of_nonneg h0).symm (fun _ => kk φ H locs ls (fun _ _ => rfl) (zle.rfl M) (hat.stk (zSk_tl (zSk_tl hat.sk)))) (fun q => absurd hc q)
          · next hc => cases h; exact lv_icmp_ge hx hb hd (Int.toNat_of_nonneg h0).symm (fun q => absurd q hc) (fun _ => kk φ H locs ls (fun _ _ => rfl) (zle.rfl M) (hat.stk (zSk_tl (zSk_tl hat.sk))))
        | gt =>
          simp only [zcnd, decide_eq_true_eq] at h
          split at h
          · next hc => cases h; exact lv_icmp_gt hx hb hd (Int.toNat_of_nonneg h0).symm (fun _ => kk φ H locs ls (fun _ _ => rfl) (zle.rfl M) (hat.stk (zSk_tl (zSk_tl hat.sk)))) (fun q => absurd hc q)
          · next hc => cases h; exact lv_icmp_gt hx hb hd (Int.toNat_of_nonneg h0).symm (fun q => absurd q hc) (fun _ => kk φ H locs ls (fun _ _ => rfl) (zle.rfl M) (hat.stk (zSk_tl (zSk_tl hat.sk))))
        | le =>
          simp only [zcnd, decide_eq_true_eq] at h
          split at h
          · next hc => cases h; exact lv_icmp_le hx hb hd (Int.toNat_of_nonneg h0).symm (fun _ => kk φ H locs ls (fun _ _ => rfl) (zle.rfl M) (hat.stk (zSk_tl (zSk_tl hat.sk)))) (fun q => absurd hc q)
          · next hc => cases h; exact lv_icmp_le hx hb hd (Int.toNat_of_nonneg h0).symm (fun q => absurd q hc) (fun _ => kk φ H locs ls (fun _ _ => rfl) (zle.rfl M) (hat.stk (zSk_tl (zSk_tl hat.sk))))
      · cases h
    · cases h
  | tableswitch dflt lo hi offs =>
    simp only [zsp] at h
    split at h
    · next x r =>
      split at h
      · next hc =>
        simp only [zbr] at h
        split at h
        · next h0 =>
          cases h
          exact lv_tableOut hx hb hd hc (Int.toNat_of_nonneg h0).symm (kk φ H locs ls (fun _ _ => rfl) (zle.rfl M) (hat.stk (zSk_tl hat.sk)))
        · cases h
      · next hc =>
        split at h
        · next off hoff =>
          simp only [zbr] at h
          split at h
          · next h0 =>
            cases h
            exact lv_tableIn hx hb hd (fun q => hc (Or.inl q)) (fun q => hc (Or.inr q)) hoff (Int.toNat_of_nonneg h0).symm (kk φ H locs ls (fun _ _ => rfl) (zle.rfl M) (hat.stk (zSk_tl hat.sk)))
          · cases h
        · cases h
    · cases h
  | _ => cases hg
def zgr_e : Instr → Bool
  | .getfield _ | .putfield _ => true
  | _ => false
set_option maxHeartbeats 4000000 in
set_option maxRecDepth 100000 in
/-- fields -/
theorem z_sp_e (hX : zFix p R s m args meth c D dA A K) (hat : zAt D dA A s (zk_ml K) φ L st M H locs ls) {i : Instr} {len : Nat} (hd : decode (zk_by K) pc = .ok (i, len)) (hlen : zlen i ≠ 0 → zlen i = len) {σ : zS} (hg : zgr_e i = true) (h : zsp K i pc L st M uc us = some (.inl σ))
    (kk : ∀ (φ' : Nat → Nat) (H' : Heap) (locs' : List Loc) (ls' : Array Slot), (∀ a, a ≤ M.1 → φ' a = φ a) → zle M σ.2.2.2.1 → zAt D dA A s (zk_ml K) φ' σ.2.1 σ.2.2.1 σ.2.2.2.1 H' locs' ls' →
      W p l e R s m args below meth c H' locs' σ.2.2.2.2.1 σ.2.2.2.2.2 Q (F0 m σ.1 ls' (σ.2.2.1.map (zad φ')))) :
    W p l e R s m args below meth c H locs uc us Q (F0 m pc ls (st.map (zad φ))) := by
  obtain ⟨hx, hb, hml, hown, hts, hFa, hA, hR, hnm, -⟩ := hX
  have hK := hFa.2.2.2.1
  cases i with
  | getfield ix =>
    have e1 : 3 = len := hlen (Nat.succ_ne_zero 2); subst e1
    simp only [zsp] at h
    split at h
    · next x j q hp =>
      split at h
      · next a r =>
        split at h
        · next hc =>
          cases h
          obtain ⟨f1, f2, f3, f4⟩ := zp_field hp
          have hw := zW_get (dA := dA) (φ := φ) hc.1
          rw [hc.2, zE_obj dA φ (by omega)] at hw
          exact va_get (D := D) hx hb hts (zlay_in f2) hown hK hat.P (a - 1) hw (zC_get f2) j f1 (hts _ f3) (fun _ h9 => by rw [f4] at h9; exact h9) (zfs_get f1) hd (kk φ H locs ls (fun _ _ => rfl) (zle.rfl M) (hat.stk (zSk_cons (fun b hb => hat.wf _ _ _ hb) (zSk_tl hat.sk))))
        · cases h
      · cases h
    · cases h
  | putfield ix =>
    have e1 : 3 = len := hlen (Nat.succ_ne_zero 2); subst e1
    simp only [zsp] at h
    split at h
    · next x j q hp =>
      split at h
      · next v a r =>
        split at h
        · next hc =>
          cases h
          obtain ⟨f1, f2, f3, f4⟩ := zp_field hp
          have hw := zW_get (dA := dA) (φ := φ) hc.1
          rw [hc.2.1, zE_obj dA φ (by omega)] at hw
          obtain ⟨n1, n2⟩ := znarrow_ad φ hc.2.2.1
          have hl : j < ((List.range (zN x)).map (fun k => zad φ (M.2.2 a k))).length := by simpa using f1
          have he : (.inr (x, ((List.range (zN x)).map (fun k => zad φ (M.2.2 a k))).set j (zad φ v)) : va_E) = zE dA φ (M.2.1 a) (fun k => if k = j then v else M.2.2 a k) := by
            rw [hc.2.1, zE_obj dA φ (by omega), zrange_set]
            congr 2
            apply List.map_congr_left
            intro k _
            split <;> rfl
          have fin := hc.2.2.2
          simp only [zfin, Bool.or_eq_true, Bool.not_eq_true', Bool.and_eq_true, decide_eq_true_eq] at fin
          rcases fin with fin | fin
          · refine va_put (D := D) hx hb hts (zlay_in f2) (zty x) (zcl_ty f2) (zcl_nm f2) hown hK hat.P hat.Dd hat.S (a - 1) hw (zC_get f2) j f1 (hts _ f3) (fun _ h9 => by rw [f4] at h9; exact h9) fin (zcl_ty f2 j f1) n1 n2 hl hd (fun H1 locs1 hP1 hD1 hS1 => ?_)
            exact kk φ H1 locs1 ls (fun _ _ => rfl) (zle_put hc.1) (hat.put hc.1 he (zSk_hd hat.sk) (zSk_tl (zSk_tl hat.sk)) hP1 hD1 hS1)
          · by_cases fb : (zT x j).2.2.2 = false
            · refine va_put (D := D) hx hb hts (zlay_in f2) (zty x) (zcl_ty f2) (zcl_nm f2) hown hK hat.P hat.Dd hat.S (a - 1) hw (zC_get f2) j f1 (hts _ f3) (fun _ h9 => by rw [f4] at h9; exact h9) fb (zcl_ty f2 j f1) n1 n2 hl hd (fun H1 locs1 hP1 hD1 hS1 => ?_)
              exact kk φ H1 locs1 ls (fun _ _ => rfl) (zle_put hc.1) (hat.put hc.1 he (zSk_hd hat.sk) (zSk_tl (zSk_tl hat.sk)) hP1 hD1 hS1)
            · refine va_putF (D := D) hx hb hts (zlay_in f2) (zty x) (zcl_ty f2) (zcl_nm f2) hown hK hat.P hat.Dd hat.S (a - 1) hw (zC_get f2) j f1 (hts _ f3) (fun _ h9 => by rw [f4] at h9; exact h9) (by simpa using fb) (hnm.1.trans fin.2) (by rw [f4, fin.1]) (zcl_ty f2 j f1) n1 n2 hl hd (fun H1 locs1 hP1 hD1 hS1 => ?_)
              exact kk φ H1 locs1 ls (fun _ _ => rfl) (zle_put hc.1) (hat.put hc.1 he (zSk_hd hat.sk) (zSk_tl (zSk_tl hat.sk)) hP1 hD1 hS1)
        · cases h
      · cases h
    · cases h
  | _ => cases hg
def zgr_f : Instr → Bool
  | .iaload | .baload | .aaload => true
  | _ => false
set_option maxHeartbeats 4000000 in
set_option maxRecDepth 100000 in
/-- arrays read -/
theorem z_sp_f (hX : zFix p R s m args meth c D dA A K) (hat : zAt D dA A s (zk_ml K) φ L st M H locs ls) {i : Instr} {len : Nat} (hd : decode (zk_by K) pc = .ok (i, len)) (hlen : zlen i ≠ 0 → zlen i = len) {σ : zS} (hg : zgr_f i = true) (h : zsp K i pc L st M uc us = some (.inl σ))
    (kk : ∀ (φ' : Nat → Nat) (H' : Heap) (locs' : List Loc) (ls' : Array Slot), (∀ a, a ≤ M.1 → φ' a = φ a) → zle M σ.2.2.2.1 → zAt D dA A s (zk_ml K) φ' σ.2.1 σ.2.2.1 σ.2.2.2.1 H' locs' ls' →
      W p l e R s m args below meth c H' locs' σ.2.2.2.2.1 σ.2.2.2.2.2 Q (F0 m σ.1 ls' (σ.2.2.1.map (zad φ')))) :
    W p l e R s m args below meth c H locs uc us Q (F0 m pc ls (st.map (zad φ))) := by
  obtain ⟨hx, hb, hml, hown, hts, hFa, hA, hR, hnm, -⟩ := hX
  have hK := hFa.2.2.2.1
  cases i with
  | iaload =>
    have e1 : 1 = len := hlen Nat.one_ne_zero; subst e1
    simp only [zsp] at h
    split at h
    · next i a r =>
      split at h
      · next hc =>
        split at h
        · next x hv =>
          cases h
          rcases hc with hc | hc
          · obtain ⟨f1, f2, f3⟩ := zix_spec hc
            have hw := zW_get (dA := dA) (φ := φ) f1
            rw [zE_int dA φ f2] at hw
            refine va_iald (D := D) hx hb hK hat.P (a - 1) 0 hw rfl f3 hd ?_
            show W p l e R s m args below meth c H locs uc us Q (F0 m (pc + 1) ls (.int (zgi (M.2.2 a i.toNatClampNeg)) :: r.map (zad φ)))
            rw [hv]
            exact kk φ H locs ls (fun _ _ => rfl) (zle.rfl M) (hat.stk (zSk_cons (zvk_int _ _) (zSk_tl (zSk_tl hat.sk))))
          · obtain ⟨f1, f3⟩ := zixS_spec hc
            subst f1
            obtain ⟨-, -, hX, hbl, hbA⟩ := hat.F
            refine va_sld hx hb hX hbl hbA hat.S f3 hd ?_
            show W p l e R s m args below meth c H locs uc us Q (F0 m (pc + 1) ls (.int (zgi (M.2.2 0 i.toNatClampNeg)) :: r.map (zad φ)))
            rw [hv]
            exact kk φ H locs ls (fun _ _ => rfl) (zle.rfl M) (hat.stk (zSk_cons (zvk_int _ _) (zSk_tl (zSk_tl hat.sk))))
        · cases h
      · cases h
    · cases h
  | baload =>
    have e1 : 1 = len := hlen Nat.one_ne_zero; subst e1
    simp only [zsp] at h
    split at h
    · next i a r =>
      split at h
      · next hc =>
        split at h
        · next x hv =>
          cases h
          obtain ⟨f1, f2, f3⟩ := zix_spec hc
          have hw := zW_get (dA := dA) (φ := φ) f1
          rw [zE_bool dA φ f2] at hw
          refine va_zald (D := D) hx hb hK hat.P (a - 1) 1 hw rfl f3 hd ?_
          show W p l e R s m args below meth c H locs uc us Q (F0 m (pc + 1) ls (.int (zgi (M.2.2 a i.toNatClampNeg)) :: r.map (zad φ)))
          rw [hv]
          exact kk φ H locs ls (fun _ _ => rfl) (zle.rfl M) (hat.stk (zSk_cons (zvk_int _ _) (zSk_tl (zSk_tl hat.sk))))
        · cases h
      · cases h
    · cases h
  | aaload =>
    have e1 : 1 = len := hlen Nat.one_ne_zero; subst e1
    simp only [zsp] at h
    split at h
    · next i a r =>
      split at h
      · next hc =>
        split at h
        · next x hv =>
          cases h
          obtain ⟨f1, f2, f3⟩ := zix_spec hc.2
          obtain ⟨t0, g2⟩ := zqk_get dA hc.1
          have hw := zW_get (dA := dA) (φ := φ) f1
          rw [zE_ref dA φ hc.1] at hw
          refine zr_aald (D := D) hx hb hK hat.P (a - 1) t0 (zqt_ref _) hw g2 f3 hd ?_
          show W p l e R s m args below meth c H locs uc us Q (F0 m (pc + 1) ls (va_rf (zgr φ (M.2.2 a i.toNatClampNeg)) :: r.map (zad φ)))
          rw [hv]
          exact kk φ H locs ls (fun _ _ => rfl) (zle.rfl M) (hat.stk (zSk_cons (fun b hb => hat.wf _ _ _ (hv.trans hb)) (zSk_tl (zSk_tl hat.sk))))
        · cases h
      · cases h
    · cases h
  | _ => cases hg
def zgr_g : Instr → Bool
  | .iastore | .bastore | .aastore | .arraylength => true
  | _ => false
set_option maxHeartbeats 4000000 in
set_option maxRecDepth 100000 in
/-- arrays written -/
theorem z_sp_g (hX : zFix p R s m args meth c D dA A K) (hat : zAt D dA A s (zk_ml K) φ L st M H locs ls) {i : Instr} {len : Nat} (hd : decode (zk_by K) pc = .ok (i, len)) (hlen : zlen i ≠ 0 → zlen i = len) {σ : zS} (hg : zgr_g i = true) (h : zsp K i pc L st M uc us = some (.inl σ))
    (kk : ∀ (φ' : Nat → Nat) (H' : Heap) (locs' : List Loc) (ls' : Array Slot), (∀ a, a ≤ M.1 → φ' a = φ a) → zle M σ.2.2.2.1 → zAt D dA A s (zk_ml K) φ' σ.2.1 σ.2.2.1 σ.2.2.2.1 H' locs' ls' →
      W p l e R s m args below meth c H' locs' σ.2.2.2.2.1 σ.2.2.2.2.2 Q (F0 m σ.1 ls' (σ.2.2.1.map (zad φ')))) :
    W p l e R s m args below meth c H locs uc us Q (F0 m pc ls (st.map (zad φ))) := by
  obtain ⟨hx, hb, hml, hown, hts, hFa, hA, hR, hnm, -⟩ := hX
  have hK := hFa.2.2.2.1
  cases i with
  | iastore =>
    have e1 : 1 = len := hlen Nat.one_ne_zero; subst e1
    simp only [zsp] at h
    split at h
    · next x i a r =>
      split at h
      · next hc =>
        cases h
        obtain ⟨f1, f2, f3⟩ := zix_spec hc
        have hw := zW_get (dA := dA) (φ := φ) f1
        rw [zE_int dA φ f2] at hw
        refine va_iast (D := D) hx hb hK hat.P hat.Dd hat.S (a - 1) 0 hw rfl f3 hd (fun H1 locs1 hP1 hD1 hS1 => ?_)
        refine kk φ H1 locs1 ls (fun _ _ => rfl) (zle_put f1) (hat.put f1 ?_ (zvk_int _ _) (zSk_tl (zSk_tl (zSk_tl hat.sk))) hP1 hD1 hS1)
        rw [zE_int dA φ f2]
        congr 9
        funext k
        simp only [upd]
        split
        · rfl
        · rfl
      · cases h
    · cases h
  | bastore =>
    have e1 : 1 = len := hlen Nat.one_ne_zero; subst e1
    simp only [zsp] at h
    split at h
    · next x i a r =>
      split at h
      · next hc =>
        cases h
        obtain ⟨f1, f2, f3⟩ := zix_spec hc.1
        have hw := zW_get (dA := dA) (φ := φ) f1
        rw [zE_bool dA φ f2] at hw
        refine va_zast (D := D) hx hb hK hat.P hat.Dd hat.S (a - 1) 1 hw rfl f3 hd (fun H1 locs1 hP1 hD1 hS1 => ?_)
        refine kk φ H1 locs1 ls (fun _ _ => rfl) (zle_put f1) (hat.put f1 ?_ (zvk_int _ _) (zSk_tl (zSk_tl (zSk_tl hat.sk))) hP1 hD1 hS1)
        rw [zE_bool dA φ f2]
        congr 9
        funext k
        simp only [upd]
        split
        · rcases hc.2 with e | e <;> subst e <;> decide
        · rfl
      · cases h
    · cases h
  | aastore =>
    have e1 : 1 = len := hlen Nat.one_ne_zero; subst e1
    simp only [zsp] at h
    split at h
    · next v i a r =>
      split at h
      · next hc =>
        cases h
        obtain ⟨c1, c3, c4⟩ := hc
        obtain ⟨f1, f2, f3⟩ := zix_spec c4
        have hw := zW_get (dA := dA) (φ := φ) f1
        have hq : zqk (M.2.1 a).1 = true := by rw [f2]; exact c3
        rw [zE_ref dA φ hq, f2] at hw
        obtain ⟨cellV, v1, v2, v3⟩ := zW_cell hK hat.P c1 (zup_kind c3)
        obtain ⟨kA, kE, k1, k2, k3⟩ := hFa.2.2.2.2.1 (M.2.1 v).1 c3
        refine zr_aast (D := D) (comp := zcc D dA (M.2.1 v).1) hx hb hat.P hat.Dd hat.S (a - 1) hw k1 k2 (zqt_ref _) k3 v1 v2 v3 f3 hd (fun H1 locs1 hP1 hD1 hS1 => ?_)
        refine kk φ H1 locs1 ls (fun _ _ => rfl) (zle_put f1) (hat.put f1 ?_ (zSk_hd hat.sk) (zSk_tl (zSk_tl (zSk_tl hat.sk))) hP1 hD1 hS1)
        rw [zE_ref dA φ hq, f2]
        congr 9
        funext k
        simp only [va_up]
        split <;> rfl
      · cases h
    · cases h
  | arraylength =>
    have e1 : 1 = len := hlen Nat.one_ne_zero; subst e1
    simp only [zsp] at h
    split at h
    · next a r =>
      split at h
      · next hc =>
        cases h
        rcases hc with hc | hc
        · have hw := zW_get (dA := dA) (φ := φ) hc.1
          have key : ∃ (t0 : Nat) (x : vp_A) (ty : FieldType), (zW dA φ M)[a - 1]? = some (φ a, .inl (dA (M.2.1 a).1, x)) ∧ x.1 = (M.2.1 a).2 ∧ (ztl dA)[t0]? = some (dA (M.2.1 a).1, ty) := by
            rcases hc.2 with q | q | hk
            · rw [zE_int dA φ q] at hw
              exact ⟨0, _, .int, by rw [q]; exact hw, rfl, by rw [q]; rfl⟩
            · rw [zE_bool dA φ q] at hw
              exact ⟨1, _, .boolean, by rw [q]; exact hw, rfl, by rw [q]; rfl⟩
            · obtain ⟨t0, g2⟩ := zqk_get dA hk
              rw [zE_ref dA φ hk] at hw
              exact ⟨t0, _, _, hw, rfl, g2⟩
          obtain ⟨t0, x, ty, k1, k2, k3⟩ := key
          exact va_alen (D := D) hx hb hK hat.P (a - 1) t0 k1 k3 (by rw [k2]) hd (kk φ H locs ls (fun _ _ => rfl) (zle.rfl M) (hat.stk (zSk_cons (zvk_int _ _) (zSk_tl hat.sk))))
        · obtain ⟨q0, -⟩ := hc
          subst q0
          obtain ⟨-, -, hX, hbl, hbA⟩ := hat.F
          exact va_slen hx hb hX hbl hbA hat.S hd (kk φ H locs ls (fun _ _ => rfl) (zle.rfl M) (hat.stk (zSk_cons (zvk_int _ _) (zSk_tl hat.sk))))
      · cases h
    · cases h
  | _ => cases hg
end ZSP
