/-! THE PURE MACHINE IN THE HEAP: its cells as a world of the kit's -/
def zad (φ : Nat → Nat) : Value → Value
  | .ref a => .ref (φ a)
  | v => v
def zgi : Value → Int32
  | .int x => x
  | _ => 0
def zgl : Value → Int64
  | .long x => x
  | _ => 0
def zgd : Value → UInt64
  | .double x => x
  | _ => 0
def zgr (φ : Nat → Nat) : Value → Option Nat
  | .ref a => some (φ a)
  | _ => none
def zE (dA : Nat → ClassId) (φ : Nat → Nat) (q : Nat × Nat) (f : Nat → Value) : va_E :=
  if q.1 < 20 then .inr (q.1, (List.range q.2).map (fun j => zad φ (f j)))
  else .inl (dA q.1, q.2, if q.1 = 20 ∨ q.1 = 23 then .inl (fun j => zgi (f j)) else if q.1 = 21 then .inr (.inl (fun j => zgl (f j))) else if q.1 = 22 then .inr (.inr (.inr (.inl (fun j => zgd (f j))))) else .inr (.inr (.inr (.inr (fun j => zgr φ (f j))))))
def zW (dA : Nat → ClassId) (φ : Nat → Nat) (M : zM) : va_W := (List.range M.1).map (fun i => (φ (i + 1), zE dA φ (M.2.1 (i + 1)) (M.2.2 (i + 1))))
def ztl (dA : Nat → ClassId) : List (ClassId × FieldType) := [(dA 20, .int), (dA 23, .boolean), (dA 30, FieldType.object (zcn 0)), (dA 31, FieldType.object (zcn 1)), (dA 32, FieldType.object (zcn 2)), (dA 34, FieldType.object (zcn 4)), (dA 36, FieldType.object (zcn 6)), (dA 37, FieldType.object (zcn 7)), (dA 40, .array .int), (dA 41, .array (.array .int)), (dA 42, .array (.array (.array .int))), (dA 43, .array .boolean)]
/-- what an array of kind k holds, by its type -/
def zqt (k : Nat) : FieldType := if k = 40 then .array .int else if k = 41 then .array (.array .int) else if k = 42 then .array (.array (.array .int)) else if k = 43 then .array .boolean else .object (zcn (k - 30))
theorem zqk_or {k : Nat} (h : zqk k = true) : k = 30 ∨ k = 31 ∨ k = 32 ∨ k = 34 ∨ k = 36 ∨ k = 37 ∨ k = 40 ∨ k = 41 ∨ k = 42 ∨ k = 43 := by
  simp only [zqk, Bool.or_eq_true, beq_iff_eq] at h
  omega
theorem zqk_get (dA : Nat → ClassId) {k : Nat} (h : zqk k = true) : ∃ t0 : Nat, (ztl dA)[t0]? = some (dA k, zqt k) := by
  rcases zqk_or h with h | h | h | h | h | h | h | h | h | h <;> subst h
  · exact ⟨2, rfl⟩
  · exact ⟨3, rfl⟩
  · exact ⟨4, rfl⟩
  · exact ⟨5, rfl⟩
  · exact ⟨6, rfl⟩
  · exact ⟨7, rfl⟩
  · exact ⟨8, rfl⟩
  · exact ⟨9, rfl⟩
  · exact ⟨10, rfl⟩
  · exact ⟨11, rfl⟩
theorem zqt_ref (k : Nat) : (zqt k).isReference = true := by
  unfold zqt
  repeat' split
  all_goals rfl
theorem zqt_obj {c : Nat} (h : c < 10) : zqt (30 + c) = .object (zcn c) := by
  unfold zqt
  rw [if_neg (by omega), if_neg (by omega), if_neg (by omega), if_neg (by omega), show 30 + c - 30 = c by omega]
theorem zW_get {dA : Nat → ClassId} {φ : Nat → Nat} {M : zM} {a : Nat} (h : zal M a = true) : (zW dA φ M)[a - 1]? = some (φ a, zE dA φ (M.2.1 a) (M.2.2 a)) := by
  simp only [zal, Bool.and_eq_true, decide_eq_true_eq] at h
  obtain ⟨h1, h2⟩ := h
  unfold zW
  rw [List.getElem?_map, List.getElem?_range (by omega), show a = a - 1 + 1 by omega]
  rfl
theorem zrange_set {α : Type} (n : Nat) (f : Nat → α) (k : Nat) (x : α) : ((List.range n).map f).set k x = (List.range n).map (fun j => if j = k then x else f j) := by
  apply List.ext_getElem?
  intro i
  rw [List.getElem?_set]
  by_cases hi : i < n
  · by_cases hk : k = i
    · subst hk
      simp [hi]
    · rw [if_neg hk, List.getElem?_map, List.getElem?_map, List.getElem?_range hi]
      simp [Ne.symm hk]
  · have e1 : ((List.range n).map f)[i]? = none := by simp; omega
    have e2 : ((List.range n).map (fun j => if j = k then x else f j))[i]? = none := by simp; omega
    rw [e1, e2]
    split
    · rw [if_neg]
      simp; omega
    · rfl
theorem zW_put {dA : Nat → ClassId} {φ : Nat → Nat} {M : zM} {a j : Nat} {v : Value} {e : va_E} (h : zal M a = true) (he : e = zE dA φ (M.2.1 a) (fun k => if k = j then v else M.2.2 a k)) : (zW dA φ M).set (a - 1) (φ a, e) = zW dA φ (zput M a j v) := by
  simp only [zal, Bool.and_eq_true, decide_eq_true_eq] at h
  obtain ⟨h1, h2⟩ := h
  unfold zW
  rw [zrange_set]
  apply List.map_congr_left
  intro i hi
  by_cases hia : i = a - 1
  · rw [if_pos hia]
    have e1 : i + 1 = a := by omega
    rw [he, e1]
    simp only [zput, true_and]
  · rw [if_neg hia]
    have e1 : ¬ i + 1 = a := by omega
    simp only [zput, e1, false_and, if_false]
theorem zE_obj (dA : Nat → ClassId) (φ : Nat → Nat) {c n : Nat} (hc : c < 20) (f : Nat → Value) : zE dA φ (c, n) f = .inr (c, (List.range n).map (fun j => zad φ (f j))) := by
  simp only [zE, hc, if_true]
theorem zE_int (dA : Nat → ClassId) (φ : Nat → Nat) {q : Nat × Nat} (h : q.1 = 20) (f : Nat → Value) : zE dA φ q f = .inl (dA 20, q.2, .inl (fun j => zgi (f j))) := by
  simp [zE, h]
theorem zE_bool (dA : Nat → ClassId) (φ : Nat → Nat) {q : Nat × Nat} (h : q.1 = 23) (f : Nat → Value) : zE dA φ q f = .inl (dA 23, q.2, .inl (fun j => zgi (f j))) := by
  simp [zE, h]
theorem zE_long (dA : Nat → ClassId) (φ : Nat → Nat) {q : Nat × Nat} (h : q.1 = 21) (f : Nat → Value) : zE dA φ q f = .inl (dA 21, q.2, .inr (.inl (fun j => zgl (f j)))) := by
  simp [zE, h]
theorem zE_dbl (dA : Nat → ClassId) (φ : Nat → Nat) {q : Nat × Nat} (h : q.1 = 22) (f : Nat → Value) : zE dA φ q f = .inl (dA 22, q.2, .inr (.inr (.inr (.inl (fun j => zgd (f j)))))) := by
  simp [zE, h]
theorem zE_ref (dA : Nat → ClassId) (φ : Nat → Nat) {q : Nat × Nat} (h : zqk q.1 = true) (f : Nat → Value) : zE dA φ q f = .inl (dA q.1, q.2, .inr (.inr (.inr (.inr (fun j => zgr φ (f j)))))) := by
  have h1 : 30 ≤ q.1 := by
    simp only [zqk, Bool.or_eq_true, beq_iff_eq] at h
    omega
  unfold zE
  rw [if_neg (by omega), if_neg (by omega), if_neg (by omega), if_neg (by omega)]
/-- all references in the memory are to cells that are there -/
def zwf (M : zM) : Prop := ∀ a j b : Nat, M.2.2 a j = .ref b → b ≤ M.1
def zvk (n : Nat) (v : Value) : Prop := ∀ b : Nat, v = .ref b → b ≤ n
def zLk (n : Nat) (L : zL) : Prop := ∀ (i : Nat) (v : Value), L[i]? = some (some v) → zvk n v
def zSk (n : Nat) (st : List Value) : Prop := ∀ v ∈ st, zvk n v
theorem zvk_int (n : Nat) (x : Int32) : zvk n (.int x) := fun b h => by cases h
theorem zvk_long (n : Nat) (x : Int64) : zvk n (.long x) := fun b h => by cases h
theorem zvk_dbl (n : Nat) (x : UInt64) : zvk n (.double x) := fun b h => by cases h
theorem zSk_cons {n : Nat} {v : Value} {st : List Value} (h1 : zvk n v) (h2 : zSk n st) : zSk n (v :: st) := fun w hw => by
  rcases List.mem_cons.mp hw with rfl | h
  · exact h1
  · exact h2 w h
theorem zSk_hd {n : Nat} {v : Value} {st : List Value} (h : zSk n (v :: st)) : zvk n v := h v List.mem_cons_self
theorem zSk_tl {n : Nat} {v : Value} {st : List Value} (h : zSk n (v :: st)) : zSk n st := fun w hw => h w (List.mem_cons_of_mem _ hw)
theorem zvk_mono {n n' : Nat} (h : n ≤ n') {v : Value} (hv : zvk n v) : zvk n' v := fun b hb => Nat.le_trans (hv b hb) h
theorem zwf_put {M : zM} (h : zwf M) {a j : Nat} {v : Value} (hv : zvk M.1 v) : zwf (zput M a j v) := by
  intro b k c hc
  simp only [zput] at hc
  split at hc
  · exact hv c hc
  · exact h b k c hc
theorem zad_congr {φ φ' : Nat → Nat} {n : Nat} (h : ∀ a, a ≤ n → φ' a = φ a) {v : Value} (hv : zvk n v) : zad φ' v = zad φ v := by
  cases v <;> try rfl
  rename_i a
  simp only [zad, h a (hv a rfl)]
theorem zgr_congr {φ φ' : Nat → Nat} {n : Nat} (h : ∀ a, a ≤ n → φ' a = φ a) {v : Value} (hv : zvk n v) : zgr φ' v = zgr φ v := by
  cases v <;> try rfl
  rename_i a
  simp only [zgr, h a (hv a rfl)]
theorem zmap_congr {φ φ' : Nat → Nat} {n : Nat} (h : ∀ a, a ≤ n → φ' a = φ a) {st : List Value} (hv : zSk n st) : st.map (zad φ') = st.map (zad φ) := List.map_congr_left fun v hw => zad_congr h (hv v hw)
theorem zE_congr {dA : Nat → ClassId} {φ φ' : Nat → Nat} {n : Nat} (h : ∀ a, a ≤ n → φ' a = φ a) {q : Nat × Nat} {f : Nat → Value} (hf : ∀ j, zvk n (f j)) : zE dA φ' q f = zE dA φ q f := by
  unfold zE
  have e1 : (fun j => zad φ' (f j)) = (fun j => zad φ (f j)) := funext fun j => zad_congr h (hf j)
  have e2 : (fun j => zgr φ' (f j)) = (fun j => zgr φ (f j)) := funext fun j => zgr_congr h (hf j)
  rw [e1, e2]
theorem zad_cat (φ : Nat → Nat) (v : Value) : (zad φ v).category = v.category := by cases v <;> rfl
theorem zct_map (φ : Nat → Nat) (st : List Value) : ((st.map (zad φ)).map fun v => v.category).sum = zct st := by
  unfold zct
  rw [List.map_map]
  congr 1
  apply List.map_congr_left
  intro v _
  exact zad_cat φ v
/-- a new cell at the world's end -/
theorem zW_new {dA : Nat → ClassId} {φ φ' : Nat → Nat} {M : zM} {q : Nat} {k : Nat × Nat} {f : Nat → Value} {e : va_E} (hw : zwf M) (h : ∀ a, a ≤ M.1 → φ' a = φ a) (hq : φ' (M.1 + 1) = q) (he : e = zE dA φ' k f) : zW dA φ M ++ [(q, e)] = zW dA φ' (znew M k f) := by
  unfold zW
  simp only [znew]
  rw [List.range_succ, List.map_append]
  congr 1
  · apply List.map_congr_left
    intro i hi
    have hi' : i < M.1 := List.mem_range.mp hi
    have e1 : ¬ i + 1 = M.1 + 1 := by omega
    simp only [e1, if_false]
    rw [h (i + 1) (by omega)]
    congr 1
    exact (zE_congr h (fun j b hb => hw _ _ _ hb)).symm
  · simp only [List.map_cons, List.map_nil, if_true, hq, he]
theorem zwf_new {M : zM} (h : zwf M) {k : Nat × Nat} {f : Nat → Value} (hf : ∀ j, zvk (M.1 + 1) (f j)) : zwf (znew M k f) := by
  intro b j c hc
  simp only [znew] at hc ⊢
  split at hc
  · exact hf j c hc
  · exact Nat.le_succ_of_le (h b j c hc)
/-- the locals of a frame -/
def zloc (φ : Nat → Nat) (L : zL) (ls : Array Slot) (nL : Nat) : Prop := ls.size = nL ∧ L.length = nL ∧ lv_wf ls ∧ ∀ (i : Nat) (v : Value), L[i]? = some (some v) → ls[i]? = some (.val (zad φ v))
def zlv (φ : Nat → Nat) (L : zL) : List (Nat × Value) := (List.range L.length).filterMap (fun i => match L[i]? with
  | some (some v) => some (i, zad φ v)
  | _ => none)
theorem zlv_mem {φ : Nat → Nat} {L : zL} {q : Nat × Value} : q ∈ zlv φ L ↔ ∃ v, L[q.1]? = some (some v) ∧ q.2 = zad φ v := by
  unfold zlv
  rw [List.mem_filterMap]
  constructor
  · rintro ⟨i, hi, h⟩
    split at h
    · next v hv =>
      cases h
      exact ⟨v, hv, rfl⟩
    · cases h
  · rintro ⟨v, hv, h⟩
    refine ⟨q.1, List.mem_range.mpr ?_, ?_⟩
    · exact (List.getElem?_eq_some_iff.mp hv).1
    · rw [hv]
      simp only [← h]
theorem zloc.has {φ : Nat → Nat} {L : zL} {ls : Array Slot} {nL : Nat} (h : zloc φ L ls nL) : lv_has ls nL (zlv φ L) :=
  ⟨h.1, h.2.2.1, fun q hq => by
    obtain ⟨v, hv, e⟩ := zlv_mem.mp hq
    rw [e]
    exact h.2.2.2 q.1 v hv⟩
theorem zloc.of {φ : Nat → Nat} {L : zL} {ls : Array Slot} {nL : Nat} {l : List (Nat × Value)} (h : lv_has ls nL l) (hL : L.length = nL) (hm : ∀ (i : Nat) (v : Value), L[i]? = some (some v) → (i, zad φ v) ∈ l) : zloc φ L ls nL :=
  ⟨h.1, hL, h.2.1, fun i v hv => h.2.2 (i, zad φ v) (hm i v hv)⟩
theorem zkl_spec {a : Option Value} {v : Value} (h : zkl a = some v) : a = some v ∧ ¬ v.category = 2 := by
  cases a with
  | none => cases h
  | some w =>
    simp only [zkl] at h
    split at h
    · cases h
    · next hc =>
      cases h
      exact ⟨rfl, hc⟩
theorem zst1_len : ∀ (L : zL) (i : Nat) (v : Option Value), (zst1 L i v).length = L.length
  | [], _, _ => rfl
  | _ :: l, 0, v => rfl
  | a :: l, 1, v => by simp only [zst1, List.length_cons, zst1_len l 0 v]
  | a :: l, i + 2, v => by simp only [zst1, List.length_cons, zst1_len l (i + 1) v]
theorem zst1_get : ∀ (L : zL) (i : Nat) (w : Option Value) (j : Nat) (v : Value), i < L.length → (zst1 L i w)[j]? = some (some v) → (j = i ∧ w = some v) ∨ (j ≠ i ∧ L[j]? = some (some v) ∧ ¬ (j + 1 = i ∧ v.category = 2))
  | [], _, _, _, _, h, _ => absurd h (Nat.not_lt_zero _)
  | a :: l, 0, w, j, v, _, h => by
    cases j with
    | zero =>
      simp only [zst1, List.getElem?_cons_zero, Option.some.injEq] at h
      exact Or.inl ⟨rfl, h⟩
    | succ j =>
      simp only [zst1, List.getElem?_cons_succ] at h
      exact Or.inr ⟨by omega, by rw [List.getElem?_cons_succ]; exact h, by omega⟩
  | a :: l, 1, w, j, v, hi, h => by
    cases j with
    | zero =>
      simp only [zst1, List.getElem?_cons_zero, Option.some.injEq] at h
      obtain ⟨e1, e2⟩ := zkl_spec h
      exact Or.inr ⟨by omega, by rw [e1]; rfl, fun q => e2 q.2⟩
    | succ j =>
      simp only [zst1, List.getElem?_cons_succ] at h
      rcases zst1_get l 0 w j v (by simpa using hi) h with ⟨e1, e2⟩ | ⟨e1, e2, -⟩
      · exact Or.inl ⟨by omega, e2⟩
      · exact Or.inr ⟨by omega, by rw [List.getElem?_cons_succ]; exact e2, by omega⟩
  | a :: l, i + 2, w, j, v, hi, h => by
    cases j with
    | zero =>
      simp only [zst1, List.getElem?_cons_zero, Option.some.injEq] at h
      exact Or.inr ⟨by omega, by rw [h]; rfl, by omega⟩
    | succ j =>
      simp only [zst1, List.getElem?_cons_succ] at h
      rcases zst1_get l (i + 1) w j v (by simp at hi; omega) h with ⟨e1, e2⟩ | ⟨e1, e2, e3⟩
      · exact Or.inl ⟨by omega, e2⟩
      · exact Or.inr ⟨by omega, by rw [List.getElem?_cons_succ]; exact e2, fun q => e3 ⟨by omega, q.2⟩⟩
theorem zst2_len : ∀ (L : zL) (i : Nat) (v : Value), i + 1 < L.length → (zst2 L i v).length = L.length
  | [], _, _, h => absurd h (Nat.not_lt_zero _)
  | [_], 0, _, h => by simp at h
  | _ :: _ :: l, 0, v, _ => rfl
  | a :: l, 1, v, h => by simp only [zst2, List.length_cons, zst2_len l 0 v (by simp only [List.length_cons] at h; omega)]
  | a :: l, i + 2, v, h => by simp only [zst2, List.length_cons, zst2_len l (i + 1) v (by simp at h; omega)]
theorem zst2_get : ∀ (L : zL) (i : Nat) (w : Value) (j : Nat) (v : Value), i + 1 < L.length → (zst2 L i w)[j]? = some (some v) → (j = i ∧ w = v) ∨ (j ≠ i ∧ j ≠ i + 1 ∧ L[j]? = some (some v) ∧ ¬ (j + 1 = i ∧ v.category = 2))
  | [], _, _, _, _, h, _ => absurd h (Nat.not_lt_zero _)
  | [_], 0, _, _, _, h, _ => by simp at h
  | a :: b :: l, 0, w, j, v, _, h => by
    match j with
    | 0 =>
      simp only [zst2, List.getElem?_cons_zero, Option.some.injEq] at h
      exact Or.inl ⟨rfl, h⟩
    | 1 => simp [zst2] at h
    | j + 2 =>
      simp only [zst2, List.getElem?_cons_succ] at h
      exact Or.inr ⟨by omega, by omega, by rw [List.getElem?_cons_succ, List.getElem?_cons_succ]; exact h, by omega⟩
  | a :: l, 1, w, j, v, hi, h => by
    cases j with
    | zero =>
      simp only [zst2, List.getElem?_cons_zero, Option.some.injEq] at h
      obtain ⟨e1, e2⟩ := zkl_spec h
      exact Or.inr ⟨by omega, by omega, by rw [e1]; rfl, fun q => e2 q.2⟩
    | succ j =>
      simp only [zst2, List.getElem?_cons_succ] at h
      rcases zst2_get l 0 w j v (by simp only [List.length_cons] at hi; omega) h with ⟨e1, e2⟩ | ⟨e1, e2, e3, -⟩
      · exact Or.inl ⟨by omega, e2⟩
      · exact Or.inr ⟨by omega, by omega, by rw [List.getElem?_cons_succ]; exact e3, by omega⟩
  | a :: l, i + 2, w, j, v, hi, h => by
    cases j with
    | zero =>
      simp only [zst2, List.getElem?_cons_zero, Option.some.injEq] at h
      exact Or.inr ⟨by omega, by omega, by rw [h]; rfl, by omega⟩
    | succ j =>
      simp only [zst2, List.getElem?_cons_succ] at h
      rcases zst2_get l (i + 1) w j v (by simp at hi; omega) h with ⟨e1, e2⟩ | ⟨e1, e2, e3, e4⟩
      · exact Or.inl ⟨by omega, e2⟩
      · exact Or.inr ⟨by omega, by omega, by rw [List.getElem?_cons_succ]; exact e3, fun q => e4 ⟨by omega, q.2⟩⟩
/-- what the kit leaves of the locals behind a store -/
theorem zloc.st1 {φ : Nat → Nat} {L : zL} {ls' : Array Slot} {nL i : Nat} {v : Value} {w : Option Value} (hL : L.length = nL) (hi : i < L.length) (hw : w = none ∨ ∃ u, w = some u ∧ v = zad φ u)
    (h : lv_has ls' nL ((i, v) :: (zlv φ L).filter (fun q => !(q.1 == i) && !(q.1 + 1 == i && q.2.category == 2)))) : zloc φ (zst1 L i w) ls' nL := by
  refine zloc.of h ((zst1_len L i w).trans hL) fun j u hu => ?_
  rcases zst1_get L i w j u hi hu with ⟨rfl, e⟩ | ⟨e1, e2, e3⟩
  · rcases hw with hw | ⟨u', hw, e'⟩
    · rw [hw] at e; cases e
    · rw [hw] at e
      cases e
      rw [← e']
      exact List.mem_cons_self
  · refine List.mem_cons_of_mem _ (List.mem_filter.mpr ⟨zlv_mem.mpr ⟨u, e2, rfl⟩, ?_⟩)
    simp only [zad_cat, Bool.and_eq_true, Bool.not_eq_true', beq_eq_false_iff_ne, ne_eq]
    refine ⟨e1, ?_⟩
    cases hb : (j + 1 == i && u.category == 2) with
    | false => rfl
    | true =>
      simp only [Bool.and_eq_true, beq_iff_eq] at hb
      exact absurd hb e3
theorem zloc.st2 {φ : Nat → Nat} {L : zL} {ls' : Array Slot} {nL i : Nat} {v w : Value} (hL : L.length = nL) (hi : i + 1 < L.length) (hw : v = zad φ w)
    (h : lv_has ls' nL ((i, v) :: (zlv φ L).filter (fun q => !(q.1 == i) && (!(q.1 == i + 1) && !(q.1 + 1 == i && q.2.category == 2))))) : zloc φ (zst2 L i w) ls' nL := by
  refine zloc.of h ((zst2_len L i w hi).trans hL) fun j u hu => ?_
  rcases zst2_get L i w j u hi hu with ⟨rfl, e⟩ | ⟨e1, e2, e3, e4⟩
  · rw [hw, e]
    exact List.mem_cons_self
  · refine List.mem_cons_of_mem _ (List.mem_filter.mpr ⟨zlv_mem.mpr ⟨u, e3, rfl⟩, ?_⟩)
    simp only [zad_cat, Bool.and_eq_true, Bool.not_eq_true', beq_eq_false_iff_ne, ne_eq]
    refine ⟨e1, e2, ?_⟩
    cases hb : (j + 1 == i && u.category == 2) with
    | false => rfl
    | true =>
      simp only [Bool.and_eq_true, beq_iff_eq] at hb
      exact absurd hb e4
theorem zLk_st1 {n : Nat} {L : zL} {i : Nat} {w : Option Value} (hi : i < L.length) (h : zLk n L) (hw : ∀ v, w = some v → zvk n v) : zLk n (zst1 L i w) := by
  intro j v hv
  rcases zst1_get L i w j v hi hv with ⟨-, e⟩ | ⟨-, e, -⟩
  · exact hw v e
  · exact h j v e
theorem zLk_st2 {n : Nat} {L : zL} {i : Nat} {w : Value} (hi : i + 1 < L.length) (h : zLk n L) (hw : zvk n w) : zLk n (zst2 L i w) := by
  intro j v hv
  rcases zst2_get L i w j v hi hv with ⟨-, e⟩ | ⟨-, -, e, -⟩
  · rw [← e]; exact hw
  · exact h j v e
theorem zloc.congr {φ φ' : Nat → Nat} {n : Nat} {L : zL} {ls : Array Slot} {nL : Nat} (h : ∀ a, a ≤ n → φ' a = φ a) (hk : zLk n L) (hl : zloc φ L ls nL) : zloc φ' L ls nL :=
  ⟨hl.1, hl.2.1, hl.2.2.1, fun i v hv => by rw [zad_congr h (hk i v hv)]; exact hl.2.2.2 i v hv⟩
