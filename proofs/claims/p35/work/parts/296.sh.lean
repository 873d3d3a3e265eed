/-! the pure machine doesn't look where its cells lie, nor at what a local that isn't set would hold: cells put in front (source: wip/p35/src/296.sh.txt) -/
def fwA (G a : Nat) : Nat := if a = 0 then 0 else a + G
def fwV (G : Nat) : Value → Value
  | .ref a => .ref (fwA G a)
  | v => v
def fwO (G : Nat) : zO → zO
  | .inl v => .inl (v.map (fwV G))
  | .inr e => .inr e
def fwM (G : Nat) (M M' : zM) : Prop := M'.1 = M.1 + G ∧ ∀ a, a ≤ M.1 → M'.2.1 (fwA G a) = M.2.1 a ∧ ∀ j, (a = 0 → j < (M.2.1 0).2) → M'.2.2 (fwA G a) j = fwV G (M.2.2 a j)
def fwL (G : Nat) : zL → zL → Prop
  | [], [] => True
  | a :: l, a' :: l' => (a = none ∨ a' = a.map (fwV G)) ∧ fwL G l l'
  | _, _ => False
section ZFW
variable {G : Nat} {M M' : zM}
theorem fwA_or (G a : Nat) : (a = 0 ∧ fwA G a = 0) ∨ (¬ a = 0 ∧ fwA G a = a + G) := by
  unfold fwA
  by_cases h : a = 0
  · exact Or.inl ⟨h, if_pos h⟩
  · exact Or.inr ⟨h, if_neg h⟩
theorem fwA_0 : fwA G 0 = 0 := if_pos rfl
theorem fw_cat (v : Value) : (fwV G v).category = v.category := by cases v <;> rfl
theorem fw_ct (st : List Value) : zct (st.map (fwV G)) = zct st := by
  unfold zct
  rw [List.map_map]
  congr 1
  exact List.map_congr_left (fun v _ => fw_cat v)
theorem fw_kl {a a' : Option Value} (h : a = none ∨ a' = a.map (fwV G)) : zkl a = none ∨ zkl a' = (zkl a).map (fwV G) := by
  rcases h with e | e
  · subst e; exact Or.inl rfl
  · subst e
    cases a with
    | none => exact Or.inl rfl
    | some v =>
      show (if v.category = 2 then none else some v) = none ∨ (if (fwV G v).category = 2 then none else some (fwV G v)) = (if v.category = 2 then none else some v).map (fwV G)
      rw [fw_cat]
      by_cases h : v.category = 2
      · exact Or.inl (if_pos h)
      · rw [if_neg h, if_neg h]; exact Or.inr rfl
theorem fwL_len : ∀ {L L' : zL}, fwL G L L' → L'.length = L.length
  | [], [], _ => rfl
  | _ :: _, _ :: _, h => congrArg (· + 1) (fwL_len h.2)
  | [], _ :: _, h => h.elim
  | _ :: _, [], h => h.elim
theorem fwL_get : ∀ {L L' : zL} {k : Nat} {v : Value}, fwL G L L' → L[k]? = some (some v) → L'[k]? = some (some (fwV G v))
  | [], [], _, _, _, h => by cases h
  | a :: l, a' :: l', 0, v, h, e => by
    have e : some a = some (some v) := e
    injection e with e
    subst e
    rcases h.1 with z | z
    · cases z
    · subst z; rfl
  | a :: l, a' :: l', k + 1, v, h, e => fwL_get (L := l) (L' := l') (k := k) h.2 e
  | [], _ :: _, _, _, h, _ => h.elim
  | _ :: _, [], _, _, h, _ => h.elim
theorem fwL_map : ∀ (L : zL), fwL G L (L.map (Option.map (fwV G)))
  | [] => trivial
  | a :: l => ⟨Or.inr rfl, fwL_map l⟩
theorem fwL_st1 : ∀ {L L' : zL} {k : Nat} {v v' : Option Value}, fwL G L L' → (v = none ∨ v' = v.map (fwV G)) → fwL G (zst1 L k v) (zst1 L' k v')
  | [], [], _, _, _, _, _ => trivial
  | a :: l, a' :: l', 0, _, _, h, e => ⟨e, h.2⟩
  | a :: l, a' :: l', 1, _, _, h, e => ⟨fw_kl h.1, fwL_st1 (L := l) (L' := l') (k := 0) h.2 e⟩
  | a :: l, a' :: l', k + 2, _, _, h, e => ⟨h.1, fwL_st1 (L := l) (L' := l') (k := k + 1) h.2 e⟩
  | [], _ :: _, _, _, _, h, _ => h.elim
  | _ :: _, [], _, _, _, h, _ => h.elim
theorem fwL_st2 : ∀ {L L' : zL} {k : Nat} {v : Value}, fwL G L L' → fwL G (zst2 L k v) (zst2 L' k (fwV G v))
  | [], [], k, _, _ => by cases k <;> exact trivial
  | [a], [a'], 0, _, _ => trivial
  | a :: b :: l, a' :: b' :: l', 0, _, h => ⟨Or.inr rfl, Or.inl rfl, h.2.2⟩
  | a :: l, a' :: l', 1, v, h => by
    have := fwL_st2 (L := l) (L' := l') (k := 0) (v := v) h.2
    cases l <;> cases l' <;> first | exact ⟨fw_kl h.1, this⟩ | exact h.2.elim
  | a :: l, a' :: l', k + 2, v, h => by
    have := fwL_st2 (L := l) (L' := l') (k := k + 1) (v := v) h.2
    cases l <;> cases l' <;> first | exact ⟨h.1, this⟩ | exact h.2.elim
  | [], _ :: _, _, _, h => h.elim
  | _ :: _, [], _, _, h => h.elim
  | [_], _ :: _ :: _, 0, _, h => h.2.elim
  | _ :: _ :: _, [_], 0, _, h => h.2.elim
theorem fw_sl : ∀ (vs : List Value), zsl (vs.map (fwV G)) = (zsl vs).map (Option.map (fwV G))
  | [] => rfl
  | v :: vs => by
    have ih := fw_sl vs
    unfold zsl at ih ⊢
    rw [List.map_cons, List.flatMap_cons, List.flatMap_cons, List.map_append, ih, fw_cat]
    congr 1
    by_cases h : v.category = 2
    · rw [if_pos h, if_pos h]; rfl
    · rw [if_neg h, if_neg h]; rfl
theorem fw_ent (n : Nat) (vs : List Value) : zent n (vs.map (fwV G)) = (zent n vs).map (Option.map (fwV G)) := by
  unfold zent
  rw [fw_sl, List.map_append, List.length_map, List.map_replicate]
  rfl
theorem fw_pop : ∀ (n : Nat) (acc st : List Value), zpop n (acc.map (fwV G)) (st.map (fwV G)) = (zpop n acc st).map (fun q => (q.1.map (fwV G), q.2.map (fwV G)))
  | 0, _, _ => rfl
  | n + 1, acc, v :: st => fw_pop n (v :: acc) st
  | _ + 1, _, [] => rfl
theorem fw_popi : ∀ (n : Nat) (acc : List Nat) (st : List Value), zpopi n acc (st.map (fwV G)) = (zpopi n acc st).map (fun q => (q.1, q.2.map (fwV G)))
  | 0, _, _ => rfl
  | n + 1, acc, .int i :: st => by
    show (if 0 ≤ i ∧ i.toNatClampNeg ≤ 1000 then zpopi n (i.toNatClampNeg :: acc) (st.map (fwV G)) else none) = (if 0 ≤ i ∧ i.toNatClampNeg ≤ 1000 then zpopi n (i.toNatClampNeg :: acc) st else none).map (fun q => (q.1, q.2.map (fwV G)))
    by_cases h : 0 ≤ i ∧ i.toNatClampNeg ≤ 1000
    · rw [if_pos h, if_pos h]; exact fw_popi n _ st
    · rw [if_neg h, if_neg h]; rfl
  | _ + 1, _, [] => rfl
  | _ + 1, _, .long _ :: _ => rfl
  | _ + 1, _, .float _ :: _ => rfl
  | _ + 1, _, .double _ :: _ => rfl
  | _ + 1, _, .null :: _ => rfl
  | _ + 1, _, .ref _ :: _ => rfl
  | _ + 1, _, .retAddr _ :: _ => rfl
theorem fw_fit (ty : FieldType) (v : Value) : zfit ty (fwV G v) = zfit ty v := by
  cases v <;> first | rfl | (unfold zfit; cases ty <;> simp [narrow, fits, fwV])
theorem al_of {a : Nat} (h : zal M a = true) : 1 ≤ a ∧ a ≤ M.1 := by
  unfold zal at h
  simpa using h
theorem fw_al (hM : fwM G M M') {a : Nat} (h : zal M a = true) : zal M' (fwA G a) = true := by
  have h1 := al_of h
  have h2 := fwA_or G a
  unfold zal
  rw [hM.1, Bool.and_eq_true, decide_eq_true_eq, decide_eq_true_eq]
  omega
theorem fw_k (hM : fwM G M M') {a : Nat} (h : zal M a = true) : M'.2.1 (fwA G a) = M.2.1 a := (hM.2 a (al_of h).2).1
theorem fw_c (hM : fwM G M M') {a : Nat} (h : zal M a = true) (j : Nat) : M'.2.2 (fwA G a) j = fwV G (M.2.2 a j) := (hM.2 a (al_of h).2).2 j (fun e => by have := (al_of h).1; omega)
theorem fw_ix (hM : fwM G M M') {t a : Nat} {i : Int32} (h : zix M t a i = true) : zix M' t (fwA G a) i = true := by
  unfold zix at h ⊢
  have ha : zal M a = true := by
    rw [Bool.and_eq_true, Bool.and_eq_true] at h
    exact h.1.1
  rw [fw_k hM ha, fw_al hM ha]
  rw [ha] at h
  exact h
theorem ix_al {t a : Nat} {i : Int32} (h : zix M t a i = true) : zal M a = true := by
  unfold zix at h
  rw [Bool.and_eq_true, Bool.and_eq_true] at h
  exact h.1.1
theorem fw_ixS (hM : fwM G M M') {a : Nat} {i : Int32} (h : zixS M a i = true) : a = 0 ∧ i.toNatClampNeg < (M.2.1 0).2 ∧ zixS M' 0 i = true := by
  unfold zixS at h ⊢
  rw [Bool.and_eq_true, Bool.and_eq_true, Bool.and_eq_true, decide_eq_true_eq, decide_eq_true_eq, decide_eq_true_eq, decide_eq_true_eq] at h
  obtain ⟨⟨h1, h2⟩, h3, h4⟩ := h
  subst h1
  have := (hM.2 0 (Nat.zero_le _)).1
  rw [fwA_0] at this
  refine ⟨rfl, h4, ?_⟩
  rw [this, decide_eq_true rfl, decide_eq_true h2, decide_eq_true h3, decide_eq_true h4]
  rfl
theorem fw_put (hM : fwM G M M') {a j : Nat} {v : Value} (ha : zal M a = true) : fwM G (zput M a j v) (zput M' (fwA G a) j (fwV G v)) := by
  refine ⟨hM.1, fun b hb => ⟨(hM.2 b hb).1, fun k hk => ?_⟩⟩
  have h1 := fwA_or G a
  have h2 := fwA_or G b
  have h3 := al_of ha
  show (if fwA G b = fwA G a ∧ k = j then fwV G v else M'.2.2 (fwA G b) k) = fwV G (if b = a ∧ k = j then v else M.2.2 b k)
  by_cases e : b = a ∧ k = j
  · rw [if_pos e, if_pos ⟨by rw [e.1], e.2⟩]
  · rw [if_neg e, if_neg (fun q => e ⟨by omega, q.2⟩)]
    exact (hM.2 b hb).2 k hk
theorem fw_new (hM : fwM G M M') {q : Nat × Nat} {f : Nat → Value} (hf : ∀ j, fwV G (f j) = f j) : fwM G (znew M q f) (znew M' q f) := by
  have h0 := hM.1
  refine ⟨by show M'.1 + 1 = M.1 + 1 + G; omega, fun b hb => ?_⟩
  have h2 := fwA_or G b
  have hb : b ≤ M.1 + 1 := hb
  have key : (fwA G b = M'.1 + 1) ↔ b = M.1 + 1 := by omega
  refine ⟨?_, fun k hk => ?_⟩
  · show (if fwA G b = M'.1 + 1 then q else M'.2.1 (fwA G b)) = if b = M.1 + 1 then q else M.2.1 b
    by_cases e : b = M.1 + 1
    · rw [if_pos e, if_pos (key.mpr e)]
    · rw [if_neg e, if_neg (fun z => e (key.mp z))]; exact (hM.2 b (by omega)).1
  · show (if fwA G b = M'.1 + 1 then f k else M'.2.2 (fwA G b) k) = fwV G (if b = M.1 + 1 then f k else M.2.2 b k)
    by_cases e : b = M.1 + 1
    · rw [if_pos e, if_pos (key.mpr e), hf]
    · rw [if_neg e, if_neg (fun z => e (key.mp z))]
      refine (hM.2 b (by omega)).2 k (fun z => ?_)
      have hk := hk z
      have : (znew M q f).2.1 0 = M.2.1 0 := by
        show (if 0 = M.1 + 1 then q else M.2.1 0) = M.2.1 0
        exact if_neg (by omega)
      rw [this] at hk
      exact hk
theorem fw_copy (hM : fwM G M M') {s sp d dp n : Nat} (hs : zal M s = true) (hd : zal M d = true) : fwM G (zcopy M s sp d dp n) (zcopy M' (fwA G s) sp (fwA G d) dp n) := by
  refine ⟨hM.1, fun b hb => ⟨(hM.2 b hb).1, fun k hk => ?_⟩⟩
  have h1 := fwA_or G d
  have h2 := fwA_or G b
  have h3 := al_of hd
  show (if fwA G b = fwA G d ∧ dp ≤ k ∧ k < dp + n then M'.2.2 (fwA G s) (sp + (k - dp)) else M'.2.2 (fwA G b) k) = fwV G (if b = d ∧ dp ≤ k ∧ k < dp + n then M.2.2 s (sp + (k - dp)) else M.2.2 b k)
  by_cases e : b = d ∧ dp ≤ k ∧ k < dp + n
  · rw [if_pos e, if_pos ⟨by rw [e.1], e.2⟩]
    exact fw_c hM hs _
  · rw [if_neg e, if_neg (fun q => e ⟨by omega, q.2⟩)]
    exact (hM.2 b hb).2 k hk
theorem fw_nx (hM : fwM G M M') : M'.1 + 1 = fwA G (M.1 + 1) := by
  have := fwA_or G (M.1 + 1)
  have := hM.1
  omega
theorem fw_def (k : Nat) : fwV G (zdef k) = zdef k := by
  unfold zdef
  by_cases h1 : k = 21
  · rw [if_pos h1]; rfl
  · rw [if_neg h1]
    by_cases h2 : k = 22
    · rw [if_pos h2]; rfl
    · rw [if_neg h2]
      by_cases h3 : k < 30
      · rw [if_pos h3]; rfl
      · rw [if_neg h3]; rfl
theorem fw_defv (t : FieldType) : fwV G (defaultValue t) = defaultValue t := by cases t <;> rfl
theorem fw_mkL {F : zM → zM × Nat} (hF : ∀ M M', fwM G M M' → fwM G (F M).1 (F M').1 ∧ (F M').2 = fwA G (F M).2) (hc : ∀ M, M.1 ≤ (F M).1.1) {a : Nat} (ha : 1 ≤ a) : ∀ (i : Nat) (M M' : zM), a ≤ M.1 → fwM G M M' → fwM G (zmkL F a i M) (zmkL F (fwA G a) i M') ∧ M.1 ≤ (zmkL F a i M).1
  | 0, M, M', _, h => ⟨h, Nat.le_refl _⟩
  | i + 1, M, M', ham, h => by
    obtain ⟨h1, h2⟩ := fw_mkL hF hc ha i M M' ham h
    obtain ⟨h3, h4⟩ := hF _ _ h1
    have h5 := hc (zmkL F a i M)
    refine ⟨?_, by show M.1 ≤ (F (zmkL F a i M)).1.1; omega⟩
    show fwM G (zput (F (zmkL F a i M)).1 a i (.ref (F (zmkL F a i M)).2)) (zput (F (zmkL F (fwA G a) i M')).1 (fwA G a) i (.ref (F (zmkL F (fwA G a) i M')).2))
    rw [h4]
    refine fw_put h3 (v := .ref _) ?_
    unfold zal
    rw [Bool.and_eq_true, decide_eq_true_eq, decide_eq_true_eq]
    omega
theorem fw_mk : ∀ (ns : List Nat) (k : Nat) (M M' : zM), fwM G M M' → (fwM G (zmk ns k M).1 (zmk ns k M').1 ∧ (zmk ns k M').2 = fwA G (zmk ns k M).2) ∧ M.1 ≤ (zmk ns k M).1.1
  | [], _, M, M', h => ⟨⟨h, rfl⟩, Nat.le_refl _⟩
  | [n], k, M, M', h => ⟨⟨fw_new h (fun _ => fw_def k), by
      show M'.1 + 1 = fwA G (M.1 + 1)
      have := fwA_or G (M.1 + 1)
      have := h.1
      omega⟩, Nat.le_succ _⟩
  | n :: m :: ns, k, M, M', h => by
    have ih := fun M M' h => (fw_mk (m :: ns) (zdn k) M M' h).1
    have hn := fw_new h (q := (k, n)) (f := fun _ => .null) (fun _ => rfl)
    have e : M'.1 + 1 = fwA G (M.1 + 1) := by
      have := fwA_or G (M.1 + 1)
      have := h.1
      omega
    have hc : ∀ M : zM, M.1 ≤ (zmk (m :: ns) (zdn k) M).1.1 := fun M => by
      obtain ⟨h1, h2⟩ := zmk_keep (m :: ns) (zdn k) M
      omega
    obtain ⟨h1, h2⟩ := fw_mkL ih hc (a := M.1 + 1) (by omega) n _ _ (Nat.le_refl _) hn
    refine ⟨⟨?_, e⟩, ?_⟩
    · show fwM G (zmkL (zmk (m :: ns) (zdn k)) (M.1 + 1) n (znew M (k, n) (fun _ => .null))) (zmkL (zmk (m :: ns) (zdn k)) (M'.1 + 1) n (znew M' (k, n) (fun _ => .null)))
      rw [e]
      exact h1
    · have h2 : M.1 + 1 ≤ (zmkL (zmk (m :: ns) (zdn k)) (M.1 + 1) n (znew M (k, n) (fun _ => .null))).1 := h2
      show M.1 ≤ (zmkL (zmk (m :: ns) (zdn k)) (M.1 + 1) n (znew M (k, n) (fun _ => .null))).1
      omega
theorem fw_rows (hM : fwM G M M') {s sp n : Nat} (hs : zal M s = true) (h : zrows M s sp n = true) : zrows M' (fwA G s) sp n = true := by
  unfold zrows at h ⊢
  rw [List.all_eq_true] at h ⊢
  intro i hi
  have := h i hi
  rw [fw_c hM hs]
  cases e : M.2.2 s (sp + i) with
  | ref b =>
    rw [e] at this
    have this : (zal M b && decide ((M.2.1 b).1 = 20)) = true := this
    rw [Bool.and_eq_true] at this
    show (zal M' (fwA G b) && decide ((M'.2.1 (fwA G b)).1 = 20)) = true
    rw [fw_al hM this.1, fw_k hM this.1, this.2]
    rfl
  | _ => rfl
end ZFW
