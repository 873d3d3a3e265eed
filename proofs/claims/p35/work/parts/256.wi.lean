/-! rows made longer and shorter; whether a rule holds (source: wip/p35/src/256.wi.txt, by expand3.py) -/
/-- a later heap: nothing that was there has changed -/
def eL (E E' : zEx) : Prop := E.1 ≤ E'.1 ∧ E'.2.2.2 = E.2.2.2 ∧ ∀ a, a ≤ 476 + E.1 → E'.2.1 a = E.2.1 a ∧ ∀ j, E'.2.2.1 a j = E.2.2.1 a j
theorem eL_refl (E : zEx) : eL E E := ⟨Nat.le_refl _, rfl, fun _ _ => ⟨rfl, fun _ => rfl⟩⟩
theorem eL.trans {A B C : zEx} (h : eL A B) (h' : eL B C) : eL A C := ⟨Nat.le_trans h.1 h'.1, h'.2.1.trans h.2.1, fun a ha => by
  obtain ⟨p1, p2⟩ := h.2.2 a ha
  obtain ⟨q1, q2⟩ := h'.2.2 a (Nat.le_trans ha (by have := h.1; omega))
  exact ⟨q1.trans p1, fun j => (q2 j).trans (p2 j)⟩⟩
theorem eL_new (E : zEx) (q : Nat × Nat) (f : Nat → Value) : eL E (eN E q f) := ⟨Nat.le_succ _, rfl, fun a ha => by
  refine ⟨?_, fun j => ?_⟩
  · show (if a = 476 + E.1 + 1 then q else E.2.1 a) = _
    rw [if_neg (by omega)]
  · show (if a = 476 + E.1 + 1 then f j else E.2.2.1 a j) = _
    rw [if_neg (by omega)]⟩
theorem eL.put {A E : zEx} (h : eL A E) {a j : Nat} {v : Value} (ha : 476 + A.1 < a) : eL A (eP E a j v) := ⟨h.1, h.2.1, fun b hb => by
  obtain ⟨p1, p2⟩ := h.2.2 b hb
  refine ⟨p1, fun k => ?_⟩
  show (if b = a ∧ k = j then v else E.2.2.1 b k) = _
  rw [if_neg (by omega)]; exact p2 k⟩
theorem eL.cpy {A E : zEx} (h : eL A E) {s sp d dp n : Nat} (ha : 476 + A.1 < d) : eL A (eC E s sp d dp n) := ⟨h.1, h.2.1, fun b hb => by
  obtain ⟨p1, p2⟩ := h.2.2 b hb
  refine ⟨p1, fun k => ?_⟩
  show (if b = d ∧ dp ≤ k ∧ k < dp + n then _ else E.2.2.1 b k) = _
  rw [if_neg (by omega)]; exact p2 k⟩
theorem eL.Y {A E : zEx} (h : eL A E) {a : Nat} (ha : eY A a) : eY E a := ⟨ha.1, Nat.le_trans ha.2.1 (by have := h.1; omega), ha.2.2⟩
theorem eL.K {A E : zEx} (h : eL A E) {a : Nat} (ha : eY A a) : eK E a = eK A a := by
  unfold eK
  rw [(h.2.2 a ha.2.1).1]
theorem eL.I {A E : zEx} (h : eL A E) {a n : Nat} {g : Nat → Int32} (ha : vI A a n g) : vI E a n g := ⟨h.Y ha.1, (h.K ha.1).trans ha.2.1, fun j hj => ((h.2.2 a ha.1.2.1).2 j).trans (ha.2.2 j hj)⟩
theorem eL.R {A E : zEx} (h : eL A E) {a k n : Nat} {g : Nat → Nat} (ha : vR A a k n g) : vR E a k n g := ⟨h.Y ha.1, (h.K ha.1).trans ha.2.1, fun j hj => ((h.2.2 a ha.1.2.1).2 j).trans (ha.2.2 j hj)⟩
theorem eL.S {A E : zEx} (h : eL A E) {L : Nat} {xs : Nat → Int32} (ha : vS A L xs) : vS E L xs := ⟨(h.2.2 0 (Nat.zero_le _)).1.trans ha.1, ha.2.1, fun j hj => ((h.2.2 0 (Nat.zero_le _)).2 j).trans (ha.2.2 j hj)⟩
/-- a row of ints, as a thing in a row -/
def vT (E : zEx) (a : Nat) : Prop := eY E a ∧ (eK E a).1 = 20
theorem vI.T {E : zEx} {a n : Nat} {g : Nat → Int32} (h : vI E a n g) : vT E a := ⟨h.1, by rw [h.2.1]⟩
theorem eL.T {A E : zEx} (h : eL A E) {a : Nat} (ha : vT A a) : vT E a := ⟨h.Y ha.1, by rw [h.K ha.1]; exact ha.2⟩
section ZV
variable {E : zEx} {x y : zSt} {Q : zO → zM → Prop} {M : zM}
theorem zacp_R {a d n m : Nat} {g g' : Nat → Nat} {sp dp c : Nat} (h : vR E a 40 n g) (h' : vR E d 40 m g') (hg : ∀ j, sp ≤ j → j < sp + c → vT E (g j)) (h1 : sp + c ≤ n) (h2 : dp + c ≤ m) (hb : n < 100000 ∧ m < 100000) : zacp (zmem x y E) a d (nI sp) (nI dp) (nI c) = True := by
  refine eq_true ⟨⟨eY_al h.1, eY_al h'.1, ?_, Or.inr ⟨?_, ?_⟩⟩, ⟨nI_pos' (by omega), nI_pos' (by omega), nI_pos' (by omega)⟩, ?_, ?_⟩
  · rw [zmem_k, zmem_k, h.2.1, h'.2.1]
  · rw [zmem_k, h.2.1]
  · unfold zrows
    rw [List.all_eq_true]
    intro i hi
    rw [nI_clamp (by omega), List.mem_range] at hi
    rw [nI_clamp (by omega)]
    have e : (zmem x y E).2.2 a (sp + i) = .ref (g (sp + i)) := h.rd (by omega)
    rw [e]
    have ht := hg (sp + i) (by omega) (by omega)
    show (zal (zmem x y E) (g (sp + i)) && decide (((zmem x y E).2.1 (g (sp + i))).1 = 20)) = true
    rw [eY_al ht.1, zmem_k, ht.2, decide_eq_true rfl]
    rfl
  · rw [nI_clamp (by omega), nI_clamp (by omega), zmem_k, h.2.1]; exact h1
  · rw [nI_clamp (by omega), nI_clamp (by omega), zmem_k, h'.2.1]; exact h2
theorem zacp_I {a d n m : Nat} {g g' : Nat → Int32} {sp dp c : Nat} (h : vI E a n g) (h' : vI E d m g') (h1 : sp + c ≤ n) (h2 : dp + c ≤ m) (hb : n < 100000 ∧ m < 100000) : zacp (zmem x y E) a d (nI sp) (nI dp) (nI c) = True := by
  refine eq_true ⟨⟨eY_al h.1, eY_al h'.1, ?_, Or.inl ?_⟩, ⟨nI_pos' (by omega), nI_pos' (by omega), nI_pos' (by omega)⟩, ?_, ?_⟩
  · rw [zmem_k, zmem_k, h.2.1, h'.2.1]
  · rw [zmem_k, h.2.1]
  · rw [nI_clamp (by omega), nI_clamp (by omega), zmem_k, h.2.1]; exact h1
  · rw [nI_clamp (by omega), nI_clamp (by omega), zmem_k, h'.2.1]; exact h2
theorem zias2_R {a v k n : Nat} {g : Nat → Nat} (h : vR E a 40 n g) (hv : vT E v) (hk : k < n) (hn : n < 100000) : zias2 (zmem x y E) v a (nI k) = True := by
  refine eq_true ⟨eY_al hv.1, ?_, ?_⟩
  · rw [zmem_k, hv.2]; rfl
  · unfold zix
    rw [eY_al h.1, zmem_k, zmem_k, hv.2, h.2.1, nI_clamp (by omega), decide_eq_true (nI_pos' (by omega)), decide_eq_true hk]
    rfl
/-- the new row of references, as it begins; of ints -/
theorem vR_nw (E : zEx) (n : Nat) (f : Nat → Value) (g : Nat → Nat) (hf : ∀ j, j < n → f j = .ref (g j)) : vR (eN E (40, n) f) (476 + E.1 + 1) 40 n g := ⟨eN_ny _ _ _, eN_nk _ _ _, fun j hj => (eN_nc _ _ _ j).trans (hf j hj)⟩
theorem vI_nw (E : zEx) (n : Nat) (f : Nat → Value) (g : Nat → Int32) (hf : ∀ j, j < n → f j = .int (g j)) : vI (eN E (20, n) f) (476 + E.1 + 1) n g := ⟨eN_ny _ _ _, eN_nk _ _ _, fun j hj => (eN_nc _ _ _ j).trans (hf j hj)⟩
theorem c116 {a b n : Nat} {g : Nat → Nat} (h : vR E a 40 n g) (hg : ∀ j, j < n → vT E (g j)) (hb : vT E b) (hn : n < 26) : ∃ E', eL E E' ∧ vR E' (476 + E.1 + 1) 40 (n + 1) (fun j => if j = n then b else g j) ∧ E'.1 = E.1 + 1 ∧
    ∀ (x y : zSt) (Q : zO → zM → Prop), zcl 116 [.ref a, .ref b] (zmem x y E) Q ↔ Q (.inl (some (.ref (476 + E.1 + 1)))) (zmem x y E') := by
  obtain ⟨E1, hE1⟩ : ∃ E1, E1 = eN E (40, n + 1) (fun _ => .null) := ⟨_, rfl⟩
  have k1 : eL E E1 := by rw [hE1]; exact eL_new _ _ _
  have y1 : eY E1 (476 + E.1 + 1) := by rw [hE1]; exact eN_ny _ _ _
  have q1 : eK E1 (476 + E.1 + 1) = (40, n + 1) := by rw [hE1]; exact eN_nk _ _ _
  obtain ⟨E2, hE2⟩ : ∃ E2, E2 = eC E1 a 0 (476 + E.1 + 1) 0 n := ⟨_, rfl⟩
  have k2 : eL E E2 := by rw [hE2]; exact k1.cpy (by omega)
  have r2 : ∀ j, j < n → E2.2.2.1 (476 + E.1 + 1) j = .ref (g j) := fun j hj => by
    rw [hE2]
    show (if 476 + E.1 + 1 = 476 + E.1 + 1 ∧ 0 ≤ j ∧ j < 0 + n then E1.2.2.1 a (0 + (j - 0)) else _) = _
    rw [if_pos ⟨rfl, by omega, by omega⟩, show 0 + (j - 0) = j by omega]
    exact (k1.R h).2.2 j hj
  have y2 : eY E2 (476 + E.1 + 1) := by rw [hE2]; exact y1
  have q2 : eK E2 (476 + E.1 + 1) = (40, n + 1) := by rw [hE2]; exact q1
  have ha1 := k1.R h
  refine ⟨eP E2 (476 + E.1 + 1) n (.ref b), k2.put (by omega), ⟨y2, q2, fun j hj => ?_⟩, by rw [hE2, hE1]; rfl, fun x y Q => ?_⟩
  · show (if 476 + E.1 + 1 = 476 + E.1 + 1 ∧ j = n then .ref b else E2.2.2.1 (476 + E.1 + 1) j) = .ref (if j = n then b else g j)
    by_cases e : j = n
    · rw [if_pos ⟨rfl, e⟩, if_pos e]
    · rw [if_neg (fun z => e z.2), if_neg e]; exact r2 j (by omega)
  · have hnew : znew (zmem x y E) (40, n + 1) (fun _ => .null) = zmem x y E1 := by rw [hE1]; exact zmem_new
    have hac : zacp (zmem x y E1) a (476 + E.1 + 1) (nI 0) (nI 0) (nI n) = True := by
      refine eq_true ⟨⟨eY_al ha1.1, eY_al y1, ?_, Or.inr ⟨?_, ?_⟩⟩, ⟨nI_pos' (by omega), nI_pos' (by omega), nI_pos' (by omega)⟩, ?_, ?_⟩
      · rw [zmem_k, zmem_k, ha1.2.1, q1]
      · rw [zmem_k, ha1.2.1]
      · unfold zrows
        rw [List.all_eq_true]
        intro i hi
        rw [nI_clamp (by omega), List.mem_range] at hi
        rw [nI_clamp (by omega)]
        have e : (zmem x y E1).2.2 a (0 + i) = .ref (g (0 + i)) := ha1.rd (by omega)
        rw [e]
        have ht := k1.T (hg (0 + i) (by omega))
        show (zal (zmem x y E1) (g (0 + i)) && decide (((zmem x y E1).2.1 (g (0 + i))).1 = 20)) = true
        rw [eY_al ht.1, zmem_k, ht.2, decide_eq_true rfl]
        rfl
      · rw [nI_clamp (by omega), nI_clamp (by omega), zmem_k, ha1.2.1]; show 0 + n ≤ n; omega
      · rw [nI_clamp (by omega), nI_clamp (by omega), zmem_k, q1]; show 0 + n ≤ n + 1; omega
    have hcp : zcopy (zmem x y E1) a 0 (476 + E.1 + 1) 0 n = zmem x y E2 := by rw [hE2]; exact zmem_cpy ha1.1 y1
    have hia : zias2 (zmem x y E2) b (476 + E.1 + 1) (nI n) = True := by
      have hb2 := k2.T hb
      refine eq_true ⟨eY_al hb2.1, ?_, ?_⟩
      · rw [zmem_k, hb2.2]; rfl
      · unfold zix
        rw [eY_al y2, zmem_k, zmem_k, hb2.2, q2, nI_clamp (by omega), decide_eq_true (nI_pos' (by omega)), decide_eq_true (show n < n + 1 by omega)]
        rfl
    have hpt : zput (zmem x y E2) (476 + E.1 + 1) n (.ref b) = zmem x y (eP E2 (476 + E.1 + 1) n (.ref b)) := zmem_py2 y2
    have hln := fun x y => h.ln (x := x) (y := y)
    have hln1 := fun x y => ha1.ln (x := x) (y := y)
    have hln2 := fun x y => (k2.R h).ln (x := x) (y := y)
    have har := fun x y => h.ar (x := x) (y := y) (Or.inl rfl)
    have har1 := fun x y => ha1.ar (x := x) (y := y) (Or.inl rfl)
    have har2 := fun x y => (k2.R h).ar (x := x) (y := y) (Or.inl rfl)
    have hp : (0 : Int32) ≤ nI (n + 1) := nI_pos' (by omega)
    rw [e116]
    simp (disch := omega) only [p116_0, p116_1, p116_2, p116_3, p116_4, p116_7, p116_8, p116_9, p116_10, p116_11, p116_12, p116_13, p116_14, p116_17, p116_18, p116_19, p116_20, p116_21, p116_22, p116_23, hln, har, hln1, har1, hln2, har2, zmem_c, hnew, hac, hcp, hia, hpt, hp, zvi_int, zvl_long, zvd_double, zvr_ref, zisI_int, zisR_ref, zgI_int, zgR_ref, zkl_int, zkl_ref, zkl_none, zkl_long, zkl_double, zct_nil, zct_int, zct_ref, zct_long, zct_double, zbk_some, zbk_none, zbk_exc, nI_clamp, nI_add, nI_mul, true_and, and_true, Nat.reduceAdd, Nat.reduceMul, Nat.reduceLeDiff, Nat.reducePow, ↓reduceIte, Nat.zero_add, Nat.add_zero, Nat.reduceLT, Nat.reduceEqDiff, Nat.le_refl, zn10, zn01, zfitB0, zfitB1, znarB0, znarB1, Nat.lt_irrefl, ↓zvi_eq, ↓zvr_eq]
    exact ⟨fun z => z.2.2, fun z => ⟨⟨by omega, by omega⟩, by omega, z⟩⟩
theorem c117 {a k n : Nat} {g : Nat → Nat} (h : vR E a 40 n g) (hg : ∀ j, j < n → vT E (g j)) (hk : k < n) (hn : n < 26) : ∃ E', eL E E' ∧ vR E' (476 + E.1 + 1) 40 (n - 1) (fun j => if j < k then g j else g (j + 1)) ∧ E'.1 = E.1 + 1 ∧
    ∀ (x y : zSt) (Q : zO → zM → Prop), zcl 117 [.ref a, .int (nI k)] (zmem x y E) Q ↔ Q (.inl (some (.ref (476 + E.1 + 1)))) (zmem x y E') := by
  obtain ⟨E1, hE1⟩ : ∃ E1, E1 = eN E (40, n - 1) (fun _ => .null) := ⟨_, rfl⟩
  have k1 : eL E E1 := by rw [hE1]; exact eL_new _ _ _
  have y1 : eY E1 (476 + E.1 + 1) := by rw [hE1]; exact eN_ny _ _ _
  have q1 : eK E1 (476 + E.1 + 1) = (40, n - 1) := by rw [hE1]; exact eN_nk _ _ _
  obtain ⟨E2, hE2⟩ : ∃ E2, E2 = eC E1 a 0 (476 + E.1 + 1) 0 k := ⟨_, rfl⟩
  have k2 : eL E E2 := by rw [hE2]; exact k1.cpy (by omega)
  have y2 : eY E2 (476 + E.1 + 1) := by rw [hE2]; exact y1
  have q2 : eK E2 (476 + E.1 + 1) = (40, n - 1) := by rw [hE2]; exact q1
  have ha1 := k1.R h
  have ha2 := k2.R h
  have r2 : ∀ j, j < k → E2.2.2.1 (476 + E.1 + 1) j = .ref (g j) := fun j hj => by
    rw [hE2]
    show (if 476 + E.1 + 1 = 476 + E.1 + 1 ∧ 0 ≤ j ∧ j < 0 + k then E1.2.2.1 a (0 + (j - 0)) else _) = _
    rw [if_pos ⟨rfl, by omega, by omega⟩, show 0 + (j - 0) = j by omega]
    exact ha1.2.2 j (by omega)
  have aux : ∀ (F : zEx) (sp dp c : Nat), eL E F → eY F (476 + E.1 + 1) → eK F (476 + E.1 + 1) = (40, n - 1) → sp + c ≤ n → dp + c ≤ n - 1 → ∀ x y, zacp (zmem x y F) a (476 + E.1 + 1) (nI sp) (nI dp) (nI c) = True := by
    intro F sp dp c kF yF qF h1 h2 x y
    have haF := kF.R h
    refine eq_true ⟨⟨eY_al haF.1, eY_al yF, ?_, Or.inr ⟨?_, ?_⟩⟩, ⟨nI_pos' (by omega), nI_pos' (by omega), nI_pos' (by omega)⟩, ?_, ?_⟩
    · rw [zmem_k, zmem_k, haF.2.1, qF]
    · rw [zmem_k, haF.2.1]
    · unfold zrows
      rw [List.all_eq_true]
      intro i hi
      rw [nI_clamp (by omega), List.mem_range] at hi
      rw [nI_clamp (by omega)]
      have e : (zmem x y F).2.2 a (sp + i) = .ref (g (sp + i)) := haF.rd (by omega)
      rw [e]
      have ht := kF.T (hg (sp + i) (by omega))
      show (zal (zmem x y F) (g (sp + i)) && decide (((zmem x y F).2.1 (g (sp + i))).1 = 20)) = true
      rw [eY_al ht.1, zmem_k, ht.2, decide_eq_true rfl]
      rfl
    · rw [nI_clamp (by omega), nI_clamp (by omega), zmem_k, haF.2.1]; exact h1
    · rw [nI_clamp (by omega), nI_clamp (by omega), zmem_k, qF]; exact h2
  refine ⟨eC E2 a (k + 1) (476 + E.1 + 1) k (n - 1 - k), k2.cpy (by omega), ⟨y2, q2, fun j hj => ?_⟩, by rw [hE2, hE1]; rfl, fun x y Q => ?_⟩
  · show (if 476 + E.1 + 1 = 476 + E.1 + 1 ∧ k ≤ j ∧ j < k + (n - 1 - k) then E2.2.2.1 a (k + 1 + (j - k)) else E2.2.2.1 (476 + E.1 + 1) j) = .ref (if j < k then g j else g (j + 1))
    by_cases e : j < k
    · rw [if_neg (by omega), if_pos e]; exact r2 j e
    · rw [if_pos ⟨rfl, by omega, by omega⟩, if_neg e, show k + 1 + (j - k) = j + 1 by omega]
      exact ha2.2.2 (j + 1) (by omega)
  · have hnew : znew (zmem x y E) (40, n - 1) (fun _ => .null) = zmem x y E1 := by rw [hE1]; exact zmem_new
    have hac1 := aux E1 0 0 k k1 y1 q1 (by omega) (by omega) x y
    have hac2 := aux E2 (k + 1) k (n - 1 - k) k2 y2 q2 (by omega) (by omega) x y
    have hcp1 : zcopy (zmem x y E1) a 0 (476 + E.1 + 1) 0 k = zmem x y E2 := by rw [hE2]; exact zmem_cpy ha1.1 y1
    have hcp2 : zcopy (zmem x y E2) a (k + 1) (476 + E.1 + 1) k (n - 1 - k) = zmem x y (eC E2 a (k + 1) (476 + E.1 + 1) k (n - 1 - k)) := zmem_cpy ha2.1 y2
    have hln := fun x y => h.ln (x := x) (y := y)
    have har := fun x y => h.ar (x := x) (y := y) (Or.inl rfl)
    have hN2 : vR E2 (476 + E.1 + 1) 40 (n - 1) (fun j => 0) ∨ True := Or.inr trivial
    have hln2 : ∀ x y, zlen' (zmem x y E2) (476 + E.1 + 1) = n - 1 := fun x y => by
      unfold zlen'
      rw [zmem_k, q2]
    have har2 : ∀ x y, zarr (zmem x y E2) (476 + E.1 + 1) = True := fun x y => by
      refine eq_true (Or.inl ⟨eY_al y2, Or.inr (Or.inr ?_)⟩)
      rw [zmem_k, q2]
      rfl
    have hp : (0 : Int32) ≤ nI (n - 1) := nI_pos' (by omega)
    have hs1 : nI n - nI 1 = nI (n - 1) := nI_sub (by omega)
    have hs2 : nI (n - 1) - nI k = nI (n - 1 - k) := nI_sub (by omega)
    rw [e117]
    simp (disch := omega) only [p117_0, p117_1, p117_2, p117_3, p117_4, p117_7, p117_8, p117_9, p117_10, p117_11, p117_12, p117_13, p117_16, p117_17, p117_18, p117_19, p117_20, p117_21, p117_22, p117_23, p117_24, p117_25, p117_26, p117_29, p117_30, hln, har, zmem_c, hnew, hac1, hac2, hcp1, hcp2, hln2, har2, hp, hs1, hs2, zvi_int, zvl_long, zvd_double, zvr_ref, zisI_int, zisR_ref, zgI_int, zgR_ref, zkl_int, zkl_ref, zkl_none, zkl_long, zkl_double, zct_nil, zct_int, zct_ref, zct_long, zct_double, zbk_some, zbk_none, zbk_exc, nI_clamp, nI_add, nI_mul, true_and, and_true, Nat.reduceAdd, Nat.reduceMul, Nat.reduceLeDiff, Nat.reducePow, ↓reduceIte, Nat.zero_add, Nat.add_zero, Nat.reduceLT, Nat.reduceEqDiff, Nat.le_refl, zn10, zn01, zfitB0, zfitB1, znarB0, znarB1, Nat.lt_irrefl, ↓zvi_eq, ↓zvr_eq]
    exact ⟨fun z => z.2.2, fun z => ⟨⟨by omega, by omega⟩, by omega, z⟩⟩
end ZV
