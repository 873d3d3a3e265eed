/-! constructors: the law's own store, straight on (source: wip/p35/src/317.po.txt, by gen/emit_po.py) -/
section ZK
variable {L : Nat} {xs : Nat → Int32} {Q : zO → zM → Prop} {P : Nat → Nat → Prop} {k : Nat}
theorem mG_mkO {F : zM → zM × Nat} {c n s kd : Nat} (hz : zdk (c + 1) = (kd, n)) (hk : ¬ kd < 11) (hd : zdef kd = .null) (hF : ∀ i, i < n → ∀ P : Nat → Nat → Prop, (∀ a j, c + 1 + s * i < a → ¬ P a j) → F (mG fin0 L xs (c + 1 + s * i) P) = (mG fin0 L xs (c + 1 + s * i + s) P, c + 1 + s * i + 1)) (hr : ∀ i, i < n → veq (.ref (c + 1 + s * i + 1)) (fin0 (c + 1) i) = true) (hP : ∀ a j, c < a → ¬ P a j) : zmkL F (c + 1) n (znew (mG fin0 L xs c P) (kd, n) (fun _ => .null)) = mG fin0 L xs (c + 1 + s * n) P := by
  have key : ∀ i, i ≤ n → zmkL F (c + 1) i (znew (mG fin0 L xs c P) (kd, n) (fun _ => .null)) = mG fin0 L xs (c + 1 + s * i) (fun a j => P a j ∨ (a = c + 1 ∧ i ≤ j)) := by
    intro i
    induction i with
    | zero =>
      intro _
      show znew (mG fin0 L xs c P) (kd, n) (fun _ => .null) = _
      rw [Nat.mul_zero, Nat.add_zero]
      exact mS_newa' hz hk hd (fun a j _ _ _ _ => by
        constructor
        · rintro (h | h)
          · exact Or.inl h
          · exact Or.inr ⟨h, Nat.zero_le _⟩
        · rintro (h | h)
          · exact Or.inl h
          · exact Or.inr h.1)
    | succ i ih =>
      intro hi
      have h0 := ih (by omega)
      have h1 := hF i (by omega) (fun a j => P a j ∨ (a = c + 1 ∧ i ≤ j)) (fun a j ha => by
        rintro (h | h)
        · exact hP a j (by omega) h
        · omega)
      show zput (F (zmkL F (c + 1) i (znew (mG fin0 L xs c P) (kd, n) (fun _ => .null)))).1 (c + 1) i (.ref (F (zmkL F (c + 1) i (znew (mG fin0 L xs c P) (kd, n) (fun _ => .null)))).2) = _
      rw [h0, h1]
      show zput (mG fin0 L xs (c + 1 + s * i + s) (fun a j => P a j ∨ (a = c + 1 ∧ i ≤ j))) (c + 1) i (.ref (c + 1 + s * i + 1)) = _
      rw [show c + 1 + s * (i + 1) = c + 1 + s * i + s by rw [Nat.mul_succ]; omega]
      refine mS_put' (by omega) (by omega) (by rw [hz]; show i < n; omega) (hr i (by omega)) (fun a j _ _ _ _ => ?_)
      constructor
      · rintro ⟨h | h, h2⟩
        · exact Or.inl h
        · exact Or.inr ⟨h.1, by omega⟩
      · rintro (h | h)
        · exact ⟨Or.inl h, fun z => hP a j (by omega) h⟩
        · exact ⟨Or.inr ⟨h.1, by omega⟩, by omega⟩
  rw [key n (Nat.le_refl n)]
  exact mS_cg (fun a j _ _ hj _ => by
    constructor
    · rintro (h | h)
      · exact h
      · exfalso
        obtain ⟨h1, h2⟩ := h
        subst h1
        rw [hz] at hj
        have hj : j < n := hj
        omega
    · exact Or.inl)
theorem mG_mk1 {c m kd : Nat} (hz : zdk (c + 1) = (kd, m)) (hk : ¬ kd < 11) (hN : ∀ j < m, isN fin0 (c + 1) j = true) : zmk [m] kd (mG fin0 L xs c P) = (mG fin0 L xs (c + 1) P, c + 1) := by
  show (znew (mG fin0 L xs c P) (kd, m) (fun _ => zdef kd), c + 1) = _
  rw [mS_nwN hz hk rfl hN]
theorem mG_ok {a c n : Nat} (h1 : 1 ≤ a) (hz : zdk a = (c, n)) : ∀ (k : Nat) (P : Nat → Nat → Prop), a ≤ k → zok (mG fin0 L xs k P) a c n := fun k P h2 => mS_ok h1 h2 hz
theorem mG_ia {a n : Nat} (h1 : 1 ≤ a) (hz : zdk a = (20, n)) (hn : n ≤ 1000) : ∀ (k i : Nat) (P : Nat → Nat → Prop), a ≤ k → i < n → zia (mG fin0 L xs k P) 20 a (nI i) = True := fun k i P h2 hi => k_ia (mG_ok h1 hz k P h2) hi hn
theorem mG_as {a v n m : Nat} (h1 : 1 ≤ a) (h1' : 1 ≤ v) (hz : zdk a = (40, n)) (hv : zdk v = (20, m)) (hn : n ≤ 1000) : ∀ (k i : Nat) (P : Nat → Nat → Prop), a ≤ k → v ≤ k → i < n → zias2 (mG fin0 L xs k P) v a (nI i) = True := fun k i P h2 h3 hi => by
  have a1 := mG_ok (L := L) (xs := xs) h1 hz k P h2
  have a2 := mG_ok (L := L) (xs := xs) h1' hv k P h3
  refine eq_true ?_
  unfold zias2
  rw [a2.2]
  exact ⟨a2.1, rfl, k_ix a1 hi hn⟩
theorem q_po : ∀ j < 18, isN fin0 1 j = true ∨ j = 0 ∨ j = 1 ∨ j = 4 ∨ j = 5 ∨ j = 7 ∨ j = 8 ∨ j = 9 ∨ j = 10 ∨ j = 11 ∨ j = 12 ∨ j = 13 ∨ j = 14 ∨ j = 15 ∨ j = 16 ∨ j = 17 := by decide +kernel
theorem q_po' {a j : Nat} (hj : j < (zdk a).2) (hn : isN fin0 a j = false) : a = 1 → (j < 18 ∧ (j = 0 ∨ j = 1 ∨ j = 4 ∨ j = 5 ∨ j = 7 ∨ j = 8 ∨ j = 9 ∨ j = 10 ∨ j = 11 ∨ j = 12 ∨ j = 13 ∨ j = 14 ∨ j = 15 ∨ j = 16 ∨ j = 17)) := fun q => by
  subst q
  have hj : j < 18 := hj
  have := q_po j hj
  rw [hn] at this
  exact ⟨hj, this.resolve_left Bool.noConfusion⟩
theorem q_m8 : ∀ i < 4, zdk (416 + i) = (20, 8) ∧ veq (.ref (416 + i)) (fin0 415 i) = true ∧ ∀ j < 8, isN fin0 (416 + i) j = true := by decide +kernel
theorem mk_8 (hP : ∀ a j, 414 < a → ¬ P a j) : (zmk [4, 8] 40 (mG fin0 L xs 414 P)).1 = mG fin0 L xs 419 P := by
  refine (mG_mkO (F := zmk [8] (zdn 40)) (c := 414) (s := 1) (by decide +kernel) (by decide) rfl (fun i hi P hP => ?_) (fun i hi => ?_) hP).trans ?_
  · have h := q_m8 i hi
    have e : 414 + 1 + 1 * i + 1 = 416 + i := by omega
    rw [show zdn 40 = 20 from rfl]
    exact mG_mk1 (by rw [e]; exact h.1) (by decide) (by rw [e]; exact h.2.2)
  · have e : 414 + 1 + 1 * i + 1 = 416 + i := by omega
    rw [e]; exact (q_m8 i hi).2.1
  · exact congrArg (fun z => mG fin0 L xs z P) (by decide)
theorem q_m9 : ∀ i < 4, zdk (421 + i) = (20, 8) ∧ veq (.ref (421 + i)) (fin0 420 i) = true ∧ ∀ j < 8, isN fin0 (421 + i) j = true := by decide +kernel
theorem mk_9 (hP : ∀ a j, 419 < a → ¬ P a j) : (zmk [4, 8] 40 (mG fin0 L xs 419 P)).1 = mG fin0 L xs 424 P := by
  refine (mG_mkO (F := zmk [8] (zdn 40)) (c := 419) (s := 1) (by decide +kernel) (by decide) rfl (fun i hi P hP => ?_) (fun i hi => ?_) hP).trans ?_
  · have h := q_m9 i hi
    have e : 419 + 1 + 1 * i + 1 = 421 + i := by omega
    rw [show zdn 40 = 20 from rfl]
    exact mG_mk1 (by rw [e]; exact h.1) (by decide) (by rw [e]; exact h.2.2)
  · have e : 419 + 1 + 1 * i + 1 = 421 + i := by omega
    rw [e]; exact (q_m9 i hi).2.1
  · exact congrArg (fun z => mG fin0 L xs z P) (by decide)
theorem q_m12 : ∀ i < 4, zdk (428 + i) = (40, 0) ∧ veq (.ref (428 + i)) (fin0 427 i) = true ∧ ∀ j < 0, isN fin0 (428 + i) j = true := by decide +kernel
theorem mk_12 (hP : ∀ a j, 426 < a → ¬ P a j) : (zmk [4, 0] 41 (mG fin0 L xs 426 P)).1 = mG fin0 L xs 431 P := by
  refine (mG_mkO (F := zmk [0] (zdn 41)) (c := 426) (s := 1) (by decide +kernel) (by decide) rfl (fun i hi P hP => ?_) (fun i hi => ?_) hP).trans ?_
  · have h := q_m12 i hi
    have e : 426 + 1 + 1 * i + 1 = 428 + i := by omega
    rw [show zdn 41 = 40 from rfl]
    exact mG_mk1 (by rw [e]; exact h.1) (by decide) (by rw [e]; exact h.2.2)
  · have e : 426 + 1 + 1 * i + 1 = 428 + i := by omega
    rw [e]; exact (q_m12 i hi).2.1
  · exact congrArg (fun z => mG fin0 L xs z P) (by decide)
theorem q_m15 : ∀ i < 4, zdk (471 + i) = (23, 61) ∧ veq (.ref (471 + i)) (fin0 470 i) = true ∧ ∀ j < 61, isN fin0 (471 + i) j = true := by decide +kernel
theorem mk_15 (hP : ∀ a j, 469 < a → ¬ P a j) : (zmk [4, 61] 43 (mG fin0 L xs 469 P)).1 = mG fin0 L xs 474 P := by
  refine (mG_mkO (F := zmk [61] (zdn 43)) (c := 469) (s := 1) (by decide +kernel) (by decide) rfl (fun i hi P hP => ?_) (fun i hi => ?_) hP).trans ?_
  · have h := q_m15 i hi
    have e : 469 + 1 + 1 * i + 1 = 471 + i := by omega
    rw [show zdn 43 = 23 from rfl]
    exact mG_mk1 (by rw [e]; exact h.1) (by decide) (by rw [e]; exact h.2.2)
  · have e : 469 + 1 + 1 * i + 1 = 471 + i := by omega
    rw [e]; exact (q_m15 i hi).2.1
  · exact congrArg (fun z => mG fin0 L xs z P) (by decide)
theorem q_mb : ∀ p < 4, zdk (434 + 9 * p) = (41, 8) ∧ veq (.ref (434 + 9 * p)) (fin0 433 p) = true ∧ ∀ i < 8, zdk (435 + 9 * p + i) = (40, 0) ∧ veq (.ref (435 + 9 * p + i)) (fin0 (434 + 9 * p) i) = true := by decide +kernel
theorem mk_14 (hP : ∀ a j, 432 < a → ¬ P a j) : (zmk [4, 8, 0] 42 (mG fin0 L xs 432 P)).1 = mG fin0 L xs 469 P := by
  refine (mG_mkO (F := zmk [8, 0] (zdn 42)) (c := 432) (s := 9) (by decide +kernel) (by decide) rfl (fun p hp P hP => ?_) (fun p hp => ?_) hP).trans ?_
  · have h := q_mb p hp
    have e : 432 + 1 + 9 * p + 1 = 434 + 9 * p := by omega
    rw [show zdn 42 = 41 from rfl]
    show (zmkL (zmk [0] (zdn 41)) (432 + 1 + 9 * p + 1) 8 (znew (mG fin0 L xs (432 + 1 + 9 * p) P) (41, 8) (fun _ => .null)), 432 + 1 + 9 * p + 1) = _
    rw [mG_mkO (F := zmk [0] (zdn 41)) (c := 432 + 1 + 9 * p) (s := 1) (by rw [e]; exact h.1) (by decide) rfl (fun i hi P hP => ?_) (fun i hi => ?_) hP]
    · rw [show zdn 41 = 40 from rfl]
      have e2 : 432 + 1 + 9 * p + 1 + 1 * i + 1 = 435 + 9 * p + i := by omega
      exact mG_mk1 (by rw [e2]; exact (h.2.2 i hi).1) (by decide) (fun j hj => absurd hj (Nat.not_lt_zero j))
    · have e2 : 432 + 1 + 9 * p + 1 + 1 * i + 1 = 435 + 9 * p + i := by omega
      rw [e2, e]; exact (h.2.2 i hi).2
  · have e : 432 + 1 + 9 * p + 1 = 434 + 9 * p := by omega
    rw [e]; exact (q_mb p hp).2.1
  · exact congrArg (fun z => mG fin0 L xs z P) (by decide)
theorem c114a {dr : Int32} : zcl 114 [.ref 1, .ref 0, .int dr] (mG finC L xs 1 (fun _ _ => False)) Q ↔ zwp zm_114 (213, [some (.ref 1), some (.ref 0), some (.int dr), none, none, none, none, none], [], zmem x0 y00 (E00 L xs), 475, 3205) Q := by
  have u0 : zput (mG fin0 L xs 409 (fun a j => (a = 1 ∧ (j = 1 ∨ 0 ≤ j)))) 1 0 (.ref 2) = mG fin0 L xs 409 (fun a j => (a = 1 ∧ (j = 1 ∨ 4 ≤ j))) := mS_put' (by decide) (by decide) (by decide +kernel) (by decide +kernel) (fun a j h1 h2 hj hn => by
      have y0 := q_po' hj hn
      omega)
  have u4 : zput (mG fin0 L xs 409 (fun a j => (a = 1 ∧ (j = 1 ∨ 4 ≤ j)))) 1 4 (.int (nI 20)) = mG fin0 L xs 409 (fun a j => (a = 1 ∧ (j = 1 ∨ 5 ≤ j))) := mS_put' (by decide) (by decide) (by decide +kernel) (by decide +kernel) (fun a j h1 h2 hj hn => by
      have y0 := q_po' hj hn
      omega)
  have u5 : zput (mG fin0 L xs 409 (fun a j => (a = 1 ∧ (j = 1 ∨ 5 ≤ j)))) 1 5 (.int (nI 10)) = mG fin0 L xs 409 (fun a j => (a = 1 ∧ (j = 1 ∨ 7 ≤ j))) := mS_put' (by decide) (by decide) (by decide +kernel) (by decide +kernel) (fun a j h1 h2 hj hn => by
      have y0 := q_po' hj hn
      omega)
  have n410 : znew (mG fin0 L xs 409 (fun a j => (a = 1 ∧ (j = 1 ∨ 7 ≤ j)))) (40, 4) (fun _ => .null) = mG fin0 L xs 410 (fun a j => (a = 1 ∧ (j = 1 ∨ 7 ≤ j)) ∨ (a = 410 ∧ 0 ≤ j)) := mS_newa' (by decide +kernel) (by decide) rfl (fun a j h1 h2 hj hn => by
      omega)
  have n411 : znew (mG fin0 L xs 410 (fun a j => (a = 1 ∧ (j = 1 ∨ 7 ≤ j)) ∨ (a = 410 ∧ 0 ≤ j))) (20, 2) (fun _ => zdef 20) = mG fin0 L xs 411 (fun a j => (a = 1 ∧ (j = 1 ∨ 7 ≤ j)) ∨ (a = 410 ∧ 0 ≤ j) ∨ (a = 411 ∧ 0 ≤ j)) := mS_newa' (by decide +kernel) (by decide) rfl (fun a j h1 h2 hj hn => by
      omega)
  have v0 : zput (mG fin0 L xs 411 (fun a j => (a = 1 ∧ (j = 1 ∨ 7 ≤ j)) ∨ (a = 410 ∧ 0 ≤ j) ∨ (a = 411 ∧ 0 ≤ j))) 411 0 (.int (-1)) = mG fin0 L xs 411 (fun a j => (a = 1 ∧ (j = 1 ∨ 7 ≤ j)) ∨ (a = 410 ∧ 0 ≤ j) ∨ (a = 411 ∧ 1 ≤ j)) := mS_put' (by decide) (by decide) (by decide +kernel) (by decide +kernel) (fun a j h1 h2 hj hn => by
      have y0 := q_po' hj hn
      omega)
  have v1 : zput (mG fin0 L xs 411 (fun a j => (a = 1 ∧ (j = 1 ∨ 7 ≤ j)) ∨ (a = 410 ∧ 0 ≤ j) ∨ (a = 411 ∧ 1 ≤ j))) 411 1 (.int (-1)) = mG fin0 L xs 411 (fun a j => (a = 1 ∧ (j = 1 ∨ 7 ≤ j)) ∨ (a = 410 ∧ 0 ≤ j)) := mS_put' (by decide) (by decide) (by decide +kernel) (by decide +kernel) (fun a j h1 h2 hj hn => by
      have y0 := q_po' hj hn
      have z411 : a = 411 → j < 2 := fun q => by
        subst q
        exact hj
      omega)
  have w0 : zput (mG fin0 L xs 411 (fun a j => (a = 1 ∧ (j = 1 ∨ 7 ≤ j)) ∨ (a = 410 ∧ 0 ≤ j))) 410 0 (.ref 411) = mG fin0 L xs 411 (fun a j => (a = 1 ∧ (j = 1 ∨ 7 ≤ j)) ∨ (a = 410 ∧ 1 ≤ j)) := mS_put' (by decide) (by decide) (by decide +kernel) (by decide +kernel) (fun a j h1 h2 hj hn => by
      have y0 := q_po' hj hn
      omega)
  have n412 : znew (mG fin0 L xs 411 (fun a j => (a = 1 ∧ (j = 1 ∨ 7 ≤ j)) ∨ (a = 410 ∧ 1 ≤ j))) (20, 2) (fun _ => zdef 20) = mG fin0 L xs 412 (fun a j => (a = 1 ∧ (j = 1 ∨ 7 ≤ j)) ∨ (a = 410 ∧ 1 ≤ j) ∨ (a = 412 ∧ 0 ≤ j)) := mS_newa' (by decide +kernel) (by decide) rfl (fun a j h1 h2 hj hn => by
      omega)
  have v2 : zput (mG fin0 L xs 412 (fun a j => (a = 1 ∧ (j = 1 ∨ 7 ≤ j)) ∨ (a = 410 ∧ 1 ≤ j) ∨ (a = 412 ∧ 0 ≤ j))) 412 0 (.int (-1)) = mG fin0 L xs 412 (fun a j => (a = 1 ∧ (j = 1 ∨ 7 ≤ j)) ∨ (a = 410 ∧ 1 ≤ j) ∨ (a = 412 ∧ 1 ≤ j)) := mS_put' (by decide) (by decide) (by decide +kernel) (by decide +kernel) (fun a j h1 h2 hj hn => by
      have y0 := q_po' hj hn
      omega)
  have v3 : zput (mG fin0 L xs 412 (fun a j => (a = 1 ∧ (j = 1 ∨ 7 ≤ j)) ∨ (a = 410 ∧ 1 ≤ j) ∨ (a = 412 ∧ 1 ≤ j))) 412 1 (.int (-1)) = mG fin0 L xs 412 (fun a j => (a = 1 ∧ (j = 1 ∨ 7 ≤ j)) ∨ (a = 410 ∧ 1 ≤ j)) := mS_put' (by decide) (by decide) (by decide +kernel) (by decide +kernel) (fun a j h1 h2 hj hn => by
      have y0 := q_po' hj hn
      have z412 : a = 412 → j < 2 := fun q => by
        subst q
        exact hj
      omega)
  have w1 : zput (mG fin0 L xs 412 (fun a j => (a = 1 ∧ (j = 1 ∨ 7 ≤ j)) ∨ (a = 410 ∧ 1 ≤ j))) 410 1 (.ref 412) = mG fin0 L xs 412 (fun a j => (a = 1 ∧ (j = 1 ∨ 7 ≤ j)) ∨ (a = 410 ∧ 2 ≤ j)) := mS_put' (by decide) (by decide) (by decide +kernel) (by decide +kernel) (fun a j h1 h2 hj hn => by
      have y0 := q_po' hj hn
      omega)
  have n413 : znew (mG fin0 L xs 412 (fun a j => (a = 1 ∧ (j = 1 ∨ 7 ≤ j)) ∨ (a = 410 ∧ 2 ≤ j))) (20, 2) (fun _ => zdef 20) = mG fin0 L xs 413 (fun a j => (a = 1 ∧ (j = 1 ∨ 7 ≤ j)) ∨ (a = 410 ∧ 2 ≤ j) ∨ (a = 413 ∧ 0 ≤ j)) := mS_newa' (by decide +kernel) (by decide) rfl (fun a j h1 h2 hj hn => by
      omega)
  have v4 : zput (mG fin0 L xs 413 (fun a j => (a = 1 ∧ (j = 1 ∨ 7 ≤ j)) ∨ (a = 410 ∧ 2 ≤ j) ∨ (a = 413 ∧ 0 ≤ j))) 413 0 (.int (-1)) = mG fin0 L xs 413 (fun a j => (a = 1 ∧ (j = 1 ∨ 7 ≤ j)) ∨ (a = 410 ∧ 2 ≤ j) ∨ (a = 413 ∧ 1 ≤ j)) := mS_put' (by decide) (by decide) (by decide +kernel) (by decide +kernel) (fun a j h1 h2 hj hn => by
      have y0 := q_po' hj hn
      omega)
  have v5 : zput (mG fin0 L xs 413 (fun a j => (a = 1 ∧ (j = 1 ∨ 7 ≤ j)) ∨ (a = 410 ∧ 2 ≤ j) ∨ (a = 413 ∧ 1 ≤ j))) 413 1 (.int (-1)) = mG fin0 L xs 413 (fun a j => (a = 1 ∧ (j = 1 ∨ 7 ≤ j)) ∨ (a = 410 ∧ 2 ≤ j)) := mS_put' (by decide) (by decide) (by decide +kernel) (by decide +kernel) (fun a j h1 h2 hj hn => by
      have y0 := q_po' hj hn
      have z413 : a = 413 → j < 2 := fun q => by
        subst q
        exact hj
      omega)
  have w2 : zput (mG fin0 L xs 413 (fun a j => (a = 1 ∧ (j = 1 ∨ 7 ≤ j)) ∨ (a = 410 ∧ 2 ≤ j))) 410 2 (.ref 413) = mG fin0 L xs 413 (fun a j => (a = 1 ∧ (j = 1 ∨ 7 ≤ j)) ∨ (a = 410 ∧ 3 ≤ j)) := mS_put' (by decide) (by decide) (by decide +kernel) (by decide +kernel) (fun a j h1 h2 hj hn => by
      have y0 := q_po' hj hn
      omega)
  have n414 : znew (mG fin0 L xs 413 (fun a j => (a = 1 ∧ (j = 1 ∨ 7 ≤ j)) ∨ (a = 410 ∧ 3 ≤ j))) (20, 2) (fun _ => zdef 20) = mG fin0 L xs 414 (fun a j => (a = 1 ∧ (j = 1 ∨ 7 ≤ j)) ∨ (a = 410 ∧ 3 ≤ j) ∨ (a = 414 ∧ 0 ≤ j)) := mS_newa' (by decide +kernel) (by decide) rfl (fun a j h1 h2 hj hn => by
      omega)
  have v6 : zput (mG fin0 L xs 414 (fun a j => (a = 1 ∧ (j = 1 ∨ 7 ≤ j)) ∨ (a = 410 ∧ 3 ≤ j) ∨ (a = 414 ∧ 0 ≤ j))) 414 0 (.int (-1)) = mG fin0 L xs 414 (fun a j => (a = 1 ∧ (j = 1 ∨ 7 ≤ j)) ∨ (a = 410 ∧ 3 ≤ j) ∨ (a = 414 ∧ 1 ≤ j)) := mS_put' (by decide) (by decide) (by decide +kernel) (by decide +kernel) (fun a j h1 h2 hj hn => by
      have y0 := q_po' hj hn
      omega)
  have v7 : zput (mG fin0 L xs 414 (fun a j => (a = 1 ∧ (j = 1 ∨ 7 ≤ j)) ∨ (a = 410 ∧ 3 ≤ j) ∨ (a = 414 ∧ 1 ≤ j))) 414 1 (.int (-1)) = mG fin0 L xs 414 (fun a j => (a = 1 ∧ (j = 1 ∨ 7 ≤ j)) ∨ (a = 410 ∧ 3 ≤ j)) := mS_put' (by decide) (by decide) (by decide +kernel) (by decide +kernel) (fun a j h1 h2 hj hn => by
      have y0 := q_po' hj hn
      have z414 : a = 414 → j < 2 := fun q => by
        subst q
        exact hj
      omega)
  have w3 : zput (mG fin0 L xs 414 (fun a j => (a = 1 ∧ (j = 1 ∨ 7 ≤ j)) ∨ (a = 410 ∧ 3 ≤ j))) 410 3 (.ref 414) = mG fin0 L xs 414 (fun a j => (a = 1 ∧ (j = 1 ∨ 7 ≤ j))) := mS_put' (by decide) (by decide) (by decide +kernel) (by decide +kernel) (fun a j h1 h2 hj hn => by
      have y0 := q_po' hj hn
      have z410 : a = 410 → j < 4 := fun q => by
        subst q
        exact hj
      omega)
  have u7 : zput (mG fin0 L xs 414 (fun a j => (a = 1 ∧ (j = 1 ∨ 7 ≤ j)))) 1 7 (.ref 410) = mG fin0 L xs 414 (fun a j => (a = 1 ∧ (j = 1 ∨ 8 ≤ j))) := mS_put' (by decide) (by decide) (by decide +kernel) (by decide +kernel) (fun a j h1 h2 hj hn => by
      have y0 := q_po' hj hn
      omega)
  have m8 : (zmk [4, 8] 40 (mG fin0 L xs 414 (fun a j => (a = 1 ∧ (j = 1 ∨ 8 ≤ j))))).1 = mG fin0 L xs 419 (fun a j => (a = 1 ∧ (j = 1 ∨ 8 ≤ j))) := mk_8 (fun a j h => by omega)
  have u8 : zput (mG fin0 L xs 419 (fun a j => (a = 1 ∧ (j = 1 ∨ 8 ≤ j)))) 1 8 (.ref 415) = mG fin0 L xs 419 (fun a j => (a = 1 ∧ (j = 1 ∨ 9 ≤ j))) := mS_put' (by decide) (by decide) (by decide +kernel) (by decide +kernel) (fun a j h1 h2 hj hn => by
      have y0 := q_po' hj hn
      omega)
  have m9 : (zmk [4, 8] 40 (mG fin0 L xs 419 (fun a j => (a = 1 ∧ (j = 1 ∨ 9 ≤ j))))).1 = mG fin0 L xs 424 (fun a j => (a = 1 ∧ (j = 1 ∨ 9 ≤ j))) := mk_9 (fun a j h => by omega)
  have u9 : zput (mG fin0 L xs 424 (fun a j => (a = 1 ∧ (j = 1 ∨ 9 ≤ j)))) 1 9 (.ref 420) = mG fin0 L xs 424 (fun a j => (a = 1 ∧ (j = 1 ∨ 10 ≤ j))) := mS_put' (by decide) (by decide) (by decide +kernel) (by decide +kernel) (fun a j h1 h2 hj hn => by
      have y0 := q_po' hj hn
      omega)
  have n425 : znew (mG fin0 L xs 424 (fun a j => (a = 1 ∧ (j = 1 ∨ 10 ≤ j)))) (20, 4) (fun _ => zdef 20) = mG fin0 L xs 425 (fun a j => (a = 1 ∧ (j = 1 ∨ 10 ≤ j)) ∨ (a = 425 ∧ 0 ≤ j)) := mS_newa' (by decide +kernel) (by decide) rfl (fun a j h1 h2 hj hn => by
      omega)
  have t0 : zput (mG fin0 L xs 425 (fun a j => (a = 1 ∧ (j = 1 ∨ 10 ≤ j)) ∨ (a = 425 ∧ 0 ≤ j))) 425 0 (.int (nI 200)) = mG fin0 L xs 425 (fun a j => (a = 1 ∧ (j = 1 ∨ 10 ≤ j)) ∨ (a = 425 ∧ 1 ≤ j)) := mS_put' (by decide) (by decide) (by decide +kernel) (by decide +kernel) (fun a j h1 h2 hj hn => by
      have y0 := q_po' hj hn
      omega)
  have t1 : zput (mG fin0 L xs 425 (fun a j => (a = 1 ∧ (j = 1 ∨ 10 ≤ j)) ∨ (a = 425 ∧ 1 ≤ j))) 425 1 (.int (nI 200)) = mG fin0 L xs 425 (fun a j => (a = 1 ∧ (j = 1 ∨ 10 ≤ j)) ∨ (a = 425 ∧ 2 ≤ j)) := mS_put' (by decide) (by decide) (by decide +kernel) (by decide +kernel) (fun a j h1 h2 hj hn => by
      have y0 := q_po' hj hn
      omega)
  have t2 : zput (mG fin0 L xs 425 (fun a j => (a = 1 ∧ (j = 1 ∨ 10 ≤ j)) ∨ (a = 425 ∧ 2 ≤ j))) 425 2 (.int (nI 200)) = mG fin0 L xs 425 (fun a j => (a = 1 ∧ (j = 1 ∨ 10 ≤ j)) ∨ (a = 425 ∧ 3 ≤ j)) := mS_put' (by decide) (by decide) (by decide +kernel) (by decide +kernel) (fun a j h1 h2 hj hn => by
      have y0 := q_po' hj hn
      omega)
  have t3 : zput (mG fin0 L xs 425 (fun a j => (a = 1 ∧ (j = 1 ∨ 10 ≤ j)) ∨ (a = 425 ∧ 3 ≤ j))) 425 3 (.int (nI 200)) = mG fin0 L xs 425 (fun a j => (a = 1 ∧ (j = 1 ∨ 10 ≤ j))) := mS_put' (by decide) (by decide) (by decide +kernel) (by decide +kernel) (fun a j h1 h2 hj hn => by
      have y0 := q_po' hj hn
      have z425 : a = 425 → j < 4 := fun q => by
        subst q
        exact hj
      omega)
  have u10 : zput (mG fin0 L xs 425 (fun a j => (a = 1 ∧ (j = 1 ∨ 10 ≤ j)))) 1 10 (.ref 425) = mG fin0 L xs 425 (fun a j => (a = 1 ∧ (j = 1 ∨ 11 ≤ j))) := mS_put' (by decide) (by decide) (by decide +kernel) (by decide +kernel) (fun a j h1 h2 hj hn => by
      have y0 := q_po' hj hn
      omega)
  have n426 : znew (mG fin0 L xs 425 (fun a j => (a = 1 ∧ (j = 1 ∨ 11 ≤ j)))) (20, 10) (fun _ => zdef 20) = mG fin0 L xs 426 (fun a j => (a = 1 ∧ (j = 1 ∨ 11 ≤ j))) := mS_nwN (by decide +kernel) (by decide) rfl (by decide +kernel)
  have u11 : zput (mG fin0 L xs 426 (fun a j => (a = 1 ∧ (j = 1 ∨ 11 ≤ j)))) 1 11 (.ref 426) = mG fin0 L xs 426 (fun a j => (a = 1 ∧ (j = 1 ∨ 12 ≤ j))) := mS_put' (by decide) (by decide) (by decide +kernel) (by decide +kernel) (fun a j h1 h2 hj hn => by
      have y0 := q_po' hj hn
      omega)
  have m12 : (zmk [4, 0] 41 (mG fin0 L xs 426 (fun a j => (a = 1 ∧ (j = 1 ∨ 12 ≤ j))))).1 = mG fin0 L xs 431 (fun a j => (a = 1 ∧ (j = 1 ∨ 12 ≤ j))) := mk_12 (fun a j h => by omega)
  have u12 : zput (mG fin0 L xs 431 (fun a j => (a = 1 ∧ (j = 1 ∨ 12 ≤ j)))) 1 12 (.ref 427) = mG fin0 L xs 431 (fun a j => (a = 1 ∧ (j = 1 ∨ 13 ≤ j))) := mS_put' (by decide) (by decide) (by decide +kernel) (by decide +kernel) (fun a j h1 h2 hj hn => by
      have y0 := q_po' hj hn
      omega)
  have n432 : znew (mG fin0 L xs 431 (fun a j => (a = 1 ∧ (j = 1 ∨ 13 ≤ j)))) (40, 0) (fun _ => .null) = mG fin0 L xs 432 (fun a j => (a = 1 ∧ (j = 1 ∨ 13 ≤ j))) := mS_nwN (by decide +kernel) (by decide) rfl (by decide +kernel)
  have u13 : zput (mG fin0 L xs 432 (fun a j => (a = 1 ∧ (j = 1 ∨ 13 ≤ j)))) 1 13 (.ref 432) = mG fin0 L xs 432 (fun a j => (a = 1 ∧ (j = 1 ∨ 14 ≤ j))) := mS_put' (by decide) (by decide) (by decide +kernel) (by decide +kernel) (fun a j h1 h2 hj hn => by
      have y0 := q_po' hj hn
      omega)
  have m14 : (zmk [4, 8, 0] 42 (mG fin0 L xs 432 (fun a j => (a = 1 ∧ (j = 1 ∨ 14 ≤ j))))).1 = mG fin0 L xs 469 (fun a j => (a = 1 ∧ (j = 1 ∨ 14 ≤ j))) := mk_14 (fun a j h => by omega)
  have u14 : zput (mG fin0 L xs 469 (fun a j => (a = 1 ∧ (j = 1 ∨ 14 ≤ j)))) 1 14 (.ref 433) = mG fin0 L xs 469 (fun a j => (a = 1 ∧ (j = 1 ∨ 15 ≤ j))) := mS_put' (by decide) (by decide) (by decide +kernel) (by decide +kernel) (fun a j h1 h2 hj hn => by
      have y0 := q_po' hj hn
      omega)
  have m15 : (zmk [4, 61] 43 (mG fin0 L xs 469 (fun a j => (a = 1 ∧ (j = 1 ∨ 15 ≤ j))))).1 = mG fin0 L xs 474 (fun a j => (a = 1 ∧ (j = 1 ∨ 15 ≤ j))) := mk_15 (fun a j h => by omega)
  have u15 : zput (mG fin0 L xs 474 (fun a j => (a = 1 ∧ (j = 1 ∨ 15 ≤ j)))) 1 15 (.ref 470) = mG fin0 L xs 474 (fun a j => (a = 1 ∧ (j = 1 ∨ 16 ≤ j))) := mS_put' (by decide) (by decide) (by decide +kernel) (by decide +kernel) (fun a j h1 h2 hj hn => by
      have y0 := q_po' hj hn
      omega)
  have n475 : znew (mG fin0 L xs 474 (fun a j => (a = 1 ∧ (j = 1 ∨ 16 ≤ j)))) (40, 0) (fun _ => .null) = mG fin0 L xs 475 (fun a j => (a = 1 ∧ (j = 1 ∨ 16 ≤ j))) := mS_nwN (by decide +kernel) (by decide) rfl (by decide +kernel)
  have u16 : zput (mG fin0 L xs 475 (fun a j => (a = 1 ∧ (j = 1 ∨ 16 ≤ j)))) 1 16 (.ref 475) = mG fin0 L xs 475 (fun a j => (a = 1 ∧ (j = 1 ∨ 17 ≤ j))) := mS_put' (by decide) (by decide) (by decide +kernel) (by decide +kernel) (fun a j h1 h2 hj hn => by
      have y0 := q_po' hj hn
      omega)
  have n476 : znew (mG fin0 L xs 475 (fun a j => (a = 1 ∧ (j = 1 ∨ 17 ≤ j)))) (20, 0) (fun _ => zdef 20) = mG fin0 L xs 476 (fun a j => (a = 1 ∧ (j = 1 ∨ 17 ≤ j))) := mS_nwN (by decide +kernel) (by decide) rfl (by decide +kernel)
  have u17 : zput (mG fin0 L xs 476 (fun a j => (a = 1 ∧ (j = 1 ∨ 17 ≤ j)))) 1 17 (.ref 476) = mG fin0 L xs 476 (fun a j => (a = 1 ∧ (j = 1 ∨ 18 ≤ j))) := mS_put' (by decide) (by decide) (by decide +kernel) (by decide +kernel) (fun a j h1 h2 hj hn => by
      have y0 := q_po' hj hn
      omega)
  have u1 : zput (mG fin0 L xs 476 (fun a j => (a = 1 ∧ (j = 1 ∨ 18 ≤ j)))) 1 1 (.ref 0) = mG fin0 L xs 476 (fun _ _ => False) := mS_put' (by decide) (by decide) (by decide +kernel) (by decide +kernel) (fun a j h1 h2 hj hn => by
      have y0 := q_po' hj hn
      constructor
      · intro q
        have q : (a = 1 ∧ (j = 1 ∨ 18 ≤ j)) ∧ ¬ (a = 1 ∧ j = 1) := q
        exfalso
        omega
      · intro q
        exact q.elim)
  have nD : znew (mG finC L xs 1 (fun _ _ => False)) (9, 15) (fun j => defaultValue (zty 9 j)) = mG finC L xs 2 (fun a j => a = 2) := mS_newo' (by decide +kernel) (by decide) (fun a j h1 h2 hj hn => by
    constructor
    · rintro (h | h)
      · exact h.elim
      · exact h
    · exact Or.inr)
  have hD : ∀ Q : zO → zM → Prop, zcl 40 [.ref 2] (mG finC L xs 2 (fun a j => a = 2)) Q ↔ Q (.inl none) (mG fin0 L xs 409 (fun a j => (a = 1 ∧ (j = 1 ∨ 0 ≤ j)))) := fun Q => by
    refine c40s.trans ?_
    rw [mG_po, mS_cg (P := fun a j => a = 1) (P' := (fun a j => (a = 1 ∧ (j = 1 ∨ 0 ≤ j)))) (fun a j h1 h2 hj hn => by omega)]
  have ok : ∀ (k : Nat) (P : Nat → Nat → Prop), 1 ≤ k → zok (mG fin0 L xs k P) 1 10 18 = True := fun k P h => mS_okT (by decide) (by decide +kernel) h
  have i0 := mG_ia (L := L) (xs := xs) (a := 411) (n := 2) (by decide) (by decide +kernel) (by decide)
  have s0 := mG_as (L := L) (xs := xs) (a := 410) (v := 411) (n := 4) (m := 2) (by decide) (by decide) (by decide +kernel) (by decide +kernel) (by decide)
  have i1 := mG_ia (L := L) (xs := xs) (a := 412) (n := 2) (by decide) (by decide +kernel) (by decide)
  have s1 := mG_as (L := L) (xs := xs) (a := 410) (v := 412) (n := 4) (m := 2) (by decide) (by decide) (by decide +kernel) (by decide +kernel) (by decide)
  have i2 := mG_ia (L := L) (xs := xs) (a := 413) (n := 2) (by decide) (by decide +kernel) (by decide)
  have s2 := mG_as (L := L) (xs := xs) (a := 410) (v := 413) (n := 4) (m := 2) (by decide) (by decide) (by decide +kernel) (by decide +kernel) (by decide)
  have i3 := mG_ia (L := L) (xs := xs) (a := 414) (n := 2) (by decide) (by decide +kernel) (by decide)
  have s3 := mG_as (L := L) (xs := xs) (a := 410) (v := 414) (n := 4) (m := 2) (by decide) (by decide) (by decide +kernel) (by decide +kernel) (by decide)
  have i4 := mG_ia (L := L) (xs := xs) (a := 425) (n := 4) (by decide) (by decide +kernel) (by decide)
  have d0a : zdok [4, 8] 40 = true := by decide
  have d0b : zmc [4, 8] = 5 := by decide
  have d0c : zms [4, 8] = 36 := by decide
  have d1a : zdok [4, 0] 41 = true := by decide
  have d1b : zmc [4, 0] = 5 := by decide
  have d1c : zms [4, 0] = 4 := by decide
  have d2a : zdok [4, 8, 0] 42 = true := by decide
  have d2b : zmc [4, 8, 0] = 37 := by decide
  have d2c : zms [4, 8, 0] = 36 := by decide
  have d3a : zdok [4, 61] 43 = true := by decide
  have d3b : zmc [4, 61] = 5 := by decide
  have d3c : zms [4, 61] = 248 := by decide
  have eE : mG fin0 L xs 476 (fun _ _ => False) = zmem x0 y00 (E00 L xs) := mS_end
  rw [e114]
  simp (disch := omega) only [p114_0, p114_1, p114_4, p114_5, p114_8, p114_8i, p114_9, p114_12, p114_15, p114_16, p114_18, p114_21, p114_22, p114_24, p114_27, p114_28, p114_29, p114_32, p114_32i, p114_33, p114_34, p114_35, p114_37, p114_37i, p114_38, p114_39, p114_40, p114_41, p114_41i, p114_42, p114_43, p114_44, p114_45, p114_46, p114_46i, p114_47, p114_48, p114_49, p114_51, p114_51i, p114_52, p114_53, p114_54, p114_55, p114_55i, p114_56, p114_57, p114_58, p114_59, p114_60, p114_60i, p114_61, p114_62, p114_63, p114_65, p114_65i, p114_66, p114_67, p114_68, p114_69, p114_69i, p114_70, p114_71, p114_72, p114_73, p114_74, p114_74i, p114_75, p114_76, p114_77, p114_79, p114_79i, p114_80, p114_81, p114_82, p114_83, p114_83i, p114_84, p114_85, p114_86, p114_87, p114_88, p114_91, p114_92, p114_93, p114_95, p114_99, p114_102, p114_103, p114_104, p114_106, p114_110, p114_113, p114_114, p114_115, p114_117, p114_117i, p114_118, p114_119, p114_122, p114_123, p114_123i, p114_124, p114_125, p114_128, p114_129, p114_129i, p114_130, p114_131, p114_134, p114_135, p114_135i, p114_136, p114_137, p114_140, p114_141, p114_144, p114_145, p114_147, p114_149, p114_152, p114_153, p114_154, p114_155, p114_159, p114_162, p114_163, p114_164, p114_167, p114_170, p114_171, p114_172, p114_174, p114_175, p114_179, p114_182, p114_183, p114_184, p114_186, p114_190, p114_193, p114_194, p114_195, p114_198, p114_201, p114_202, p114_203, p114_205, p114_208, p114_209, p114_210, p114_214, p114_215, p114_218, p114_219, p114_222, p114_223, p114_224, p114_225, p114_227, p114_228, p114_232, p114_234, p114_237, p114_238, p114_240, p114_241, p114_243, p114_244, p114_248, p114_250, p114_253, p114_255, p114_257, p114_258, p114_259, p114_262, p114_265, p114_268, p114_271, nD, hD, ok, u0, u4, u5, n410, n411, v0, v1, w0, n412, v2, v3, w1, n413, v4, v5, w2, n414, v6, v7, w3, u7, m8, u8, m9, u9, n425, t0, t1, t2, t3, u10, n426, u11, m12, u12, n432, u13, m14, u14, m15, u15, n475, u16, n476, u17, u1, i0, s0, i1, s1, i2, s2, i3, s3, i4, d0a, d0b, d0c, d1a, d1b, d1c, d2a, d2b, d2c, d3a, d3b, d3c, k_pos, mS_1, eE, eq_self, zvi_int, zvl_long, zvd_double, zvr_ref, zisI_int, zisR_ref, zgI_int, zgR_ref, zkl_int, zkl_ref, zkl_none, zkl_long, zkl_double, zct_nil, zct_int, zct_ref, zct_long, zct_double, zbk_some, zbk_none, zbk_exc, nI_clamp, nI_add, nI_mul, true_and, and_true, Nat.reduceAdd, Nat.reduceMul, Nat.reduceLeDiff, Nat.reducePow, ↓reduceIte, Nat.zero_add, Nat.add_zero, Nat.reduceLT, Nat.reduceEqDiff, Nat.le_refl, zn10, zn01, zfitB0, zfitB1, znarB0, znarB1, Nat.lt_irrefl, ↓zvi_eq, ↓zvr_eq]
end ZK
