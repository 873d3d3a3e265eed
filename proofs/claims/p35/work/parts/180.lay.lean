/-! where each word of the two stores lies: by program (wip/p35/gen/emit_lay.py) -/
abbrev zSt : Type := Nat → Nat → Nat → Int32
abbrev zEx : Type := Nat × (Nat → Nat × Nat) × (Nat → Nat → Value) × (Nat → Nat → Nat → Nat)
def zdk_lo : List (Nat × Nat) := [(0, 0), (9, 15), (30, 4), (32, 60), (34, 20), (20, 10), (2, 6), (3, 5), (20, 6), (5, 3), (20, 4), (8, 6), (20, 60), (20, 60), (20, 60), (20, 60), (20, 20)]
/-- the class's own cells, as if it lay at 1 -/
def zdkC (a : Nat) : Nat × Nat :=
  if a < 17 then zdk_lo.getD a (0, 0)
  else if a < 329 then (if (a - 17) % 78 = 0 then (0, 6) else if (a - 17) % 78 = 1 then (37, 8) else if (a - 17) % 78 = 2 then (36, 6) else if (a - 17) % 78 = 3 then (31, 60)
    else if (a - 17) % 78 < 12 then (7, 3) else if (a - 17) % 78 < 18 then (6, 6) else (1, 6))
  else if a < 389 then (2, 6) else (4, 3)
def zdk (a : Nat) : Nat × Nat :=
  if a = 1 then (10, 18) else if a < 410 then zdkC (a - 1)
  else if a = 410 then (40, 4) else if a < 415 then (20, 2) else if a = 415 then (40, 4) else if a < 420 then (20, 8) else if a = 420 then (40, 4) else if a < 425 then (20, 8)
  else if a = 425 then (20, 4) else if a = 426 then (20, 10) else if a = 427 then (41, 4) else if a < 433 then (40, 0) else if a = 433 then (42, 4)
  else if a < 470 then (if (a - 434) % 9 = 0 then (41, 8) else (40, 0)) else if a = 470 then (43, 4) else if a < 475 then (23, 61) else if a = 475 then (40, 0) else (20, 0)
/-- how many places of a cell stand fast -/
def zdl (a : Nat) : Nat := if 411 ≤ a ∧ a ≤ 414 then 0 else (zdk a).2
def zdc_1 : List (Nat × Nat × Nat × Nat) := [(2, 3, 0, 0), (2, 4, 0, 0), (0, 0, 0, 2), (2, 5, 0, 0), (0, 0, 0, 4), (2, 6, 0, 0), (0, 0, 0, 6), (0, 0, 0, 7), (0, 0, 0, 8), (0, 0, 0, 9), (2, 7, 0, 0), (2, 8, 0, 0), (2, 10, 0, 0), (2, 12, 0, 0), (2, 17, 0, 0)]
def zdc_P : List (Nat × Nat × Nat × Nat) := [(2, 2, 0, 0), (2, 0, 0, 0), (1, 2, 0, 0), (1, 0, 0, 6), (1, 0, 0, 7), (1, 0, 0, 8), (1, 0, 0, 9), (2, 410, 0, 0), (2, 415, 0, 0), (2, 420, 0, 0), (2, 425, 0, 0), (2, 426, 0, 0), (2, 427, 0, 0), (4, 4, 0, 0), (2, 433, 0, 0), (2, 470, 0, 0), (2, 475, 0, 0), (4, 5, 0, 0)]
def zdc_bx (p r j : Nat) : Nat × Nat × Nat × Nat :=
  if r = 0 then (if j = 0 then (2, 19 + 78 * p, 0, 0) else if j = 2 then (2, 20 + 78 * p, 0, 0) else if j = 4 then (2, 21 + 78 * p, 0, 0) else (0, 13, p, j))
  else if r = 1 then (2, 22 + 78 * p + j, 0, 0) else if r = 2 then (3, 17, p, j) else if r = 3 then (2, 36 + 78 * p + j, 0, 0)
  else if r < 12 then (0, 14 + j, p, r - 4) else if r < 18 then (0, 18 + j, p, r - 12) else (0, 24 + j, p, r - 18)
def zdcC (a j : Nat) : Nat × Nat × Nat × Nat :=
  if a < 17 then (if a = 1 then zdc_1.getD j (6, 0, 0, 0) else if a = 2 then (2, 18 + 78 * j, 0, 0) else if a = 3 then (2, 330 + j, 0, 0) else if a = 4 then (2, 390 + j, 0, 0)
    else if a = 5 then (0, 1, 0, j) else if a = 6 then (0, 30 + j, 0, 60) else if a = 7 then (if j = 3 then (2, 9, 0, 0) else (0, 3, 0, j)) else if a = 8 then (0, 4, 0, j)
    else if a = 9 then (if j = 0 then (2, 11, 0, 0) else (0, 5, 0, j)) else if a = 10 then (0, 6, 0, j) else if a = 11 then (if j < 4 then (2, 13 + j, 0, 0) else (0, 7, 0, j))
    else if a < 16 then (0, a - 4, 0, j) else (0, 12, 0, j))
  else if a < 329 then zdc_bx ((a - 17) / 78) ((a - 17) % 78) j
  else if a < 389 then (0, 30 + j, 0, a - 329) else (0, 36 + j, 0, a - 389)
def zdc (a j : Nat) : Nat × Nat × Nat × Nat :=
  if a = 1 then zdc_P.getD j (6, 0, 0, 0) else if a < 410 then zdcC (a - 1) j
  else if a = 410 then (4, 1, j, 0) else if a = 415 then (2, 416 + j, 0, 0) else if a < 420 then (1, 15, a - 416, j) else if a = 420 then (2, 421 + j, 0, 0) else if a < 425 then (1, 16, a - 421, j)
  else if a = 425 then (1, 13, j, 5) else if a = 426 then (1, 1, 0, j) else if a = 427 then (4, 2, j, 0) else if a = 433 then (2, 434 + 9 * j, 0, 0)
  else if a < 470 then (4, 3, (a - 434) / 9, j) else if a = 470 then (2, 471 + j, 0, 0) else (1, 24, a - 471, j)
def zenc (t c p i : Nat) : Nat × Nat :=
  if t = 0 then (if c = 0 then (2, i) else if c = 1 then (6, i) else if c < 6 then (c + 5, i) else if c = 6 then (11, i) else if c = 7 then (12, i) else if c < 12 then (c + 5, i) else if c = 12 then (17, i)
    else if c = 13 then (18 + 78 * p, i) else if c < 17 then (22 + 78 * p + i, c - 14) else if c < 24 then (30 + 78 * p + i, c - 18) else if c < 30 then (36 + 78 * p + i, c - 24)
    else if c < 36 then (if i = 60 then 7 else 330 + i, c - 30) else (390 + i, c - 36))
  else if t = 1 then (if c = 2 then (1, 2) else if c = 0 then (1, i - 3) else if c = 15 then (416 + p, i) else if c = 16 then (421 + p, i) else if c = 13 then (425, p) else if c = 1 then (426, i) else (471 + p, i))
  else if t = 3 then (20 + 78 * p, i)
  else if c = 1 then (410, p) else if c = 2 then (427, p) else if c = 3 then (434 + 9 * p, i) else if c = 4 then (1, 13) else (1, 17)
abbrev zin (a j : Nat) : Prop := 1 ≤ a ∧ a ≤ 476 ∧ j < zdl a
def zick (a j : Nat) : Bool := let q := zdc a j
  if q.1 = 0 ∨ q.1 = 1 ∨ q.1 = 3 ∨ q.1 = 4 then decide (zenc q.1 q.2.1 q.2.2.1 q.2.2.2 = (a, j)) && (if q.1 = 3 then decide (q.2.1 = 17) else if q.1 = 0 then !decide (q.2.1 = 17) else true) else true
theorem zick_all : (List.range 477).all (fun a => (List.range (zdl a)).all (fun j => zick a j)) = true := by decide +kernel
theorem zinj (a : Nat) (ha : a < 477) (j : Nat) (hj : j < zdl a) (h : (zdc a j).1 = 0 ∨ (zdc a j).1 = 1 ∨ (zdc a j).1 = 3 ∨ (zdc a j).1 = 4) : zenc (zdc a j).1 (zdc a j).2.1 (zdc a j).2.2.1 (zdc a j).2.2.2 = (a, j) ∧ ((zdc a j).1 = 3 → (zdc a j).2.1 = 17) ∧ ((zdc a j).1 = 0 → ¬ (zdc a j).2.1 = 17) := by
  have e := List.all_eq_true.mp (List.all_eq_true.mp zick_all a (List.mem_range.mpr ha)) j (List.mem_range.mpr hj)
  unfold zick at e
  simp only [if_pos h, Bool.and_eq_true, decide_eq_true_eq] at e
  refine ⟨e.1, fun h3 => ?_, fun h0 => ?_⟩
  · have := e.2
    rw [if_pos h3] at this
    simpa using this
  · have := e.2
    rw [if_neg (by omega), if_pos h0] at this
    simpa using this
def su (x : zSt) (c : Nat) (g : Nat → Nat → Int32) : zSt := fun d => if d = c then g else x d
def u2 (g : Nat → Nat → Int32) (p i : Nat) (v : Int32) : Nat → Nat → Int32 := fun q k => if q = p ∧ k = i then v else g q k
def zlay (x y : zSt) (E : zEx) (a j : Nat) : Value :=
  if (zdc a j).1 = 0 then .int (x (zdc a j).2.1 (zdc a j).2.2.1 (zdc a j).2.2.2)
  else if (zdc a j).1 = 1 then .int (y (zdc a j).2.1 (zdc a j).2.2.1 (zdc a j).2.2.2)
  else if (zdc a j).1 = 2 then .ref (zdc a j).2.1
  else if (zdc a j).1 = 3 then .ref (30 + 78 * (zdc a j).2.2.1 + (x 17 (zdc a j).2.2.1 (zdc a j).2.2.2).toNatClampNeg)
  else if (zdc a j).1 = 4 then .ref (E.2.2.2 (zdc a j).2.1 (zdc a j).2.2.1 (zdc a j).2.2.2) else .null
def zmem (x y : zSt) (E : zEx) : zM := (476 + E.1, fun a => if 1 ≤ a ∧ a ≤ 476 then zdk a else E.2.1 a, fun a j => if zin a j then zlay x y E a j else E.2.2.1 a j)
theorem zmem_rd {x y : zSt} {E : zEx} {a j : Nat} (h : zin a j) : zrd (zmem x y E) a j = zlay x y E a j := if_pos h
theorem zlay0 {x y : zSt} {E : zEx} {a j c p i : Nat} (hd : zdc a j = (0, c, p, i)) : zlay x y E a j = .int (x c p i) := by
  unfold zlay; rw [hd]; rfl
theorem zlay1 {x y : zSt} {E : zEx} {a j c p i : Nat} (hd : zdc a j = (1, c, p, i)) : zlay x y E a j = .int (y c p i) := by
  unfold zlay; rw [hd]; rfl
theorem zlay2 {x y : zSt} {E : zEx} {a j c p i : Nat} (hd : zdc a j = (2, c, p, i)) : zlay x y E a j = .ref c := by
  unfold zlay; rw [hd]; rfl
theorem zlay3 {x y : zSt} {E : zEx} {a j c p i : Nat} (hd : zdc a j = (3, c, p, i)) : zlay x y E a j = .ref (30 + 78 * p + (x 17 p i).toNatClampNeg) := by
  unfold zlay; rw [hd]; rfl
theorem zlayo {x y x' y' : zSt} {E : zEx} {a j t c p i : Nat} (hd : zdc a j = (t, c, p, i)) (h0 : ¬ t = 0) (h1 : ¬ t = 1) (h3 : ¬ t = 3) : zlay x y E a j = zlay x' y' E a j := by
  unfold zlay; rw [hd]
  show (if t = 0 then _ else if t = 1 then _ else if t = 2 then _ else if t = 3 then _ else _) = (if t = 0 then _ else if t = 1 then _ else if t = 2 then _ else if t = 3 then _ else _)
  rw [if_neg h0, if_neg h1, if_neg h0, if_neg h1, if_neg h3, if_neg h3]
theorem zmem_rdi {x y : zSt} {E : zEx} {a j c p i : Nat} (h : zin a j) (hd : zdc a j = (0, c, p, i)) : zrd (zmem x y E) a j = .int (x c p i) := (zmem_rd h).trans (zlay0 hd)
theorem zmem_rdy {x y : zSt} {E : zEx} {a j c p i : Nat} (h : zin a j) (hd : zdc a j = (1, c, p, i)) : zrd (zmem x y E) a j = .int (y c p i) := (zmem_rd h).trans (zlay1 hd)
theorem zmem_rdr {x y : zSt} {E : zEx} {a j c p i : Nat} (h : zin a j) (hd : zdc a j = (2, c, p, i)) : zrd (zmem x y E) a j = .ref c := (zmem_rd h).trans (zlay2 hd)
theorem zmem_rd3 {x y : zSt} {E : zEx} {a j c p i : Nat} (h : zin a j) (hd : zdc a j = (3, c, p, i)) : zrd (zmem x y E) a j = .ref (30 + 78 * p + (x 17 p i).toNatClampNeg) := (zmem_rd h).trans (zlay3 hd)
theorem zmem_al {x y : zSt} {E : zEx} {a : Nat} (h1 : 1 ≤ a) (h2 : a ≤ 476) : zal (zmem x y E) a = true := by
  show (decide (1 ≤ a) && decide (a ≤ 476 + E.1)) = true
  rw [decide_eq_true h1, decide_eq_true (by omega)]; rfl
theorem zmem_kd {x y : zSt} {E : zEx} {a : Nat} (h1 : 1 ≤ a) (h2 : a ≤ 476) : (zmem x y E).2.1 a = zdk a := if_pos ⟨h1, h2⟩
theorem zM_ext {M M' : zM} (h1 : M.1 = M'.1) (h2 : M.2.1 = M'.2.1) (h3 : ∀ a j, M.2.2 a j = M'.2.2 a j) : M = M' := by
  obtain ⟨a, b, c⟩ := M
  obtain ⟨a', b', c'⟩ := M'
  simp only at h1 h2 h3
  subst h1; subst h2
  have : c = c' := funext fun a => funext fun j => h3 a j
  rw [this]
theorem zdc_inj {a j b k t c p i : Nat} (ht : t = 0 ∨ t = 1 ∨ t = 3 ∨ t = 4) (h : zin a j) (h' : zin b k) (hd : zdc a j = (t, c, p, i)) (hd' : zdc b k = (t, c, p, i)) : b = a ∧ k = j := by
  have e1 := (zinj a (by have := h.2.1; omega) j h.2.2 (by rw [hd]; exact ht)).1
  have e2 := (zinj b (by have := h'.2.1; omega) k h'.2.2 (by rw [hd']; exact ht)).1
  rw [hd] at e1
  rw [hd'] at e2
  have := e2.symm.trans e1
  injection this with u v
  exact ⟨u, v⟩
theorem zdc_17 {a j c p i : Nat} (h : zin a j) (hd : zdc a j = (0, c, p, i)) : ¬ c = 17 := by
  have e := (zinj a (by have := h.2.1; omega) j h.2.2 (by rw [hd]; exact Or.inl rfl)).2.2
  rw [hd] at e
  exact e rfl
theorem zdc_3 {a j c p i : Nat} (h : zin a j) (hd : zdc a j = (3, c, p, i)) : c = 17 := by
  have e := (zinj a (by have := h.2.1; omega) j h.2.2 (by rw [hd]; exact Or.inr (Or.inr (Or.inl rfl)))).2.1
  rw [hd] at e
  exact e rfl
theorem su_eq (x : zSt) (c : Nat) (g : Nat → Nat → Int32) (d : Nat) : su x c g d = if d = c then g else x d := rfl
theorem u2_eq (g : Nat → Nat → Int32) (p i : Nat) (v : Int32) (q k : Nat) : u2 g p i v q k = if q = p ∧ k = i then v else g q k := rfl
theorem su_u2 (x : zSt) (c p i : Nat) (v : Int32) (d q k : Nat) : su x c (u2 (x c) p i v) d q k = if d = c ∧ q = p ∧ k = i then v else x d q k := by
  rw [su_eq]
  by_cases h : d = c
  · subst h
    rw [if_pos rfl, u2_eq]
    simp only [true_and]
  · rw [if_neg h, if_neg (fun e => h e.1)]
theorem zmem_pt {x y : zSt} {E : zEx} {a j c p i : Nat} {v : Int32} (h : zin a j) (hd : zdc a j = (0, c, p, i)) : zput (zmem x y E) a j (.int v) = zmem (su x c (u2 (x c) p i v)) y E := by
  refine zM_ext rfl rfl (fun b k => ?_)
  show (if b = a ∧ k = j then .int v else (if zin b k then zlay x y E b k else E.2.2.1 b k)) = (if zin b k then zlay (su x c (u2 (x c) p i v)) y E b k else E.2.2.1 b k)
  by_cases hb : b = a ∧ k = j
  · obtain ⟨rfl, rfl⟩ := hb
    rw [if_pos ⟨rfl, rfl⟩, if_pos h, zlay0 hd, su_u2, if_pos ⟨rfl, rfl, rfl⟩]
  · rw [if_neg hb]
    by_cases hz : zin b k
    · rw [if_pos hz, if_pos hz]
      obtain ⟨⟨t, c', p', i'⟩, hq⟩ : ∃ q, zdc b k = q := ⟨_, rfl⟩
      by_cases h0 : t = 0
      · subst h0
        rw [zlay0 hq, zlay0 hq, su_u2, if_neg]
        rintro ⟨rfl, rfl, rfl⟩
        exact hb (zdc_inj (Or.inl rfl) h hz hd hq)
      by_cases h1 : t = 1
      · subst h1
        rw [zlay1 hq, zlay1 hq]
      by_cases h3 : t = 3
      · subst h3
        rw [zlay3 hq, zlay3 hq, su_u2, if_neg (fun e => zdc_17 h hd e.1.symm)]
      exact zlayo hq h0 h1 h3
    · rw [if_neg hz, if_neg hz]
theorem zmem_py {x y : zSt} {E : zEx} {a j c p i : Nat} {v : Int32} (h : zin a j) (hd : zdc a j = (1, c, p, i)) : zput (zmem x y E) a j (.int v) = zmem x (su y c (u2 (y c) p i v)) E := by
  refine zM_ext rfl rfl (fun b k => ?_)
  show (if b = a ∧ k = j then .int v else (if zin b k then zlay x y E b k else E.2.2.1 b k)) = (if zin b k then zlay x (su y c (u2 (y c) p i v)) E b k else E.2.2.1 b k)
  by_cases hb : b = a ∧ k = j
  · obtain ⟨rfl, rfl⟩ := hb
    rw [if_pos ⟨rfl, rfl⟩, if_pos h, zlay1 hd, su_u2, if_pos ⟨rfl, rfl, rfl⟩]
  · rw [if_neg hb]
    by_cases hz : zin b k
    · rw [if_pos hz, if_pos hz]
      obtain ⟨⟨t, c', p', i'⟩, hq⟩ : ∃ q, zdc b k = q := ⟨_, rfl⟩
      by_cases h0 : t = 0
      · subst h0
        rw [zlay0 hq, zlay0 hq]
      by_cases h1 : t = 1
      · subst h1
        rw [zlay1 hq, zlay1 hq, su_u2, if_neg]
        rintro ⟨rfl, rfl, rfl⟩
        exact hb (zdc_inj (Or.inr (Or.inl rfl)) h hz hd hq)
      by_cases h3 : t = 3
      · subst h3
        rw [zlay3 hq, zlay3 hq]
      exact zlayo hq h0 h1 h3
    · rw [if_neg hz, if_neg hz]
theorem zmem_p3 {x y : zSt} {E : zEx} {a j c p i r : Nat} (h : zin a j) (hd : zdc a j = (3, c, p, i)) (hr : r < 2 ^ 31) : zput (zmem x y E) a j (.ref (30 + 78 * p + r)) = zmem (su x 17 (u2 (x 17) p i (nI r))) y E := by
  have hc := zdc_3 h hd
  subst hc
  refine zM_ext rfl rfl (fun b k => ?_)
  show (if b = a ∧ k = j then .ref (30 + 78 * p + r) else (if zin b k then zlay x y E b k else E.2.2.1 b k)) = (if zin b k then zlay (su x 17 (u2 (x 17) p i (nI r))) y E b k else E.2.2.1 b k)
  by_cases hb : b = a ∧ k = j
  · obtain ⟨rfl, rfl⟩ := hb
    rw [if_pos ⟨rfl, rfl⟩, if_pos h, zlay3 hd, su_u2, if_pos ⟨rfl, rfl, rfl⟩, nI_clamp hr]
  · rw [if_neg hb]
    by_cases hz : zin b k
    · rw [if_pos hz, if_pos hz]
      obtain ⟨⟨t, c', p', i'⟩, hq⟩ : ∃ q, zdc b k = q := ⟨_, rfl⟩
      by_cases h0 : t = 0
      · subst h0
        rw [zlay0 hq, zlay0 hq, su_u2, if_neg]
        rintro ⟨e, _, _⟩
        exact zdc_17 hz hq e
      by_cases h1 : t = 1
      · subst h1
        rw [zlay1 hq, zlay1 hq]
      by_cases h3 : t = 3
      · subst h3
        have hc := zdc_3 hz hq
        subst hc
        rw [zlay3 hq, zlay3 hq, su_u2, if_neg]
        rintro ⟨_, rfl, rfl⟩
        exact hb (zdc_inj (Or.inr (Or.inr (Or.inl rfl))) h hz hd hq)
      exact zlayo hq h0 h1 h3
    · rw [if_neg hz, if_neg hz]
theorem zlay4 {x y : zSt} {E : zEx} {a j c p i : Nat} (hd : zdc a j = (4, c, p, i)) : zlay x y E a j = .ref (E.2.2.2 c p i) := by
  unfold zlay; rw [hd]; rfl
theorem zmem_rdv {x y : zSt} {E : zEx} {a j c p i : Nat} (h : zin a j) (hd : zdc a j = (4, c, p, i)) : zrd (zmem x y E) a j = .ref (E.2.2.2 c p i) := (zmem_rd h).trans (zlay4 hd)
/-- a reference that changes; a word of a cell that doesn't stand fast; a new cell; a copied row -/
def eR (E : zEx) (c p i v : Nat) : zEx := (E.1, E.2.1, E.2.2.1, fun d q k => if d = c ∧ q = p ∧ k = i then v else E.2.2.2 d q k)
def eP (E : zEx) (a j : Nat) (v : Value) : zEx := (E.1, E.2.1, fun b k => if b = a ∧ k = j then v else E.2.2.1 b k, E.2.2.2)
def eN (E : zEx) (q : Nat × Nat) (f : Nat → Value) : zEx := (E.1 + 1, fun b => if b = 476 + E.1 + 1 then q else E.2.1 b, fun b k => if b = 476 + E.1 + 1 then f k else E.2.2.1 b k, E.2.2.2)
def eC (E : zEx) (s sp d dp n : Nat) : zEx := (E.1, E.2.1, fun b k => if b = d ∧ dp ≤ k ∧ k < dp + n then E.2.2.1 s (sp + (k - dp)) else E.2.2.1 b k, E.2.2.2)
/-- the kind of a cell; whether it is there and none of its places stands fast -/
def eK (E : zEx) (a : Nat) : Nat × Nat := if 1 ≤ a ∧ a ≤ 476 then zdk a else E.2.1 a
def eY (E : zEx) (a : Nat) : Prop := 1 ≤ a ∧ a ≤ 476 + E.1 ∧ (a ≤ 476 → zdl a = 0)
theorem eY_in {E : zEx} {a j : Nat} (h : eY E a) : ¬ zin a j := fun z => by
  have := h.2.2 z.2.1
  have := z.2.2
  omega
theorem zlayE {x y : zSt} {E E' : zEx} (h : E'.2.2.2 = E.2.2.2) (a j : Nat) : zlay x y E' a j = zlay x y E a j := by
  unfold zlay
  rw [h]
theorem zmem_pv {x y : zSt} {E : zEx} {a j c p i v : Nat} (h : zin a j) (hd : zdc a j = (4, c, p, i)) : zput (zmem x y E) a j (.ref v) = zmem x y (eR E c p i v) := by
  refine zM_ext rfl rfl (fun b k => ?_)
  show (if b = a ∧ k = j then .ref v else (if zin b k then zlay x y E b k else E.2.2.1 b k)) = (if zin b k then zlay x y (eR E c p i v) b k else E.2.2.1 b k)
  by_cases hb : b = a ∧ k = j
  · obtain ⟨rfl, rfl⟩ := hb
    rw [if_pos ⟨rfl, rfl⟩, if_pos h, zlay4 hd]
    exact congrArg Value.ref (if_pos ⟨rfl, rfl, rfl⟩).symm
  · rw [if_neg hb]
    by_cases hz : zin b k
    · rw [if_pos hz, if_pos hz]
      obtain ⟨⟨t, c', p', i'⟩, hq⟩ : ∃ q, zdc b k = q := ⟨_, rfl⟩
      by_cases h4 : t = 4
      · subst h4
        rw [zlay4 hq, zlay4 hq]
        refine congrArg Value.ref (if_neg ?_).symm
        rintro ⟨rfl, rfl, rfl⟩
        exact hb (zdc_inj (Or.inr (Or.inr (Or.inr rfl))) h hz hd hq)
      · unfold zlay
        rw [hq]
        show (if t = 0 then _ else if t = 1 then _ else if t = 2 then _ else if t = 3 then _ else if t = 4 then _ else _) = (if t = 0 then _ else if t = 1 then _ else if t = 2 then _ else if t = 3 then _ else if t = 4 then _ else _)
        rw [if_neg h4, if_neg h4]
    · rw [if_neg hz, if_neg hz]
theorem zmem_py2 {x y : zSt} {E : zEx} {a j : Nat} {v : Value} (h : eY E a) : zput (zmem x y E) a j v = zmem x y (eP E a j v) := by
  refine zM_ext rfl rfl (fun b k => ?_)
  show (if b = a ∧ k = j then v else (if zin b k then zlay x y E b k else E.2.2.1 b k)) = (if zin b k then zlay x y (eP E a j v) b k else (if b = a ∧ k = j then v else E.2.2.1 b k))
  by_cases hb : b = a ∧ k = j
  · obtain ⟨rfl, rfl⟩ := hb
    rw [if_pos ⟨rfl, rfl⟩, if_neg (eY_in h), if_pos ⟨rfl, rfl⟩]
  · rw [if_neg hb, if_neg hb, zlayE (E := E) (E' := eP E a j v) rfl]
theorem zmem_ry {x y : zSt} {E : zEx} {a j : Nat} (h : eY E a) : zrd (zmem x y E) a j = E.2.2.1 a j := if_neg (eY_in h)
theorem zmem_new {x y : zSt} {E : zEx} {q : Nat × Nat} {f : Nat → Value} : znew (zmem x y E) q f = zmem x y (eN E q f) := by
  refine zM_ext (by show 476 + E.1 + 1 = 476 + (E.1 + 1); omega) (funext fun b => ?_) (fun b k => ?_)
  · show (if b = 476 + E.1 + 1 then q else (if 1 ≤ b ∧ b ≤ 476 then zdk b else E.2.1 b)) = (if 1 ≤ b ∧ b ≤ 476 then zdk b else (if b = 476 + E.1 + 1 then q else E.2.1 b))
    by_cases hb : b = 476 + E.1 + 1
    · rw [if_pos hb, if_neg (by omega), if_pos hb]
    · rw [if_neg hb, if_neg hb]
  · show (if b = 476 + E.1 + 1 then f k else (if zin b k then zlay x y E b k else E.2.2.1 b k)) = (if zin b k then zlay x y (eN E q f) b k else (if b = 476 + E.1 + 1 then f k else E.2.2.1 b k))
    by_cases hb : b = 476 + E.1 + 1
    · rw [if_pos hb, if_neg (fun z : zin b k => by have := z.2.1; omega), if_pos hb]
    · rw [if_neg hb, if_neg hb, zlayE (E := E) (E' := eN E q f) rfl]
theorem zmem_cpy {x y : zSt} {E : zEx} {s sp d dp n : Nat} (hs : eY E s) (hd : eY E d) : zcopy (zmem x y E) s sp d dp n = zmem x y (eC E s sp d dp n) := by
  refine zM_ext rfl rfl (fun b k => ?_)
  show (if b = d ∧ dp ≤ k ∧ k < dp + n then zrd (zmem x y E) s (sp + (k - dp)) else (if zin b k then zlay x y E b k else E.2.2.1 b k)) = (if zin b k then zlay x y (eC E s sp d dp n) b k else (if b = d ∧ dp ≤ k ∧ k < dp + n then E.2.2.1 s (sp + (k - dp)) else E.2.2.1 b k))
  by_cases hb : b = d ∧ dp ≤ k ∧ k < dp + n
  · obtain ⟨rfl, hk⟩ := hb
    rw [if_pos ⟨rfl, hk⟩, if_neg (eY_in hd), if_pos ⟨rfl, hk⟩, zmem_ry hs]
  · rw [if_neg hb, if_neg hb, zlayE (E := E) (E' := eC E s sp d dp n) rfl]
theorem zmem_k {x y : zSt} {E : zEx} (a : Nat) : (zmem x y E).2.1 a = eK E a := rfl
theorem zmem_c {x y : zSt} {E : zEx} : (zmem x y E).1 = 476 + E.1 := rfl

