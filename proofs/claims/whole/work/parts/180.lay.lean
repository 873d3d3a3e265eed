/-! where each word of the two stores lies: by program (wip/whole/gen/emit_lay.py) -/
abbrev zSt : Type := Nat → Nat → Nat → Int32
abbrev zEx : Type := Nat × (Nat → Nat × Nat) × (Nat → Nat → Value) × Int64 × UInt64
def zdk_lo : List (Nat × Nat) := [(0, 0), (9, 15), (30, 4), (32, 60), (34, 20), (20, 10), (2, 6), (3, 5), (20, 6), (5, 3), (20, 4), (8, 6), (20, 60), (20, 60), (20, 60), (20, 60), (20, 20)]
def zdk_md : List (Nat × Nat) := [(20, 4), (20, 32), (20, 32), (20, 32), (20, 4), (20, 10), (20, 4), (20, 24), (20, 24), (20, 24), (20, 24), (20, 24), (20, 61), (20, 61), (20, 61), (20, 61), (20, 61), (20, 61), (23, 240), (20, 240), (20, 240), (20, 240), (20, 240), (20, 240), (20, 20), (20, 20), (20, 20), (20, 6)]
def zdk (a : Nat) : Nat × Nat :=
  if a < 17 then zdk_lo.getD a (0, 0)
  else if a < 329 then (if (a - 17) % 78 = 0 then (0, 6) else if (a - 17) % 78 = 1 then (37, 8) else if (a - 17) % 78 = 2 then (36, 6) else if (a - 17) % 78 = 3 then (31, 60)
    else if (a - 17) % 78 < 12 then (7, 3) else if (a - 17) % 78 < 18 then (6, 6) else (1, 6))
  else if a < 389 then (2, 6) else if a < 409 then (4, 3) else if a = 409 then (10, 39)
  else if a < 438 then zdk_md.getD (a - 410) (0, 0) else if a = 438 then (21, 1) else (22, 1)
def zdc_1 : List (Nat × Nat × Nat × Nat) := [(2, 2, 0, 0), (2, 3, 0, 0), (0, 0, 0, 2), (2, 4, 0, 0), (0, 0, 0, 4), (2, 5, 0, 0), (0, 0, 0, 6), (0, 0, 0, 7), (0, 0, 0, 8), (0, 0, 0, 9), (2, 6, 0, 0), (2, 7, 0, 0), (2, 9, 0, 0), (2, 11, 0, 0), (2, 16, 0, 0)]
def zdc_409 : List (Nat × Nat × Nat × Nat) := [(1, 2, 0, 0), (1, 0, 0, 6), (1, 0, 0, 7), (1, 0, 0, 8), (1, 0, 0, 9), (2, 410, 0, 0), (2, 411, 0, 0), (2, 412, 0, 0), (2, 413, 0, 0), (2, 414, 0, 0), (2, 415, 0, 0), (2, 416, 0, 0), (2, 417, 0, 0), (2, 418, 0, 0), (2, 419, 0, 0), (2, 420, 0, 0), (2, 421, 0, 0), (1, 0, 0, 2), (2, 422, 0, 0), (2, 423, 0, 0), (2, 424, 0, 0), (2, 425, 0, 0), (2, 426, 0, 0), (2, 427, 0, 0), (2, 428, 0, 0), (2, 429, 0, 0), (2, 430, 0, 0), (2, 431, 0, 0), (2, 432, 0, 0), (2, 433, 0, 0), (1, 0, 0, 4), (2, 434, 0, 0), (2, 435, 0, 0), (2, 436, 0, 0), (1, 2, 0, 1), (1, 2, 0, 2), (1, 2, 0, 3), (1, 2, 0, 4), (2, 437, 0, 0)]
def zdc_md (a j : Nat) : Nat × Nat × Nat × Nat :=
  if a = 410 then (1, 13, j, 1) else if a = 411 then (1, 14, j / 8, j % 8) else if a = 412 then (1, 15, j / 8, j % 8) else if a = 413 then (1, 16, j / 8, j % 8) else if a = 414 then (1, 13, j, 5) else if a = 415 then (1, 1, 0, j) else if a = 416 then (1, 13, j, 3) else if a = 417 then (1, 18, j / 6, j % 6) else if a = 418 then (1, 19, j / 6, j % 6) else if a = 419 then (1, 21, j / 6, j % 6) else if a = 420 then (1, 22, j / 6, j % 6) else if a = 421 then (1, 20, j / 6, j % 6) else if a = 422 then (1, 30, 0, j) else if a = 423 then (1, 31, 0, j) else if a = 424 then (1, 32, 0, j) else if a = 425 then (1, 33, 0, j) else if a = 426 then (1, 35, 0, j) else if a = 427 then (1, 34, 0, j) else if a = 428 then (1, 24, j / 60, j % 60) else if a = 429 then (1, 25, j / 60, j % 60) else if a = 430 then (1, 26, j / 60, j % 60) else if a = 431 then (1, 27, j / 60, j % 60) else if a = 432 then (1, 28, j / 60, j % 60) else if a = 433 then (1, 29, j / 60, j % 60) else if a = 434 then (1, 36, 0, j) else if a = 435 then (1, 37, 0, j) else if a = 436 then (1, 38, 0, j) else if a = 437 then (1, 4, 0, j) else (6, 0, 0, 0)
def zdc_bx (p r j : Nat) : Nat × Nat × Nat × Nat :=
  if r = 0 then (if j = 0 then (2, 18 + 78 * p, 0, 0) else if j = 2 then (2, 19 + 78 * p, 0, 0) else if j = 4 then (2, 20 + 78 * p, 0, 0) else (0, 13, p, j))
  else if r = 1 then (2, 21 + 78 * p + j, 0, 0) else if r = 2 then (3, 17, p, j) else if r = 3 then (2, 35 + 78 * p + j, 0, 0)
  else if r < 12 then (0, 14 + j, p, r - 4) else if r < 18 then (0, 18 + j, p, r - 12) else (0, 24 + j, p, r - 18)
def zdc (a j : Nat) : Nat × Nat × Nat × Nat :=
  if a < 17 then (if a = 1 then zdc_1.getD j (6, 0, 0, 0) else if a = 2 then (2, 17 + 78 * j, 0, 0) else if a = 3 then (2, 329 + j, 0, 0) else if a = 4 then (2, 389 + j, 0, 0)
    else if a = 5 then (0, 1, 0, j) else if a = 6 then (0, 30 + j, 0, 60) else if a = 7 then (if j = 3 then (2, 8, 0, 0) else (0, 3, 0, j)) else if a = 8 then (0, 4, 0, j)
    else if a = 9 then (if j = 0 then (2, 10, 0, 0) else (0, 5, 0, j)) else if a = 10 then (0, 6, 0, j) else if a = 11 then (if j < 4 then (2, 12 + j, 0, 0) else (0, 7, 0, j))
    else if a < 16 then (0, a - 4, 0, j) else (0, 12, 0, j))
  else if a < 329 then zdc_bx ((a - 17) / 78) ((a - 17) % 78) j
  else if a < 389 then (0, 30 + j, 0, a - 329) else if a < 409 then (0, 36 + j, 0, a - 389) else if a = 409 then zdc_409.getD j (6, 0, 0, 0)
  else if a < 438 then zdc_md a j else if a = 438 then (4, 0, 0, 0) else (5, 0, 0, 0)
def zenc (t c p i : Nat) : Nat × Nat :=
  if t = 0 then (if c = 0 then (1, i) else if c = 1 then (5, i) else if c < 6 then (c + 4, i) else if c = 6 then (10, i) else if c = 7 then (11, i) else if c < 12 then (c + 4, i) else if c = 12 then (16, i)
    else if c = 13 then (17 + 78 * p, i) else if c < 17 then (21 + 78 * p + i, c - 14) else if c < 24 then (29 + 78 * p + i, c - 18) else if c < 30 then (35 + 78 * p + i, c - 24)
    else if c < 36 then (if i = 60 then 6 else 329 + i, c - 30) else (389 + i, c - 36))
  else if t = 1 then (if c = 0 then (409, if i = 6 then 1 else if i = 7 then 2 else if i = 8 then 3 else if i = 9 then 4 else if i = 2 then 17 else 30)
    else if c = 2 then (409, if i = 0 then 0 else 33 + i) else if c = 13 then (if i = 1 then 410 else if i = 5 then 414 else 416, p)
    else if c = 14 then (411, 8 * p + i)
    else if c = 15 then (412, 8 * p + i)
    else if c = 16 then (413, 8 * p + i)
    else if c = 1 then (415, i)
    else if c = 18 then (417, 6 * p + i)
    else if c = 19 then (418, 6 * p + i)
    else if c = 21 then (419, 6 * p + i)
    else if c = 22 then (420, 6 * p + i)
    else if c = 20 then (421, 6 * p + i)
    else if c = 30 then (422, i)
    else if c = 31 then (423, i)
    else if c = 32 then (424, i)
    else if c = 33 then (425, i)
    else if c = 35 then (426, i)
    else if c = 34 then (427, i)
    else if c = 24 then (428, 60 * p + i)
    else if c = 25 then (429, 60 * p + i)
    else if c = 26 then (430, 60 * p + i)
    else if c = 27 then (431, 60 * p + i)
    else if c = 28 then (432, 60 * p + i)
    else if c = 29 then (433, 60 * p + i)
    else if c = 36 then (434, i)
    else if c = 37 then (435, i)
    else if c = 38 then (436, i)
    else if c = 4 then (437, i)
    else (0, 0)) else (19 + 78 * p, i)
abbrev zin (a j : Nat) : Prop := 1 ≤ a ∧ a ≤ 439 ∧ j < (zdk a).2
def zick (a j : Nat) : Bool := let q := zdc a j
  if q.1 = 0 ∨ q.1 = 1 ∨ q.1 = 3 then decide (zenc q.1 q.2.1 q.2.2.1 q.2.2.2 = (a, j)) && (if q.1 = 3 then decide (q.2.1 = 17) else if q.1 = 0 then !decide (q.2.1 = 17) else true) else true
theorem zick_all : (List.range 440).all (fun a => (List.range (zdk a).2).all (fun j => zick a j)) = true := by decide +kernel
theorem zinj (a : Nat) (ha : a < 440) (j : Nat) (hj : j < (zdk a).2) (h : (zdc a j).1 = 0 ∨ (zdc a j).1 = 1 ∨ (zdc a j).1 = 3) : zenc (zdc a j).1 (zdc a j).2.1 (zdc a j).2.2.1 (zdc a j).2.2.2 = (a, j) ∧ ((zdc a j).1 = 3 → (zdc a j).2.1 = 17) ∧ ((zdc a j).1 = 0 → ¬ (zdc a j).2.1 = 17) := by
  have e := List.all_eq_true.mp (List.all_eq_true.mp zick_all a (List.mem_range.mpr ha)) j (List.mem_range.mpr hj)
  unfold zick at e
  simp only [if_pos h, Bool.and_eq_true, decide_eq_true_eq] at e
  refine ⟨e.1, fun h3 => ?_, fun h0 => ?_⟩
  · have := e.2
    rw [if_pos h3] at this
    simpa using this
  · have := e.2
    rw [if_neg (by omega), if_pos h0] at this
    simpa using this
def su (x : zSt) (c : Nat) (g : Nat → Nat → Int32) : zSt := fun d => if d = c then g else x d
def u2 (g : Nat → Nat → Int32) (p i : Nat) (v : Int32) : Nat → Nat → Int32 := fun q k => if q = p ∧ k = i then v else g q k
def zlay (x y : zSt) (E : zEx) (a j : Nat) : Value :=
  if (zdc a j).1 = 0 then .int (x (zdc a j).2.1 (zdc a j).2.2.1 (zdc a j).2.2.2)
  else if (zdc a j).1 = 1 then .int (y (zdc a j).2.1 (zdc a j).2.2.1 (zdc a j).2.2.2)
  else if (zdc a j).1 = 2 then .ref (zdc a j).2.1
  else if (zdc a j).1 = 3 then .ref (29 + 78 * (zdc a j).2.2.1 + (x 17 (zdc a j).2.2.1 (zdc a j).2.2.2).toNatClampNeg)
  else if (zdc a j).1 = 4 then .long E.2.2.2.1 else .double E.2.2.2.2
def zmem (x y : zSt) (E : zEx) : zM := (439 + E.1, fun a => if 1 ≤ a ∧ a ≤ 439 then zdk a else E.2.1 a, fun a j => if zin a j then zlay x y E a j else E.2.2.1 a j)
theorem zmem_rd {x y : zSt} {E : zEx} {a j : Nat} (h : zin a j) : zrd (zmem x y E) a j = zlay x y E a j := if_pos h
theorem zlay0 {x y : zSt} {E : zEx} {a j c p i : Nat} (hd : zdc a j = (0, c, p, i)) : zlay x y E a j = .int (x c p i) := by
  unfold zlay; rw [hd]; rfl
theorem zlay1 {x y : zSt} {E : zEx} {a j c p i : Nat} (hd : zdc a j = (1, c, p, i)) : zlay x y E a j = .int (y c p i) := by
  unfold zlay; rw [hd]; rfl
theorem zlay2 {x y : zSt} {E : zEx} {a j c p i : Nat} (hd : zdc a j = (2, c, p, i)) : zlay x y E a j = .ref c := by
  unfold zlay; rw [hd]; rfl
theorem zlay3 {x y : zSt} {E : zEx} {a j c p i : Nat} (hd : zdc a j = (3, c, p, i)) : zlay x y E a j = .ref (29 + 78 * p + (x 17 p i).toNatClampNeg) := by
  unfold zlay; rw [hd]; rfl
theorem zlayo {x y x' y' : zSt} {E : zEx} {a j t c p i : Nat} (hd : zdc a j = (t, c, p, i)) (h0 : ¬ t = 0) (h1 : ¬ t = 1) (h3 : ¬ t = 3) : zlay x y E a j = zlay x' y' E a j := by
  unfold zlay; rw [hd]
  show (if t = 0 then _ else if t = 1 then _ else if t = 2 then _ else if t = 3 then _ else _) = (if t = 0 then _ else if t = 1 then _ else if t = 2 then _ else if t = 3 then _ else _)
  rw [if_neg h0, if_neg h1, if_neg h0, if_neg h1, if_neg h3, if_neg h3]
theorem zmem_rdi {x y : zSt} {E : zEx} {a j c p i : Nat} (h : zin a j) (hd : zdc a j = (0, c, p, i)) : zrd (zmem x y E) a j = .int (x c p i) := (zmem_rd h).trans (zlay0 hd)
theorem zmem_rdy {x y : zSt} {E : zEx} {a j c p i : Nat} (h : zin a j) (hd : zdc a j = (1, c, p, i)) : zrd (zmem x y E) a j = .int (y c p i) := (zmem_rd h).trans (zlay1 hd)
theorem zmem_rdr {x y : zSt} {E : zEx} {a j c p i : Nat} (h : zin a j) (hd : zdc a j = (2, c, p, i)) : zrd (zmem x y E) a j = .ref c := (zmem_rd h).trans (zlay2 hd)
theorem zmem_rd3 {x y : zSt} {E : zEx} {a j c p i : Nat} (h : zin a j) (hd : zdc a j = (3, c, p, i)) : zrd (zmem x y E) a j = .ref (29 + 78 * p + (x 17 p i).toNatClampNeg) := (zmem_rd h).trans (zlay3 hd)
theorem zmem_al {x y : zSt} {E : zEx} {a : Nat} (h1 : 1 ≤ a) (h2 : a ≤ 439) : zal (zmem x y E) a = true := by
  show (decide (1 ≤ a) && decide (a ≤ 439 + E.1)) = true
  rw [decide_eq_true h1, decide_eq_true (by omega)]; rfl
theorem zmem_kd {x y : zSt} {E : zEx} {a : Nat} (h1 : 1 ≤ a) (h2 : a ≤ 439) : (zmem x y E).2.1 a = zdk a := if_pos ⟨h1, h2⟩
theorem zM_ext {M M' : zM} (h1 : M.1 = M'.1) (h2 : M.2.1 = M'.2.1) (h3 : ∀ a j, M.2.2 a j = M'.2.2 a j) : M = M' := by
  obtain ⟨a, b, c⟩ := M
  obtain ⟨a', b', c'⟩ := M'
  simp only at h1 h2 h3
  subst h1; subst h2
  have : c = c' := funext fun a => funext fun j => h3 a j
  rw [this]
theorem zdc_inj {a j b k t c p i : Nat} (ht : t = 0 ∨ t = 1 ∨ t = 3) (h : zin a j) (h' : zin b k) (hd : zdc a j = (t, c, p, i)) (hd' : zdc b k = (t, c, p, i)) : b = a ∧ k = j := by
  have e1 := (zinj a (by have := h.2.1; omega) j h.2.2 (by rw [hd]; exact ht)).1
  have e2 := (zinj b (by have := h'.2.1; omega) k h'.2.2 (by rw [hd']; exact ht)).1
  rw [hd] at e1
  rw [hd'] at e2
  have := e2.symm.trans e1
  injection this with u v
  exact ⟨u, v⟩
theorem zdc_17 {a j c p i : Nat} (h : zin a j) (hd : zdc a j = (0, c, p, i)) : ¬ c = 17 := by
  have e := (zinj a (by have := h.2.1; omega) j h.2.2 (by rw [hd]; exact Or.inl rfl)).2.2
  rw [hd] at e
  exact e rfl
theorem zdc_3 {a j c p i : Nat} (h : zin a j) (hd : zdc a j = (3, c, p, i)) : c = 17 := by
  have e := (zinj a (by have := h.2.1; omega) j h.2.2 (by rw [hd]; exact Or.inr (Or.inr rfl))).2.1
  rw [hd] at e
  exact e rfl
theorem su_eq (x : zSt) (c : Nat) (g : Nat → Nat → Int32) (d : Nat) : su x c g d = if d = c then g else x d := rfl
theorem u2_eq (g : Nat → Nat → Int32) (p i : Nat) (v : Int32) (q k : Nat) : u2 g p i v q k = if q = p ∧ k = i then v else g q k := rfl
theorem su_u2 (x : zSt) (c p i : Nat) (v : Int32) (d q k : Nat) : su x c (u2 (x c) p i v) d q k = if d = c ∧ q = p ∧ k = i then v else x d q k := by
  rw [su_eq]
  by_cases h : d = c
  · subst h
    rw [if_pos rfl, u2_eq]
    simp only [true_and]
  · rw [if_neg h, if_neg (fun e => h e.1)]
theorem zmem_pt {x y : zSt} {E : zEx} {a j c p i : Nat} {v : Int32} (h : zin a j) (hd : zdc a j = (0, c, p, i)) : zput (zmem x y E) a j (.int v) = zmem (su x c (u2 (x c) p i v)) y E := by
  refine zM_ext rfl rfl (fun b k => ?_)
  show (if b = a ∧ k = j then .int v else (if zin b k then zlay x y E b k else E.2.2.1 b k)) = (if zin b k then zlay (su x c (u2 (x c) p i v)) y E b k else E.2.2.1 b k)
  by_cases hb : b = a ∧ k = j
  · obtain ⟨rfl, rfl⟩ := hb
    rw [if_pos ⟨rfl, rfl⟩, if_pos h, zlay0 hd, su_u2, if_pos ⟨rfl, rfl, rfl⟩]
  · rw [if_neg hb]
    by_cases hz : zin b k
    · rw [if_pos hz, if_pos hz]
      obtain ⟨⟨t, c', p', i'⟩, hq⟩ : ∃ q, zdc b k = q := ⟨_, rfl⟩
      by_cases h0 : t = 0
      · subst h0
        rw [zlay0 hq, zlay0 hq, su_u2, if_neg]
        rintro ⟨rfl, rfl, rfl⟩
        exact hb (zdc_inj (Or.inl rfl) h hz hd hq)
      by_cases h1 : t = 1
      · subst h1
        rw [zlay1 hq, zlay1 hq]
      by_cases h3 : t = 3
      · subst h3
        rw [zlay3 hq, zlay3 hq, su_u2, if_neg (fun e => zdc_17 h hd e.1.symm)]
      exact zlayo hq h0 h1 h3
    · rw [if_neg hz, if_neg hz]
theorem zmem_py {x y : zSt} {E : zEx} {a j c p i : Nat} {v : Int32} (h : zin a j) (hd : zdc a j = (1, c, p, i)) : zput (zmem x y E) a j (.int v) = zmem x (su y c (u2 (y c) p i v)) E := by
  refine zM_ext rfl rfl (fun b k => ?_)
  show (if b = a ∧ k = j then .int v else (if zin b k then zlay x y E b k else E.2.2.1 b k)) = (if zin b k then zlay x (su y c (u2 (y c) p i v)) E b k else E.2.2.1 b k)
  by_cases hb : b = a ∧ k = j
  · obtain ⟨rfl, rfl⟩ := hb
    rw [if_pos ⟨rfl, rfl⟩, if_pos h, zlay1 hd, su_u2, if_pos ⟨rfl, rfl, rfl⟩]
  · rw [if_neg hb]
    by_cases hz : zin b k
    · rw [if_pos hz, if_pos hz]
      obtain ⟨⟨t, c', p', i'⟩, hq⟩ : ∃ q, zdc b k = q := ⟨_, rfl⟩
      by_cases h0 : t = 0
      · subst h0
        rw [zlay0 hq, zlay0 hq]
      by_cases h1 : t = 1
      · subst h1
        rw [zlay1 hq, zlay1 hq, su_u2, if_neg]
        rintro ⟨rfl, rfl, rfl⟩
        exact hb (zdc_inj (Or.inr (Or.inl rfl)) h hz hd hq)
      by_cases h3 : t = 3
      · subst h3
        rw [zlay3 hq, zlay3 hq]
      exact zlayo hq h0 h1 h3
    · rw [if_neg hz, if_neg hz]
theorem zmem_p3 {x y : zSt} {E : zEx} {a j c p i r : Nat} (h : zin a j) (hd : zdc a j = (3, c, p, i)) (hr : r < 2 ^ 31) : zput (zmem x y E) a j (.ref (29 + 78 * p + r)) = zmem (su x 17 (u2 (x 17) p i (nI r))) y E := by
  have hc := zdc_3 h hd
  subst hc
  refine zM_ext rfl rfl (fun b k => ?_)
  show (if b = a ∧ k = j then .ref (29 + 78 * p + r) else (if zin b k then zlay x y E b k else E.2.2.1 b k)) = (if zin b k then zlay (su x 17 (u2 (x 17) p i (nI r))) y E b k else E.2.2.1 b k)
  by_cases hb : b = a ∧ k = j
  · obtain ⟨rfl, rfl⟩ := hb
    rw [if_pos ⟨rfl, rfl⟩, if_pos h, zlay3 hd, su_u2, if_pos ⟨rfl, rfl, rfl⟩, nI_clamp hr]
  · rw [if_neg hb]
    by_cases hz : zin b k
    · rw [if_pos hz, if_pos hz]
      obtain ⟨⟨t, c', p', i'⟩, hq⟩ : ∃ q, zdc b k = q := ⟨_, rfl⟩
      by_cases h0 : t = 0
      · subst h0
        rw [zlay0 hq, zlay0 hq, su_u2, if_neg]
        rintro ⟨e, _, _⟩
        exact zdc_17 hz hq e
      by_cases h1 : t = 1
      · subst h1
        rw [zlay1 hq, zlay1 hq]
      by_cases h3 : t = 3
      · subst h3
        have hc := zdc_3 hz hq
        subst hc
        rw [zlay3 hq, zlay3 hq, su_u2, if_neg]
        rintro ⟨_, rfl, rfl⟩
        exact hb (zdc_inj (Or.inr (Or.inr rfl)) h hz hd hq)
      exact zlayo hq h0 h1 h3
    · rw [if_neg hz, if_neg hz]

