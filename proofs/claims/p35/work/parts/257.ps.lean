/-! the store of the law's own, as words and rows (source: wip/p35/src/257.ps.txt, by expand3.py) -/
/-- the words that stand fast in a cell of the law's store -/
def gS (c i : Nat) : Bool := c == 1 || c == 2 || c == 15 || c == 16 || c == 24 || (c == 0 && i != 2) || (c == 13 && i == 5)
theorem gS_all : (List.range 477).all (fun a => (List.range (zdl a)).all (fun j => if (zdc a j).1 = 1 then gS (zdc a j).2.1 (zdc a j).2.2.2 else true)) = true := by decide +kernel
theorem zmem_gh {x y y' : zSt} {E : zEx} (h : ∀ c p i, gS c i = true → y' c p i = y c p i) : zmem x y' E = zmem x y E := by
  refine zM_ext rfl rfl (fun a j => ?_)
  show (if zin a j then zlay x y' E a j else E.2.2.1 a j) = (if zin a j then zlay x y E a j else E.2.2.1 a j)
  by_cases hz : zin a j
  · rw [if_pos hz, if_pos hz]
    have e := List.all_eq_true.mp (List.all_eq_true.mp gS_all a (List.mem_range.mpr (by have := hz.2.1; omega))) j (List.mem_range.mpr hz.2.2)
    obtain ⟨⟨t, c, p, i⟩, hq⟩ : ∃ q, zdc a j = q := ⟨_, rfl⟩
    rw [hq] at e
    by_cases h1 : t = 1
    · subst h1
      rw [zlay1 hq, zlay1 hq]
      exact congrArg Value.int (h c p i (by simpa using e))
    · unfold zlay
      rw [hq]
      show (if t = 0 then _ else if t = 1 then _ else if t = 2 then _ else if t = 3 then _ else if t = 4 then _ else _) = (if t = 0 then _ else if t = 1 then _ else if t = 2 then _ else if t = 3 then _ else if t = 4 then _ else _)
      rw [if_neg h1, if_neg h1]
  · rw [if_neg hz, if_neg hz]
theorem gS_no {c i : Nat} (h : (c = 14 ∨ (17 ≤ c ∧ c ≤ 23) ∨ (25 ≤ c ∧ c ≤ 100)) ∨ (c = 0 ∧ i = 2) ∨ (c = 13 ∧ ¬ i = 5)) : gS c i = true → False := by
  unfold gS
  simp only [Bool.or_eq_true, Bool.and_eq_true, beq_iff_eq, bne_iff_ne]
  omega
/-- a copy's row, a message's row -/
def rw5 (y : zSt) (p i j : Nat) : Int32 := if j = 0 then nI i else y (25 + j) p i
def rw7 (y : zSt) (i j : Nat) : Int32 := if j = 0 then y 30 0 i else if j = 1 then y 39 0 i else if j = 2 then y 31 0 i else if j = 3 then y 32 0 i else if j = 4 then y 33 0 i else if j = 5 then y 35 0 i else y 34 0 i
def rw6 (y : zSt) (p r j : Nat) : Int32 := yRu y p j r
abbrev pG : Type := (Nat → Nat) × (Nat → Nat → Nat) × (Nat → Nat) × (Nat → Nat → Nat)
def pRow (E : zEx) (y : zSt) (G : pG) (p i : Nat) : Prop := vI E (G.2.1 p i) 5 (rw5 y p i) ∧ G.1 (G.2.1 p i) = 10 + 100 * p + i
def pBx (E : zEx) (y : zSt) (G : pG) (bl : Nat → Nat → List Nat) : Prop := ∀ p f, p < 4 → f < 8 → vR E (E.2.2.2 3 p f) 40 (bl p f).length (fun k => G.2.1 p ((bl p f).getD k 0)) ∧ G.1 (E.2.2.2 3 p f) = 0 ∧ ∀ i, i ∈ bl p f → i < 26 ∧ pRow E y G p i
def pPa (E : zEx) (y : zSt) (G : pG) (fc : Nat → Nat) : Prop := ∀ p, p < 4 → vI E (E.2.2.2 1 p 0) (fc p) (y 14 p) ∧ G.1 (E.2.2.2 1 p 0) = 1 + p ∧ fc p ≤ 8
def pRu (E : zEx) (y : zSt) (G : pG) (nr : Nat → Nat) : Prop := ∀ p, p < 4 → vR E (E.2.2.2 2 p 0) 40 (nr p) (G.2.2.2 p) ∧ G.1 (E.2.2.2 2 p 0) = 0 ∧ nr p ≤ 6 ∧ ∀ r, r < nr p → vI E (G.2.2.2 p r) 6 (rw6 y p r) ∧ G.1 (G.2.2.2 p r) = 0
def pSe (E : zEx) (y : zSt) (G : pG) (n : Nat) : Prop := vR E (E.2.2.2 4 0 0) 40 n G.2.2.1 ∧ G.1 (E.2.2.2 4 0 0) = 0 ∧ n ≤ 25 ∧ ∀ i, i < n → vI E (G.2.2.1 i) 7 (rw7 y i) ∧ G.1 (G.2.2.1 i) = 0
def pLa (E : zEx) (G : pG) : Prop := ∃ m g, m ≤ 100 ∧ vI E (E.2.2.2 5 0 0) m g ∧ G.1 (E.2.2.2 5 0 0) = 0
def PS (E : zEx) (y : zSt) (G : pG) (bl : Nat → Nat → List Nat) (fc nr : Nat → Nat) (n L : Nat) (xs : Nat → Int32) : Prop := pBx E y G bl ∧ pPa E y G fc ∧ pRu E y G nr ∧ pSe E y G n ∧ pLa E G ∧ vS E L xs
section ZP
variable {E E' : zEx} {x y y' : zSt} {G : pG} {bl : Nat → Nat → List Nat} {fc nr : Nat → Nat} {n L : Nat} {xs : Nat → Int32}
theorem eL.rf (h : eL E E') (c p i : Nat) : E'.2.2.2 c p i = E.2.2.2 c p i := by rw [h.2.1]
theorem pRow.mL (h : eL E E') {p i : Nat} (r : pRow E y G p i) : pRow E' y G p i := ⟨h.I r.1, r.2⟩
theorem pBx.mL (h : eL E E') (r : pBx E y G bl) : pBx E' y G bl := fun p f hp hf => by
  obtain ⟨a, b, c⟩ := r p f hp hf
  rw [h.rf]
  exact ⟨h.R a, b, fun i hi => ⟨(c i hi).1, (c i hi).2.mL h⟩⟩
theorem pPa.mL (h : eL E E') (r : pPa E y G fc) : pPa E' y G fc := fun p hp => by
  obtain ⟨a, b, c⟩ := r p hp
  rw [h.rf]
  exact ⟨h.I a, b, c⟩
theorem pRu.mL (h : eL E E') (r : pRu E y G nr) : pRu E' y G nr := fun p hp => by
  obtain ⟨a, b, c, d⟩ := r p hp
  rw [h.rf]
  exact ⟨h.R a, b, c, fun r hr => ⟨h.I (d r hr).1, (d r hr).2⟩⟩
theorem pSe.mL (h : eL E E') (r : pSe E y G n) : pSe E' y G n := by
  obtain ⟨a, b, c, d⟩ := r
  unfold pSe
  rw [h.rf]
  exact ⟨h.R a, b, c, fun r hr => ⟨h.I (d r hr).1, (d r hr).2⟩⟩
theorem pLa.mL (h : eL E E') (r : pLa E G) : pLa E' G := by
  obtain ⟨m, g, a, b, c⟩ := r
  unfold pLa
  rw [h.rf]
  exact ⟨m, g, a, h.I b, c⟩
theorem PS.mL (h : eL E E') (r : PS E y G bl fc nr n L xs) : PS E' y G bl fc nr n L xs := ⟨r.1.mL h, r.2.1.mL h, r.2.2.1.mL h, r.2.2.2.1.mL h, r.2.2.2.2.1.mL h, h.S r.2.2.2.2.2⟩
/-- which words the parts speak of -/
theorem pRow.mY {p i : Nat} (h : ∀ c, 26 ≤ c → c ≤ 29 → y' c p i = y c p i) (r : pRow E y G p i) : pRow E y' G p i := by
  refine ⟨?_, r.2⟩
  obtain ⟨a, b, c⟩ := r.1
  refine ⟨a, b, fun j hj => (c j hj).trans (congrArg Value.int ?_)⟩
  unfold rw5
  by_cases e : j = 0
  · rw [if_pos e, if_pos e]
  · rw [if_neg e, if_neg e, h (25 + j) (by omega) (by omega)]
theorem pPa.mY (h : y' 14 = y 14) (r : pPa E y G fc) : pPa E y' G fc := fun p hp => by rw [h]; exact r p hp
theorem pRu.mY (h : ∀ c, 18 ≤ c → c ≤ 22 → y' c = y c) (r : pRu E y G nr) : pRu E y' G nr := fun p hp => by
  obtain ⟨a, b, c, d⟩ := r p hp
  refine ⟨a, b, c, fun r hr => ⟨?_, (d r hr).2⟩⟩
  have e : rw6 y' p r = rw6 y p r := funext fun j => by
    unfold rw6 yRu
    rw [h 18 (by omega) (by omega), h 19 (by omega) (by omega), h 20 (by omega) (by omega), h 21 (by omega) (by omega), h 22 (by omega) (by omega)]
  rw [e]
  exact (d r hr).1
theorem pSe.mY (h : ∀ c, 30 ≤ c → c ≤ 39 → y' c = y c) (r : pSe E y G n) : pSe E y' G n := by
  obtain ⟨a, b, c, d⟩ := r
  refine ⟨a, b, c, fun i hi => ⟨?_, (d i hi).2⟩⟩
  have e : rw7 y' i = rw7 y i := funext fun j => by
    unfold rw7
    rw [h 30 (by omega) (by omega), h 31 (by omega) (by omega), h 32 (by omega) (by omega), h 33 (by omega) (by omega), h 34 (by omega) (by omega), h 35 (by omega) (by omega), h 39 (by omega) (by omega)]
  rw [e]
  exact (d i hi).1
theorem pBx.mY (h : ∀ c, 26 ≤ c → c ≤ 29 → y' c = y c) (r : pBx E y G bl) : pBx E y' G bl := fun p f hp hf => by
  obtain ⟨a, b, c⟩ := r p f hp hf
  exact ⟨a, b, fun i hi => ⟨(c i hi).1, (c i hi).2.mY (fun c h1 h2 => by rw [h c h1 h2])⟩⟩
/-- a word changes that no row holds -/
theorem PS.mY (h : ∀ c, ¬ c = 0 → ¬ c = 1 → ¬ c = 2 → ¬ c = 13 → ¬ c = 15 → ¬ c = 16 → ¬ c = 24 → ¬ c = 25 → y' c = y c) (r : PS E y G bl fc nr n L xs) : PS E y' G bl fc nr n L xs := by
  have h' : ∀ c, (c = 14 ∨ (17 ≤ c ∧ c ≤ 23) ∨ 26 ≤ c) → y' c = y c := fun c hc => h c (by omega) (by omega) (by omega) (by omega) (by omega) (by omega) (by omega) (by omega)
  exact ⟨r.1.mY (fun c _ _ => h' c (by omega)), r.2.1.mY (h' 14 (by omega)), r.2.2.1.mY (fun c _ _ => h' c (by omega)), r.2.2.2.1.mY (fun c _ _ => h' c (by omega)), r.2.2.2.2⟩
/-- tags of cells that aren't in it -/
def tU (w : Nat → Nat) (a v : Nat) : Nat → Nat := fun b => if b = a then v else w b
theorem tU_o {w : Nat → Nat} {a v b : Nat} (h : ¬ b = a) : tU w a v b = w b := if_neg h
theorem tU_n {w : Nat → Nat} {a v : Nat} : tU w a v a = v := if_pos rfl
theorem PS.mW {a v : Nat} (ha : 476 + E.1 < a) (r : PS E y G bl fc nr n L xs) : PS E y (tU G.1 a v, G.2) bl fc nr n L xs := by
  have key : ∀ {b}, eY E b → tU G.1 a v b = G.1 b := fun {b} hb => tU_o (by have := hb.2.1; omega)
  obtain ⟨r1, r2, r3, r4, r5, r6⟩ := r
  refine ⟨fun p f hp hf => ?_, fun p hp => ?_, fun p hp => ?_, ?_, ?_, r6⟩
  · obtain ⟨a, b, c⟩ := r1 p f hp hf
    exact ⟨a, (key a.1).trans b, fun i hi => ⟨(c i hi).1, (c i hi).2.1, (key (c i hi).2.1.1).trans (c i hi).2.2⟩⟩
  · obtain ⟨a, b, c⟩ := r2 p hp
    exact ⟨a, (key a.1).trans b, c⟩
  · obtain ⟨a, b, c, d⟩ := r3 p hp
    exact ⟨a, (key a.1).trans b, c, fun r hr => ⟨(d r hr).1, (key (d r hr).1.1).trans (d r hr).2⟩⟩
  · obtain ⟨a, b, c, d⟩ := r4
    exact ⟨a, (key a.1).trans b, c, fun r hr => ⟨(d r hr).1, (key (d r hr).1.1).trans (d r hr).2⟩⟩
  · obtain ⟨m, g, a, b, c⟩ := r5
    exact ⟨m, g, a, b, (key b.1).trans c⟩
/-- a row of the box put in another's place -/
def bU (bl : Nat → Nat → List Nat) (p f : Nat) (l : List Nat) : Nat → Nat → List Nat := fun q g => if q = p ∧ g = f then l else bl q g
theorem bU_n {p f : Nat} {l : List Nat} : bU bl p f l p f = l := if_pos ⟨rfl, rfl⟩
theorem bU_o {p f q g : Nat} {l : List Nat} (h : ¬ (q = p ∧ g = f)) : bU bl p f l q g = bl q g := if_neg h
theorem eR_o {c p i v d q k : Nat} (h : ¬ (d = c ∧ q = p ∧ k = i)) : (eR E c p i v).2.2.2 d q k = E.2.2.2 d q k := if_neg h
theorem eR_n {c p i v : Nat} : (eR E c p i v).2.2.2 c p i = v := if_pos ⟨rfl, rfl, rfl⟩
theorem PS.box {p f a : Nat} {l : List Nat} (r : PS E y G bl fc nr n L xs) (ha : vR E a 40 l.length (fun k => G.2.1 p (l.getD k 0))) (hw : G.1 a = 0) (hl : ∀ i, i ∈ l → i < 26 ∧ pRow E y G p i) : PS (eR E 3 p f a) y G (bU bl p f l) fc nr n L xs := by
  obtain ⟨r1, r2, r3, r4, r5, r6⟩ := r
  refine ⟨fun q g hq hg => ?_, fun q hq => ?_, fun q hq => ?_, ?_, ?_, r6⟩
  · by_cases e : q = p ∧ g = f
    · obtain ⟨rfl, rfl⟩ := e
      rw [bU_n, eR_n]
      exact ⟨ha, hw, hl⟩
    · rw [bU_o e, eR_o (by omega)]
      exact r1 q g hq hg
  · rw [eR_o (by omega)]; exact r2 q hq
  · rw [eR_o (by omega)]; exact r3 q hq
  · unfold pSe
    rw [eR_o (by omega)]; exact r4
  · unfold pLa
    rw [eR_o (by omega)]; exact r5
end ZP
