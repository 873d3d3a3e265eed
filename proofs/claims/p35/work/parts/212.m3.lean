/-! the reference's own arrays; who gets a message (source: wip/p35/src/212.m3.txt, by expand.py) -/
section ZX
variable {x y : zSt} {E : zEx}
end ZX
/-- the reference's queue, with what is done -/
def mQu (G : Nat → List Nat) (st : zSt → Nat → zSt) : Nat → List Nat → List Nat → zSt → List Nat × zSt
  | 0, _, V, y => (V, y)
  | _ + 1, [], V, y => (V, y)
  | k + 1, p :: q, V, y => if p ∈ V then mQu G st k q V y else mQu G st k (q ++ G p) (V ++ [p]) (st y p)
theorem mQu_1 (G : Nat → List Nat) (st : zSt → Nat → zSt) : ∀ (k : Nat) (q V : List Nat) (y : zSt), (mQu G st k q V y).1 = rQu G k q V
  | 0, _, _, _ => rfl
  | _ + 1, [], _, _ => rfl
  | k + 1, p :: q, V, y => by
    unfold mQu rQu
    split
    · exact mQu_1 G st k q V y
    · exact mQu_1 G st k _ _ _
theorem mQu_2 (G : Nat → List Nat) (st : zSt → Nat → zSt) : ∀ (k : Nat) (q V : List Nat) (y : zSt), ∃ t, (mQu G st k q V y).1 = V ++ t ∧ (mQu G st k q V y).2 = t.foldl st y
  | 0, _, V, _ => ⟨[], (List.append_nil V).symm, rfl⟩
  | _ + 1, [], V, _ => ⟨[], (List.append_nil V).symm, rfl⟩
  | k + 1, p :: q, V, y => by
    unfold mQu
    split
    · exact mQu_2 G st k q V y
    · obtain ⟨t, h1, h2⟩ := mQu_2 G st k (q ++ G p) (V ++ [p]) (st y p)
      exact ⟨p :: t, by rw [h1, List.append_assoc]; rfl, h2⟩
def mIni (to : Int32) : Nat → List Nat := fun k => zfo (fun k l => if zbit to (nI k) = true then l ++ [k] else l) k []
theorem mIni_ok (to : Int32) : ∀ k, rIni to k = mIni to k ∧ (mIni to k).foldl rAdd [] = mIni to k ∧ (∀ j, j ∈ mIni to k → j < k) ∧ (mIni to k).length ≤ k
  | 0 => by
    refine ⟨rfl, rfl, fun j h => ?_, Nat.le_refl 0⟩
    cases h
  | k + 1 => by
    obtain ⟨h1, h2, h3, h4⟩ := mIni_ok to k
    have e1 : rIni to (k + 1) = if zbit to (nI k) = true then rAdd (rIni to k) k else rIni to k := rfl
    have e2 : mIni to (k + 1) = if zbit to (nI k) = true then mIni to k ++ [k] else mIni to k := rfl
    have hn : ¬ k ∈ mIni to k := fun h => by have := h3 k h; omega
    rw [e1, e2]
    split
    · refine ⟨?_, ?_, fun j hj => ?_, ?_⟩
      · rw [h1]; exact if_neg hn
      · rw [List.foldl_append, h2]; exact if_neg hn
      · rcases List.mem_append.mp hj with e | e
        · have := h3 j e; omega
        · rw [List.mem_singleton] at e; omega
      · rw [List.length_append, List.length_singleton]; omega
    · exact ⟨h1, h2, fun j hj => by have := h3 j hj; omega, by omega⟩
def yJ (y : zSt) (m : Nat) (nr : Nat → Nat) (p : Nat) : zJ := sJd (yRu y p) (sLf y m) (-1) (nr p) 0 zJ0
def yGo (y : zSt) (m : Nat) (nr : Nat → Nat) (p : Nat) : List Nat := (yJ y m nr p).2.2.2.map (fun v => v.toNatClampNeg)
def mSt (y0 : zSt) (m n : Nat) (nr : Nat → Nat) (done : Bool) (z : zSt) (p : Nat) : zSt := if done = true then mKp (pM z (yJ y0 m nr p)) p m n else pM z (yJ y0 m nr p)
def yH (y' y : zSt) : Prop := (∀ c, (c = 13 ∨ (17 ≤ c ∧ c ≤ 23) ∨ 30 ≤ c) → y' c = y c) ∧ y' 0 0 2 = y 0 0 2
theorem yH_yJ {y y' : zSt} (h : yH y' y) (m : Nat) (nr : Nat → Nat) (p : Nat) : yJ y' m nr p = yJ y m nr p := by
  have e1 : yRu y' p = yRu y p := by
    unfold yRu
    rw [h.1 18 (by omega), h.1 19 (by omega), h.1 20 (by omega), h.1 21 (by omega), h.1 22 (by omega)]
  have e2 : sLf y' m = sLf y m := funext fun j => by unfold sLf; rw [h.1 (30 + j) (by omega)]
  unfold yJ
  rw [e1, e2]
theorem yH_pM (y : zSt) (J : zJ) : yH (pM y J) y := ⟨fun c hc => pM_o y J (by omega) (by omega), rfl⟩
theorem yH_lay (y : zSt) (p i k : Nat) : yH (sLay y p i k) y := by
  refine ⟨fun c hc => ?_, rfl⟩
  unfold sLay sRe
  simp only [su_eq]
  rw [if_neg (by omega), if_neg (by omega), if_neg (by omega), if_neg (by omega), if_neg (by omega), if_neg (by omega)]
theorem yH_trans {a b c : zSt} (h : yH a b) (h' : yH b c) : yH a c := ⟨fun k hk => (h.1 k hk).trans (h'.1 k hk), h.2.trans h'.2⟩
theorem yH_su {y : zSt} {c : Nat} {g : Nat → Nat → Int32} (h : ¬ (c = 13 ∨ (17 ≤ c ∧ c ≤ 23) ∨ 30 ≤ c)) (h0 : ¬ c = 0) : yH (su y c g) y := ⟨fun k hk => by rw [su_eq, if_neg (fun e => h (by rw [← e]; exact hk))], by rw [su_eq, if_neg (fun e => h0 e.symm)]⟩
theorem yH_kp (y : zSt) (p i n : Nat) : yH (mKp y p i n) y := by
  unfold mKp
  (repeat' split)
  · exact yH_trans (yH_su (by omega) (by omega)) (yH_su (by omega) (by omega))
  · exact yH_trans (yH_lay _ _ _ _) (yH_trans (yH_su (by omega) (by omega)) (yH_su (by omega) (by omega)))
  · exact yH_su (by omega) (by omega)
theorem yH_st (y0 : zSt) (m n : Nat) (nr : Nat → Nat) (done : Bool) (z : zSt) (p : Nat) : yH (mSt y0 m n nr done z p) z := by
  unfold mSt
  split
  · exact yH_trans (yH_kp _ _ _ _) (yH_pM _ _)
  · exact yH_pM _ _
def gM (g : Nat → Int32) (R : List Nat) : Prop := ∀ i, i < R.length → g i = nI (R.getD i 0)
theorem gM_app {g : Nat → Int32} {R : List Nat} (h : gM g R) (k : Nat) : gM (fun j => if j = R.length then nI k else g j) (R ++ [k]) := by
  intro i hi
  rw [List.length_append, List.length_singleton] at hi
  show (if i = R.length then nI k else g i) = _
  by_cases e : i = R.length
  · rw [if_pos e, List.getD_eq_getElem?_getD, e, List.getElem?_append_right (Nat.le_refl _)]
    simp
  · rw [if_neg e, h i (by omega), List.getD_eq_getElem?_getD, List.getD_eq_getElem?_getD, List.getElem?_append_left (by omega)]
section ZC
variable {x y : zSt} {E : zEx}
abbrev dI (done : Bool) : Int32 := if done = true then nI 1 else nI 0
end ZC
