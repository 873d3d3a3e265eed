/-! contracts of the reference's methods: what rules do (source: wip/p35/src/211.m2.txt, by expand.py) -/
/-- what the reference's rules leave -/
def pM (y : zSt) (J : zJ) : zSt := su (su y 2 (fun p i => if p = 0 ∧ i = 3 then J.1 else if p = 0 ∧ i = 1 then J.2.1 else if p = 0 ∧ i = 2 then J.2.2.1 else if p = 0 ∧ i = 4 then nI J.2.2.2.length else y 2 p i)) 4 (fun p i => if p = 0 ∧ i < J.2.2.2.length then J.2.2.2.getD i 0 else y 4 p i)
theorem pM_2 (y : zSt) (J : zJ) (p i : Nat) : pM y J 2 p i = if p = 0 ∧ i = 3 then J.1 else if p = 0 ∧ i = 1 then J.2.1 else if p = 0 ∧ i = 2 then J.2.2.1 else if p = 0 ∧ i = 4 then nI J.2.2.2.length else y 2 p i := rfl
theorem pM_4 (y : zSt) (J : zJ) (p i : Nat) : pM y J 4 p i = if p = 0 ∧ i < J.2.2.2.length then J.2.2.2.getD i 0 else y 4 p i := rfl
theorem pM_o (y : zSt) (J : zJ) {c : Nat} (h3 : ¬ c = 2) (h4 : ¬ c = 4) : pM y J c = y c := by
  simp only [pM, su_eq, h3, h4, reduceIte]
def yRu (y : zSt) (p : Nat) : Nat → Nat → Int32 := fun j r => if j = 0 then y 18 p r else if j = 1 then y 19 p r else if j = 2 then y 20 p r &&& nI 1 else if j = 3 then y 21 p r else if j = 4 then y 22 p r else if nI 1 < y 20 p r then nI 1 else nI 0
theorem zand1b (x : Int32) : x &&& nI 1 = nI 0 ∨ x &&& nI 1 = nI 1 := by
  by_cases h : x &&& nI 1 = nI 1
  · exact Or.inr h
  · left
    have h2 := zand1 x
    rw [decide_eq_false h] at h2
    apply Int32.toBitVec_inj.mp
    rw [Int32.toBitVec_and]
    apply BitVec.eq_of_getLsbD_eq
    intro i hi
    have e1 : (nI 1).toBitVec = 1#32 := by decide
    have e0 : (nI 0).toBitVec = 0#32 := by decide
    rw [e1, e0, BitVec.getLsbD_and, BitVec.getLsbD_one, BitVec.getLsbD_zero]
    by_cases h0 : i = 0
    · subst h0; rw [← h2]; rfl
    · simp [h0]
theorem mAsk_eq (a b fl : Int32) (lf : Nat → Int32) : mAsk a b fl lf = sHo a b (fl &&& nI 1) lf := by
  unfold mAsk sHo
  rcases zand1b fl with h | h <;> rw [h] <;> cases sAsk a b lf <;> decide
/-- the deeds of one rule, word by word -/
theorem mOb {J : zJ} {d b : Int32} (hJ : zbl J.1) (hd : ∃ k, k < 5 ∧ d = nI k) :
  sOb J d b = (J.1 ||| (if d = nI 4 then nI 1 else nI 0), (if d = nI 0 then b else J.2.1), (if d = nI 2 then (if d = nI 1 then J.2.2.1 ||| nI 2 else J.2.2.1) ||| nI 1 else (if d = nI 1 then J.2.2.1 ||| nI 2 else J.2.2.1)), (if d = nI 3 then J.2.2.2 ++ [b] else J.2.2.2)) := by
  have o0 : ∀ v : Int32, v ||| nI 0 = v := fun v => Int32.or_zero
  have o1 : J.1 ||| nI 1 = nI 1 := by rcases hJ with h | h <;> rw [h] <;> decide
  obtain ⟨k, hk, e⟩ := hd
  subst e
  unfold sOb
  have : k = 0 ∨ k = 1 ∨ k = 2 ∨ k = 3 ∨ k = 4 := by omega
  rcases this with h | h | h | h | h <;> subst h <;> simp (disch := omega) only [nI_eq, Nat.reduceEqDiff, reduceIte, o0, o1, zn10, zn01]
theorem sOb_bl {J : zJ} {d b : Int32} (hJ : zbl J.1) : zbl (sOb J d b).1 := by
  unfold sOb
  (repeat' split) <;> first | exact hJ | exact zbl_1
section ZC
variable {x y : zSt} {E : zEx} {Q : zO → zM → Prop}
theorem sLf_pM (y : zSt) (J : zJ) (i : Nat) : sLf (pM y J) i = sLf y i := funext fun j => by
  unfold sLf
  rw [pM_o y J (by omega) (by omega)]
/-- keep -/
def mKp (y : zSt) (p i n : Nat) : zSt :=
  if y 2 0 3 = nI 0 then (if y 13 p 5 < sSz (y 25 p) (y 33 0) n + y 33 0 i then su (su y 24 (u2 (y 24) p i (nI 1))) 1 (u2 (y 1) 0 (y 30 0 i).toNatClampNeg (y 1 0 (y 30 0 i).toNatClampNeg + nI 1))
    else sLay (su (su y 24 (u2 (y 24) p i (nI 1))) 27 (u2 (y 27) p i (y 2 0 2))) p i (y 2 0 1).toNatClampNeg)
  else su y 24 (u2 (y 24) p i (nI 1))
theorem zbst1 : ((nI 1 = (0 : Int32)) ∨ (nI 1 = (1 : Int32))) = True := eq_true (Or.inr rfl)
end ZC
