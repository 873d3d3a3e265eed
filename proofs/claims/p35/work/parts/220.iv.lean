/-! what holds between calls (source: wip/p35/src/220.iv.txt, by expand.py) -/
def iSc (x : zSt) (n qn t w l : Nat) : Prop := x 0 0 2 = nI n ∧ n ≤ 60 ∧ x 0 0 4 = nI qn ∧ qn ≤ 20 ∧ x 0 0 6 = nI t ∧ t ≤ 9999 ∧ x 0 0 8 = nI w ∧ w ≤ 50 ∧ x 0 0 7 = nI l ∧ l ≤ 100
def iNum (x : zSt) (p b : Nat) : Prop := (∀ k, k < 8 → ∃ v, 1 ≤ v ∧ v ≤ b ∧ x 16 p k = nI v) ∧ (∀ i f, i < 60 → f < 8 → x 25 p i = nI f → ∃ u v, x 26 p i = nI u ∧ x 16 p f = nI v ∧ 1 ≤ u ∧ u < v ∧ v ≤ b) ∧ ∀ i j, i < 60 → j < 60 → x 25 p i = x 25 p j → ¬ x 25 p i = -1 → x 26 p i = x 26 p j → i = j
def iCo (x : zSt) (p : Nat) : Prop := (∀ i, i < 60 → ∃ a, a ≤ 9999 ∧ x 29 p i = nI a) ∧ (∀ i, i < 60 → zbl (x 24 p i)) ∧ ∀ k, k < 8 → ∃ a, a ≤ 200 ∧ x 15 p k = nI a
def iRo (x : zSt) (p c j : Nat) : Prop := (∃ k, k < 5 ∧ x 21 p j = nI k) ∧ (x 21 p j = nI 0 → ∃ f, f < c ∧ x 22 p j = nI f) ∧ (x 21 p j = nI 3 → ∃ k, k < 4 ∧ x 22 p j = nI k)
def iRu (x : zSt) (p c m : Nat) : Prop := zRul x p m ∧ (∀ r s, r < 6 → s < 6 → x 17 p r = x 17 p s → r = s) ∧ ∀ r, r < m → iRo x p c (x 17 p r).toNatClampNeg
def iLe (x : zSt) (n t : Nat) : Prop := (∀ i, i < 60 → x 34 0 i = -1 ∨ ∃ k, k < i ∧ x 34 0 i = nI k) ∧ (∀ i, i < n → (∃ a, a < 10 ∧ x 30 0 i = nI a) ∧ (∃ s, s ≤ 50 ∧ x 33 0 i = nI s)) ∧ ∃ tm : Nat → Nat, (∀ i, i < n → x 35 0 i = nI (tm i) ∧ tm i ≤ t) ∧ ∀ i j, i < j → j < n → tm i ≤ tm j
def iSh (c : Nat) : Prop := c = 0 ∨ c = 1 ∨ (13 ≤ c ∧ c ≤ 16) ∨ (24 ≤ c ∧ c ≤ 29) ∨ (36 ≤ c ∧ c ≤ 38)
def iFl (x : zSt) (p j : Nat) : Int32 := if x 20 p j = nI 0 then (if x 23 p j = nI 0 then nI 0 else nI 2) else if x 23 p j = nI 0 then nI 1 else nI 3
def iRr (x y : zSt) (p r : Nat) : Prop := y 18 p r = x 18 p (x 17 p r).toNatClampNeg ∧ y 19 p r = x 19 p (x 17 p r).toNatClampNeg ∧ y 20 p r = iFl x p (x 17 p r).toNatClampNeg ∧ y 21 p r = x 21 p (x 17 p r).toNatClampNeg ∧ y 22 p r = x 22 p (x 17 p r).toNatClampNeg
def iRl (x y : zSt) (n : Nat) (nr : Nat → Nat) : Prop := (∀ c, iSh c → y c = x c) ∧ (∀ c i, 30 ≤ c → c ≤ 35 → i < n → y c 0 i = x c 0 i) ∧ ∀ p r, p < 4 → r < nr p → iRr x y p r
def iBx (x : zSt) (p n c b : Nat) : Prop := zBx x p n c ∧ 2 ≤ c ∧ iNum x p b ∧ iCo x p
def zInv (x y : zSt) (b : Nat) : Prop := ∃ (n qn t w l : Nat) (fc nr : Nat → Nat), iSc x n qn t w l ∧ (∀ p, p < 4 → iBx x p n (fc p) b) ∧ (∀ p, p < 4 → iRu x p (fc p) (nr p)) ∧ iLe x n t ∧ zQs x qn ∧ iRl x y n nr
theorem iRl_sh {x y : zSt} {n : Nat} {nr : Nat → Nat} (h : iRl x y n nr) {c : Nat} (hc : iSh c) : y c = x c := h.1 c hc
theorem iSh_0 : iSh 0 := Or.inl rfl
theorem iSh_1 : iSh 1 := Or.inr (Or.inl rfl)
theorem iSh_a {c : Nat} (h : 13 ≤ c) (h' : c ≤ 16) : iSh c := by unfold iSh; omega
theorem iSh_b {c : Nat} (h : 24 ≤ c) (h' : c ≤ 29) : iSh c := by unfold iSh; omega
theorem iSh_c {c : Nat} (h : 36 ≤ c) (h' : c ≤ 38) : iSh c := by unfold iSh; omega
theorem iNum_le {x : zSt} {p b b' : Nat} (h : iNum x p b) (hb : b ≤ b') : iNum x p b' :=
  ⟨fun k hk => by obtain ⟨v, h1, h2, h3⟩ := h.1 k hk; exact ⟨v, h1, by omega, h3⟩, fun i f hi hf e => by obtain ⟨u, v, h1, h2, h3, h4, h5⟩ := h.2.1 i f hi hf e; exact ⟨u, v, h1, h2, h3, h4, by omega⟩, h.2.2⟩
theorem zInv_le {x y : zSt} {b b' : Nat} (h : zInv x y b) (hb : b ≤ b') : zInv x y b' := by
  obtain ⟨n, qn, t, w, l, fc, nr, h1, h2, h3⟩ := h
  exact ⟨n, qn, t, w, l, fc, nr, h1, fun p hp => ⟨(h2 p hp).1, (h2 p hp).2.1, iNum_le (h2 p hp).2.2.1 hb, (h2 p hp).2.2.2⟩, h3⟩
/-- what the reference writes beside -/
theorem zInv_y {x y y' : zSt} {b : Nat} (h : zInv x y b) (hy : ∀ c, ¬ c = 2 → ¬ c = 4 → y' c = y c) : zInv x y' b := by
  obtain ⟨n, qn, t, w, l, fc, nr, h1, h2, h3, h4, h5, h6, h7, h8⟩ := h
  refine ⟨n, qn, t, w, l, fc, nr, h1, h2, h3, h4, h5, fun c hc => ?_, fun c i a1 a2 hi => ?_, fun p r hp hr => ?_⟩
  · rw [hy c (by unfold iSh at hc; omega) (by unfold iSh at hc; omega)]; exact h6 c hc
  · rw [hy c (by omega) (by omega)]; exact h7 c i a1 a2 hi
  · have := h8 p r hp hr
    unfold iRr at this ⊢
    rw [hy 18 (by omega) (by omega), hy 19 (by omega) (by omega), hy 20 (by omega) (by omega), hy 21 (by omega) (by omega), hy 22 (by omega) (by omega)]
    exact this
/-- what the class writes beside, the letter asked about too -/
def zEqA (x' x : zSt) : Prop := ∀ c p i, (c < 3 ∨ 12 < c) → ¬ (30 ≤ c ∧ c ≤ 35 ∧ i = 60) → x' c p i = x c p i
theorem zEqA_of {x x' : zSt} (h : zEq x' x) : zEqA x' x := fun c p i hc _ => by rw [h c hc]
theorem zEqA_f {x x' : zSt} (h : zEqA x' x) {c : Nat} (hc : c < 3 ∨ 12 < c) (h3 : c < 30 ∨ 35 < c) : x' c = x c := funext fun p => funext fun i => h c p i hc (by omega)
theorem zInv_x {x x' y : zSt} {b : Nat} (h : zInv x y b) (hx : zEqA x' x) : zInv x' y b := by
  obtain ⟨n, qn, t, w, l, fc, nr, h1, h2, h3, h4, h5, h6, h7, h8⟩ := h
  have e0 := zEqA_f hx (c := 0) (by omega) (by omega)
  have e13 := zEqA_f hx (c := 13) (by omega) (by omega)
  have e14 := zEqA_f hx (c := 14) (by omega) (by omega)
  have e15 := zEqA_f hx (c := 15) (by omega) (by omega)
  have e16 := zEqA_f hx (c := 16) (by omega) (by omega)
  have e17 := zEqA_f hx (c := 17) (by omega) (by omega)
  have e18 := zEqA_f hx (c := 18) (by omega) (by omega)
  have e19 := zEqA_f hx (c := 19) (by omega) (by omega)
  have e20 := zEqA_f hx (c := 20) (by omega) (by omega)
  have e21 := zEqA_f hx (c := 21) (by omega) (by omega)
  have e22 := zEqA_f hx (c := 22) (by omega) (by omega)
  have e23 := zEqA_f hx (c := 23) (by omega) (by omega)
  have e24 := zEqA_f hx (c := 24) (by omega) (by omega)
  have e25 := zEqA_f hx (c := 25) (by omega) (by omega)
  have e26 := zEqA_f hx (c := 26) (by omega) (by omega)
  have e27 := zEqA_f hx (c := 27) (by omega) (by omega)
  have e29 := zEqA_f hx (c := 29) (by omega) (by omega)
  have e36 := zEqA_f hx (c := 36) (by omega) (by omega)
  have e37 := zEqA_f hx (c := 37) (by omega) (by omega)
  have hn : n ≤ 60 := h1.2.1
  refine ⟨n, qn, t, w, l, fc, nr, ?_, fun p hp => ?_, fun p hp => ?_, ?_, ?_, fun c hc => ?_, fun c i a1 a2 hi => ?_, fun p r hp hr => ?_⟩
  · unfold iSc at h1 ⊢; rw [e0]; exact h1
  · have := h2 p hp
    unfold iBx zBx iNum iCo at this ⊢
    rw [e13, e14, e15, e16, e24, e25, e26, e27, e29]
    exact this
  · have := h3 p hp
    unfold iRu zRul iRo at this ⊢
    rw [e13, e17, e20, e21, e22, e23]
    exact this
  · obtain ⟨a1, a2, tm, a3, a4⟩ := h4
    refine ⟨fun i hi => ?_, fun i hi => ?_, tm, fun i hi => ?_, a4⟩
    · rw [hx 34 0 i (by omega) (by omega)]; exact a1 i hi
    · rw [hx 30 0 i (by omega) (by omega), hx 33 0 i (by omega) (by omega)]; exact a2 i hi
    · rw [hx 35 0 i (by omega) (by omega)]; exact a3 i hi
  · unfold zQs at h5 ⊢; rw [e36, e37]; exact h5
  · rw [h6 c hc]
    exact (zEqA_f hx (by unfold iSh at hc; omega) (by unfold iSh at hc; omega)).symm
  · rw [h7 c i a1 a2 hi, hx c 0 i (by omega) (by omega)]
  · have := h8 p r hp hr
    unfold iRr iFl at this ⊢
    rw [e17, e18, e19, e20, e21, e22, e23]
    exact this
def mTh (y : zSt) (k : Nat) : zSt := su y 2 (u2 (y 2) 0 0 (nI k))
theorem mTh_fold (y : zSt) (k : Nat) : su y 2 (u2 (y 2) 0 0 (nI k)) = mTh y k := rfl
theorem mTh_o (y : zSt) (k : Nat) {c : Nat} (h : ¬ c = 2) : mTh y k c = y c := by
  unfold mTh
  rw [su_eq, if_neg h]
theorem mTh_th (y : zSt) (k : Nat) : mTh y k 2 0 0 = nI k := rfl
theorem mTh_mTh (y : zSt) (j k : Nat) : mTh (mTh y j) k = mTh y k := zS_ext fun c p i => by
  unfold mTh
  simp only [su_eq, u2_eq, reduceIte]
  by_cases hc : c = 2
  · subst hc
    simp only [reduceIte, u2_eq]
    by_cases h : p = 0 ∧ i = 0 <;> simp only [h, reduceIte, and_self]
  · simp only [hc, reduceIte]
theorem zInv_th {x y : zSt} {b k : Nat} (h : zInv x y b) : zInv x (mTh y k) b := zInv_y h (fun c h2 _ => mTh_o y k h2)
theorem zgt {v : Int32} {n : Nat} (hn : 0 < n ∧ n < 2 ^ 31) (h : ¬ v < nI n) : nI (n - 1) < v := by
  rw [Int32.lt_iff_toInt_lt] at h ⊢
  rw [nI_toInt (by omega)] at h
  rw [nI_toInt (by omega)]
  omega
theorem zprd {c : Nat} (h : 0 < c) : nI c - nI 1 = nI (c - 1) := by
  obtain ⟨k, rfl⟩ : ∃ k, c = k + 1 := ⟨c - 1, by omega⟩
  rw [show nI (k + 1) - nI 1 = nI k from nI_pred k]
  rfl
/-- a number is below, at or above n, or in between -/
theorem zrng (v : Int32) {n : Nat} (hn : 0 < n ∧ n < 2 ^ 31) : v < nI 0 ∨ (¬ v < nI 0 ∧ ¬ v < nI n ∧ nI (n - 1) < v) ∨ ∃ p, p < n ∧ v = nI p := by
  by_cases h : v < nI 0
  · exact Or.inl h
  by_cases h4 : v < nI n
  · obtain ⟨j, hj, rfl⟩ := nI_of (x := v) (by rw [nI_0] at h; exact h)
    exact Or.inr (Or.inr ⟨j, (nI_ltI hj hn.2).mp h4, rfl⟩)
  · exact Or.inr (Or.inl ⟨h, h4, zgt hn h4⟩)
theorem zper (v : Int32) : v < nI 0 ∨ (¬ v < nI 0 ∧ ¬ v < nI 4 ∧ nI 3 < v) ∨ ∃ p, p < 4 ∧ v = nI p := zrng v (n := 4) (by omega)
theorem iRl_y {x y y' : zSt} {n : Nat} {nr : Nat → Nat} (h : iRl x y n nr) (hy : ∀ c, ¬ c = 2 → ¬ c = 4 → y' c = y c) : iRl x y' n nr := by
  obtain ⟨h6, h7, h8⟩ := h
  refine ⟨fun c hc => ?_, fun c i a1 a2 hi => ?_, fun p r hp hr => ?_⟩
  · rw [hy c (by unfold iSh at hc; omega) (by unfold iSh at hc; omega)]; exact h6 c hc
  · rw [hy c (by omega) (by omega)]; exact h7 c i a1 a2 hi
  · have := h8 p r hp hr
    unfold iRr at this ⊢
    rw [hy 18 (by omega) (by omega), hy 19 (by omega) (by omega), hy 20 (by omega) (by omega), hy 21 (by omega) (by omega), hy 22 (by omega) (by omega)]
    exact this
theorem iRl_th {x y : zSt} {n k : Nat} {nr : Nat → Nat} (h : iRl x y n nr) : iRl x (mTh y k) n nr := iRl_y h (fun c h2 _ => mTh_o y k h2)
/-- both write the same word of what they share -/
theorem iRl_su {x y : zSt} {n c0 : Nat} {nr : Nat → Nat} {g g' : Nat → Nat → Int32} (h : iRl x y n nr) (hc : iSh c0) (hg : g' = g) : iRl (su x c0 g) (su y c0 g') n nr := by
  subst hg
  obtain ⟨h6, h7, h8⟩ := h
  unfold iSh at hc
  refine ⟨fun c hc' => ?_, fun c i a1 a2 hi => ?_, fun p r hp hr => ?_⟩
  · rw [su_eq, su_eq]
    split
    · rfl
    · exact h6 c hc'
  · rw [su_eq, su_eq, if_neg (by omega), if_neg (by omega)]; exact h7 c i a1 a2 hi
  · have := h8 p r hp hr
    unfold iRr iFl at this ⊢
    have e : ∀ (z : zSt) (d : Nat), 17 ≤ d → d ≤ 23 → su z c0 g' d = z d := fun z d h1 h2 => by rw [su_eq, if_neg (by omega)]
    rw [e x 17 (by omega) (by omega), e x 18 (by omega) (by omega), e x 19 (by omega) (by omega), e x 20 (by omega) (by omega), e x 21 (by omega) (by omega), e x 22 (by omega) (by omega), e x 23 (by omega) (by omega), e y 18 (by omega) (by omega), e y 19 (by omega) (by omega), e y 20 (by omega) (by omega), e y 21 (by omega) (by omega), e y 22 (by omega) (by omega)]
    exact this
theorem u2_row (g : Nat → Nat → Int32) (p i : Nat) (v : Int32) : u2 g p i v p = fun k => if k = i then v else g p k := funext fun k => by
  rw [u2_eq]
  simp only [true_and]
theorem u2_other (g : Nat → Nat → Int32) (p i : Nat) (v : Int32) {q : Nat} (h : ¬ q = p) : u2 g p i v q = g q := funext fun k => by
  rw [u2_eq, if_neg (fun e => h e.1)]
