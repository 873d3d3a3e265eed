/-! the class asked, whatever its scratch words hold (source: wip/p35/src/287.mc.txt, by expand3.py) -/
section ZM
variable {x x' y Y : zSt} {E : zEx} {n qn t w l b p : Nat} {fc nr : Nat → Nat}
theorem xDr_eq (h : zEq x' x) (v : Int32) : xDr x' p n v = xDr x p n v := by
  have e25 := h 25 (by omega)
  have e27 := h 27 (by omega)
  have e31 := h 31 (by omega)
  have e34 := h 34 (by omega)
  have e35 := h 35 (by omega)
  have h1 : xKe x' p = xKe x p := by unfold xKe; rw [e25]
  have h2 : xSe x' p = xSe x p := by unfold xSe; rw [e27]
  have h3 : xAd x' n v = xAd x n v := by
    funext a c
    unfold xAd sBs
    rw [e31, e34, e35]
  unfold xDr
  rw [h1, h2, h3]
theorem tR0_zEq {T : tT} (h : tR0 x n T x') : zEq x' x := fun c hc => h.1 c (by omega)
theorem m56 (h : cG n qn t w l fc nr b x y) (hz : zEq x' x) {m k : Nat} (hp : p < 4) (hm : m < n) (hk : k < 5) : ∀ (E : zEx) (Y : zSt) (Q : zO → zM → Prop), zcl 56 [.ref 2, .int (nI p), .int (nI m), .int (nI k)] (zmem x' Y E) Q ↔ Q (.inl (some (.int (sTc x p m (nI k))))) (zmem x' Y E) := fun E Y Q => by
  have e : sTc x' p m (nI k) = sTc x p m (nI k) := by
    unfold sTc
    rw [hz 24 (by omega), hz 25 (by omega), hz 26 (by omega), hz 27 (by omega), hz 28 (by omega)]
  rw [← e]
  exact a56 (cG_x h hz) hp hm hk
theorem m48 (h : cG n qn t w l fc nr b x y) (hz : zEq x' x) (hp : p < 4) : ∀ (E : zEx) (Y : zSt) (Q : zO → zM → Prop), zcl 48 [.ref 2, .int (nI p)] (zmem x' Y E) Q ↔ Q (.inl (some (.int (nI (fc p))))) (zmem x' Y E) := fun E Y Q => by
  have e : x' 13 p 1 = nI (fc p) := by rw [hz 13 (by omega)]; exact (h.2.1 p hp).1.1
  rw [← e]
  exact a48 hp
theorem m49 (h : cG n qn t w l fc nr b x y) (hz : zEq x' x) {f k : Nat} (hp : p < 4) (hf : f < fc p) (hk : k < 6) : ∀ (E : zEx) (Y : zSt) (Q : zO → zM → Prop), zcl 49 [.ref 2, .int (nI p), .int (nI f), .int (nI k)] (zmem x' Y E) Q ↔ Q (.inl (some (.int (sTf x p f n (nI k))))) (zmem x' Y E) := fun E Y Q => by
  have e : sTf x' p f n (nI k) = sTf x p f n (nI k) := by
    unfold sTf
    rw [hz 13 (by omega), hz 14 (by omega), hz 16 (by omega), hz 25 (by omega), hz 27 (by omega), hz 33 (by omega)]
  rw [← e]
  exact a49 (cG_x h hz) hp hf hk
theorem m60 (hz : zEq x' x) : ∀ (E : zEx) (Y : zSt) (Q : zO → zM → Prop), zcl 60 [.ref 2] (zmem x' Y E) Q ↔ Q (.inl (some (.int (x 0 0 9)))) (zmem x' Y E) := fun E Y Q => by
  rw [← hz 0 (by omega)]
  exact a60
theorem m63 (h : cG n qn t w l fc nr b x y) (hz : zEq x' x) {m k j : Nat} (hp : p < 4) (hm : m < n) (hk : ¬ x 25 p m = -1) (hk3 : k < 3) (hj : j < n) (e : (xDr x p n (nI w)).1 m = some j) (E : zEx) (Y : zSt) : ∃ x'', zEq x'' x ∧ ∀ Q : zO → zM → Prop, zcl 63 [.ref 2, .int (nI p), .int (nI m), .int (nI k)] (zmem x' Y E) Q ↔ Q (.inl (some (.int (if nI k = nI 0 then nI j else if nI k = nI 1 then nI ((xDr x p n (nI w)).2.1 j) else nI ((xDr x p n (nI w)).2.2.1 j))))) (zmem x'' Y E) := by
  obtain ⟨x'', h1, h2⟩ := a63 (Y := Y) (E := E) (cG_x h hz) hp hm (by rw [hz 25 (by omega)]; exact hk) hk3 hj (by rw [xDr_eq hz]; exact e)
  rw [xDr_eq hz] at h1 h2
  exact ⟨x'', zEq_trans (tR0_zEq h1) hz, h2⟩
theorem m63s (h : cG n qn t w l fc nr b x y) (hz : zEq x' x) {m : Nat} (hp : p < 4) (hm : m < n) (hk : ¬ x 25 p m = -1) : ∀ (E : zEx) (Y : zSt) (Q : zO → zM → Prop), zcl 63 [.ref 2, .int (nI p), .int (nI m), .int (nI 3)] (zmem x' Y E) Q ↔ Q (.inl (some (.int (nI (sSt (x 25 p) (x 34 0) 60 (x 34 0 m)))))) (zmem x' Y E) := fun E Y Q => by
  have := a63s (Y := Y) (E := E) (Q := Q) (cG_x h hz) hp hm (by rw [hz 25 (by omega)]; exact hk)
  rw [hz 25 (by omega), hz 34 (by omega)] at this
  exact this
theorem m52 (h : cG n qn t w l fc nr b x y) (hz : zEq x' x) {m k : Nat} {on : Bool} (hp : p < 4) (hm : m < n) (hk : ¬ x 25 p m = -1) (hk2 : k < 2) (hon : zbit (x 27 p m) (nI k) = on) : ∀ (E : zEx) (Y : zSt) (Q : zO → zM → Prop), zcl 52 [.ref 2, .int (nI p), .int (nI m), .int (nI k), .int (dI on)] (zmem x' Y E) Q ↔ Q (.inl (some (.int (dI on)))) (zmem x' Y E) := fun E Y Q =>
  a52a (cG_x h hz) hp hm (by rw [hz 25 (by omega)]; exact hk) hk2 (by rw [hz 27 (by omega)]; exact hon)
theorem m53 (h : cG n qn t w l fc nr b x y) (hz : zEq x' x) {m f : Nat} (hp : p < 4) (hm : m < n) (hf : f < fc p) (hs : x 25 p m = nI f) : ∀ (E : zEx) (Y : zSt) (Q : zO → zM → Prop), zcl 53 [.ref 2, .int (nI p), .int (nI m), .int (nI f)] (zmem x' Y E) Q ↔ Q (.inl (some (.int (x 26 p m)))) (zmem x' Y E) := fun E Y Q => by
  rw [← hz 26 (by omega)]
  exact a53a (cG_x h hz) hp hm hf (by rw [hz 25 (by omega)]; exact hs)
end ZM
/-- a row of truths -/
def vB (E : zEx) (a n : Nat) (g : Nat → Int32) : Prop := eY E a ∧ eK E a = (23, n) ∧ ∀ j, j < n → E.2.2.1 a j = .int (g j)
section ZV
variable {E : zEx} {x y : zSt}
theorem vB.ia {a n j : Nat} {g : Nat → Int32} (h : vB E a n g) (hj : j < n ∧ n < 2147483648) : zia (zmem x y E) 23 a (nI j) = True := eq_true (by
  unfold zia zix
  rw [eY_al h.1, zmem_k, h.2.1, nI_clamp (by omega), decide_eq_true rfl, decide_eq_true (nI_pos' (by omega)), decide_eq_true hj.1]
  rfl)
theorem vB.rd {a n j : Nat} {g : Nat → Int32} (h : vB E a n g) (hj : j < n) : zrd (zmem x y E) a j = .int (g j) := (zmem_ry h.1).trans (h.2.2 j hj)
theorem vB.puti {j a n : Nat} {v : Int32} {g : Nat → Int32} (h : vB E a n g) : vB (eP E a j (.int v)) a n (fun i => if i = j then v else g i) := ⟨h.1, h.2.1, fun i hi => by
  show (if a = a ∧ i = j then Value.int v else E.2.2.1 a i) = Value.int (if i = j then v else g i)
  by_cases e : i = j
  · rw [if_pos ⟨rfl, e⟩, if_pos e]
  · rw [if_neg (fun z => e z.2), if_neg e]; exact h.2.2 i hi⟩
theorem nwB (E : zEx) (N : Nat) : ∃ E1, eL E E1 ∧ E1.1 = E.1 + 1 ∧ vB E1 (476 + E.1 + 1) N (fun _ => 0) ∧ ∀ x y, znew (zmem x y E) (23, N) (fun _ => zdef 23) = zmem x y E1 :=
  ⟨eN E (23, N) (fun _ => .int 0), eL_new _ _ _, rfl, ⟨eN_ny _ _ _, eN_nk _ _ _, fun j hj => eN_nc _ _ _ j⟩, fun _ _ => zmem_new⟩
end ZV
