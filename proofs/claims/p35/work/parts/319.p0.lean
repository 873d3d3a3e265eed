/-! what the law's own store holds at first; the searches asked (source: wip/p35/src/319.p0.txt, by expand3.py) -/
section ZP
variable {L : Nat} {xs : Nat → Int32}
theorem cG_0 : cG 0 0 0 10 20 (fun _ => 2) (fun _ => 0) 1 x0 x0 := by
  refine ⟨⟨rfl, by omega, rfl, by omega, rfl, by omega, rfl, by omega, rfl, by omega⟩, fun p hp => ⟨⟨rfl, show 2 ≤ 8 by omega, ?_, fun i hi => Or.inl rfl, fun i hi => ⟨0, by omega, rfl⟩⟩, Nat.le_refl 2, ⟨fun k hk => ⟨1, by omega, by omega, show (if p < 4 ∧ k < 8 then nI 1 else nI 0) = nI 1 from if_pos ⟨hp, hk⟩⟩, fun i f hi hf e => ?_, fun i j hi hj e1 e2 e3 => absurd rfl e2⟩, fun i hi => ⟨0, by omega, rfl⟩, fun i hi => zbl_0, fun k hk => ⟨0, by omega, rfl⟩⟩, fun p hp => ⟨⟨rfl, show 0 ≤ 6 by omega, fun r hr => ⟨r, hr, rfl⟩, fun k hk => ⟨zbl_0, zbl_0⟩⟩, fun r s hr hs e => (nI_eq (by omega) (by omega)).mp e, fun r hr => absurd hr (Nat.not_lt_zero r)⟩, ⟨fun i hi => Or.inl rfl, fun i hi => absurd hi (by omega), fun _ => 0, fun i hi => absurd hi (by omega), fun i j hij hj => absurd hj (by omega)⟩, fun q hq => absurd hq (by omega), fun c hc => rfl, fun c i a1 a2 hi => absurd hi (by omega), fun p r hp hr => absurd hr (Nat.not_lt_zero r)⟩
  · exact ⟨fun _ => 0, fun _ => show 0 < 8 by omega, fun k hk => Or.inl rfl⟩
  · exact absurd (show (-1 : Int32) = nI f from e).symm (nI_m1 (by omega))
def G00 : pG := (fun a => if 411 ≤ a ∧ a ≤ 414 then a - 410 else 0, fun _ _ => 0, fun _ => 0, fun _ _ => 0)
theorem vR_00 {a : Nat} {g : Nat → Nat} (h1 : 415 ≤ a) (h2 : a ≤ 476) (hz : zdk a = (40, 0)) : vR (E00 L xs) a 40 0 g := by
  refine ⟨⟨by omega, h2, fun _ => ?_⟩, ?_, fun j hj => absurd hj (Nat.not_lt_zero j)⟩
  · unfold zdl
    rw [if_neg (by omega), hz]
  · unfold eK
    rw [if_pos ⟨by omega, h2⟩, hz]
theorem G00_0 {a : Nat} (h : 415 ≤ a) : G00.1 a = 0 := if_neg (by omega)
theorem PS_0 (hL : L ≤ 260) : PS (E00 L xs) x0 G00 (fun _ _ => []) (fun _ => 2) (fun _ => 0) 0 L xs := by
  refine ⟨fun p f hp hf => ?_, fun p hp => ?_, fun p hp => ?_, ?_, ?_, rfl, hL, fun j hj => rfl⟩
  · have e : (E00 L xs).2.2.2 3 p f = 435 + 9 * p + f := rfl
    rw [e]
    exact ⟨vR_00 (by omega) (by omega) ((q_mb p hp).2.2 f hf).1, G00_0 (by omega), fun i hi => (by cases hi)⟩
  · have e : (E00 L xs).2.2.2 1 p 0 = 411 + p := rfl
    have hz := zdk_p (411 + p) (by omega) (by omega)
    rw [e]
    refine ⟨⟨⟨by omega, by show 411 + p ≤ 476 + 0; omega, fun _ => ?_⟩, ?_, fun j hj => ?_⟩, ?_, show 2 ≤ 8 by omega⟩
    · unfold zdl
      rw [if_pos (by omega)]
    · unfold eK
      rw [if_pos ⟨by omega, by omega⟩, hz]
    · show (if 411 + p = 0 then Value.int (xs j) else if 411 ≤ 411 + p ∧ 411 + p ≤ 414 ∧ j < 2 then .int (-1) else _) = .int (-1)
      rw [if_neg (by omega), if_pos ⟨by omega, by omega, hj⟩]
    · show (if 411 ≤ 411 + p ∧ 411 + p ≤ 414 then 411 + p - 410 else 0) = 1 + p
      rw [if_pos ⟨by omega, by omega⟩]
      omega
  · have e : (E00 L xs).2.2.2 2 p 0 = 428 + p := rfl
    rw [e]
    exact ⟨vR_00 (by omega) (by omega) (q_m12 p hp).1, G00_0 (by omega), show 0 ≤ 6 by omega, fun r hr => absurd hr (Nat.not_lt_zero r)⟩
  · exact ⟨vR_00 (a := 432) (by omega) (by omega) (by decide +kernel), G00_0 (a := 432) (by omega), by decide, fun i hi => absurd hi (Nat.not_lt_zero i)⟩
  · have e : (E00 L xs).2.2.2 5 0 0 = 476 := rfl
    refine ⟨0, fun _ => 0, by decide, ?_, G00_0 (a := 476) (by omega)⟩
    rw [e]
    refine ⟨⟨by decide, by show 476 ≤ 476 + 0; omega, fun _ => by decide +kernel⟩, ?_, fun j hj => absurd hj (Nat.not_lt_zero j)⟩
    unfold eK
    rw [if_pos (by decide)]
    decide +kernel
theorem pI_0 (hL : L ≤ 260) {d : Nat} (hd : d ≤ 200) : pI 0 0 x0 (yD x0 d) (E00 L xs) := by
  refine pI_mk cG_0 (PS_0 hL) (fun p f hp hf => ⟨fun i => ⟨fun h => (by cases h), fun h => absurd h.1 (Nat.not_lt_zero i)⟩, List.Pairwise.nil⟩) (by omega) (Nat.le_refl 0) ⟨fun p r hp hr => absurd hr (Nat.not_lt_zero r), fun i hi => absurd hi (Nat.not_lt_zero i), fun p i hp h1 h2 => rfl, fun p hp => ⟨rfl, rfl⟩⟩ (by omega) (by omega) ⟨0, fun _ _ => 0, rfl, ?_, fun p i hp hi => Or.inl ⟨rfl, rfl, rfl, rfl⟩⟩
  have : nb x0 = 0 := by
    unfold nb
    rw [List.length_eq_zero_iff, List.filter_eq_nil_iff]
    intro z hz
    show ¬ (!((-1 : Int32) == -1) && !((-1 : Int32) == nI 1)) = true
    decide
  rw [this]
  omega
/-- words that aren't there -/
def gS2 (c i : Nat) : Bool := gS c i && !(c == 0 && i == 4)
theorem gS2_all : (List.range 477).all (fun a => (List.range (zdl a)).all (fun j => if (zdc a j).1 = 1 then gS2 (zdc a j).2.1 (zdc a j).2.2.2 else true)) = true := by decide +kernel
theorem zmem_gh2 {x y y' : zSt} {E : zEx} (h : ∀ c p i, gS2 c i = true → y' c p i = y c p i) : zmem x y' E = zmem x y E := by
  refine zM_ext rfl rfl (fun a j => ?_)
  show (if zin a j then zlay x y' E a j else E.2.2.1 a j) = (if zin a j then zlay x y E a j else E.2.2.1 a j)
  by_cases hz : zin a j
  · rw [if_pos hz, if_pos hz]
    have e := List.all_eq_true.mp (List.all_eq_true.mp gS2_all a (List.mem_range.mpr (by have := hz.2.1; omega))) j (List.mem_range.mpr hz.2.2)
    obtain ⟨⟨t, c, p, i⟩, hq⟩ : ∃ q, zdc a j = q := ⟨_, rfl⟩
    rw [hq] at e
    by_cases h1 : t = 1
    · subst h1
      rw [zlay1 hq, zlay1 hq]
      exact congrArg Value.int (h c p i (by simpa using e))
    · unfold zlay
      rw [hq]
      show (if t = 0 then _ else if t = 1 then _ else if t = 2 then _ else if t = 3 then _ else if t = 4 then _ else _) = (if t = 0 then _ else if t = 1 then _ else if t = 2 then _ else if t = 3 then _ else if t = 4 then _ else _)
      rw [if_neg h1, if_neg h1]
  · rw [if_neg hz, if_neg hz]
theorem xQu_o {y : zSt} {qn j a c d p i : Nat} (h : ¬ d = 36 ∧ ¬ d = 37 ∧ ¬ d = 38 ∧ ¬ (d = 0 ∧ p = 0 ∧ i = 4)) : xQu y qn j a c d p i = y d p i := by
  unfold xQu su u2
  by_cases e : d = 0
  · subst e
    rw [if_pos rfl, if_neg (by omega)]
  · rw [if_neg e, if_neg h.2.2.1, if_neg h.2.1, if_neg h.1]
theorem xQu_f {y : zSt} {qn j a c d : Nat} (h : ¬ d = 36 ∧ ¬ d = 37 ∧ ¬ d = 38 ∧ ¬ d = 0) : xQu y qn j a c d = y d := funext fun p => funext fun i => xQu_o (by omega)
theorem quI {k s qn j a c : Nat} {x y : zSt} {E : zEx} (h : pI k s x y E) (h4 : x 0 0 4 = nI qn) (hq : qn < 20) (hv : sCq (nI qn) (nI j) (nI a) (nI c) = true) (hja : ¬ j = 4 ∧ ¬ j = 5) (hj : j < 100) : (∀ Q : zO → zM → Prop, zcl 64 [.ref 2, .int (nI j), .int (nI a), .int (nI c)] (zmem x y E) Q ↔ Q (.inl (some (.int (nI qn)))) (zmem (xQu x qn j a c) (xQu y qn j a c) E)) ∧ pI k s (xQu x qn j a c) (xQu y qn j a c) E ∧ xQu x qn j a c 0 0 4 = nI (qn + 1) := by
  obtain ⟨d, b, n, qn', t, w, l, fc, nr, G, bl, L, xs, hG, hP, hB, hy, ⟨hd, hn, ht, hb, hpx⟩, hX⟩ := h
  have e4 : qn' = qn := (nI_eq (by have := hG.1.2.2.2.1; omega) (by omega)).mp (hG.1.2.2.1.symm.trans h4)
  subst e4
  have g := g64 hG hv hq hja hj
  have eg : ∀ X, zmem X (xQu y qn' j a c) E = zmem X y E := fun X => zmem_gh2 (fun c' p i hc => xQu_o (by
    refine ⟨fun z => ?_, fun z => ?_, fun z => ?_, fun z => ?_⟩
    · subst z; revert hc; unfold gS2 gS; simp
    · subst z; revert hc; unfold gS2 gS; simp
    · subst z; revert hc; unfold gS2 gS; simp
    · obtain ⟨rfl, rfl, rfl⟩ := z
      exact absurd hc (by decide)))
  refine ⟨fun Q => ?_, ⟨d, b, n, qn' + 1, t, w, l, fc, nr, G, bl, L, xs, g, ?_, BL_eq (xQu_f (by omega)) (xQu_f (by omega)) hB, ?_, ⟨hd, hn, ht, hb, ?_⟩, iX_eq (x := x) (Nat.le_refl _) (xQu_o (by omega)) (fun c h1 h2 => xQu_f (by omega)) hX⟩, ?_⟩
  · rw [a64 hG hv hq, eg]
  · obtain ⟨p1, p2, p3, p4, p5⟩ := hP
    refine ⟨p1.mY (fun c _ _ => xQu_f (by omega)), p2.mY (xQu_f (by omega)), p3.mY (fun c _ _ => xQu_f (by omega)), ?_, p5⟩
    obtain ⟨a1, a2, a3, a4⟩ := p4
    refine ⟨a1, a2, a3, fun i hi => ⟨?_, (a4 i hi).2⟩⟩
    have e : rw7 (xQu y qn' j a c) i = rw7 y i := funext fun m => by
      unfold rw7
      rw [xQu_f (d := 30) (by omega), xQu_f (d := 31) (by omega), xQu_f (d := 32) (by omega), xQu_f (d := 33) (by omega), xQu_f (d := 34) (by omega), xQu_f (d := 35) (by omega), xQu_f (d := 39) (by omega)]
    rw [e]
    exact (a4 i hi).1
  · rw [xQu_o (by omega)]; exact hy
  · unfold pX
    rw [xQu_f (d := 18) (by omega), xQu_f (d := 19) (by omega), xQu_f (d := 32) (by omega), xQu_f (d := 24) (by omega), xQu_f (d := 14) (by omega)]
    exact hpx
  · unfold xQu su u2
    rw [if_pos rfl, if_pos ⟨rfl, rfl⟩]
end ZP
