/-! the clock set, both ways (source: wip/p35/src/231.ta.txt, by expand2.py) -/
theorem nI_subI {t a : Nat} (ht : t < 1000000000) (ha : a < 1000000000) : (nI t - nI a).toInt = (t : Int) - a := by
  rw [Int32.toInt_sub, nI_toInt (by omega), nI_toInt (by omega)]
  refine Int.bmod_eq_of_le ?_ ?_ <;> omega
theorem zsub_lt {t a l : Nat} (ht : t < 100000000) (ha : a < 100000000) (hl : l < 100000000) : (nI t - nI a < nI l) ↔ (nI t < nI a + nI l) := by
  rw [nI_add, nI_ltI (by omega) (by omega), Int32.lt_iff_toInt_lt, nI_subI (by omega) (by omega), nI_toInt (by omega)]
  omega
theorem zfo_clr {h : zSt → Nat → Bool} {p : Nat} {y : zSt} {g : Int32} : ∀ k, zfo (fun i (s : zSt × Int32) => if h s.1 i = true then (sVa s.1 p i, s.2 + nI 1) else s) k (y, g) = ((sClr h p k y).1, g + (sClr h p k y).2)
  | 0 => by
    show (y, g) = (y, g + nI 0)
    rw [show g + nI 0 = g from Int32.add_zero g]
  | k + 1 => by
    have e : sClr h p (k + 1) y = if h (sClr h p k y).1 k = true then (sVa (sClr h p k y).1 p k, (sClr h p k y).2 + nI 1) else sClr h p k y := rfl
    have e2 : zfo (fun i (s : zSt × Int32) => if h s.1 i = true then (sVa s.1 p i, s.2 + nI 1) else s) (k + 1) (y, g) = (fun s : zSt × Int32 => if h s.1 k = true then (sVa s.1 p k, s.2 + nI 1) else s) (zfo (fun i (s : zSt × Int32) => if h s.1 i = true then (sVa s.1 p i, s.2 + nI 1) else s) k (y, g)) := rfl
    rw [e2, zfo_clr k, e]
    dsimp only
    split
    · rw [Int32.add_assoc]
    · rfl
theorem mAb_I {p n : Nat} {ck : Int32} (hn60 : n ≤ 60) {I : zSt → Prop} (hI : ∀ y i, i < n → I y → I (sLay y p i 1)) {y : zSt} (h : zWk y p n ck) (hy : I y) : ∀ k, k ≤ 8 → I (mAb p ck k y)
  | 0, _ => hy
  | k + 1, hk => by
    have ih := mAb_I hn60 hI h hy k (by omega)
    have ihW := mAb_W hn60 h k (by omega)
    show I (if k = 1 then mAb p ck k y else (sWk (mAgS p ck) p (nI k) 60 (mAb p ck k y) (sNm (mAb p ck k y) p (nI k) (nI 0))).1)
    split
    · exact ih
    · have key : ∀ (t : Nat) (y : zSt) (v : Int32), zWk y p n ck → I y → I (sWk (mAgS p ck) p (nI k) t y (sNm y p (nI k) v)).1 := by
        intro t
        induction t with
        | zero => intro y v _ h; exact h
        | succ t iht =>
          intro y v hW h
          rcases sNx_spec (y 25 p) (y 26 p) (nI k) v 60 (Nat.le_refl 60) with ⟨e, -⟩ | ⟨j, hj, e, a1, a2, a3⟩
          · rw [show sNm y p (nI k) v = -1 from e]
            unfold sWk
            rw [if_pos rfl]
            exact h
          · have hjn : j < n := by
              by_cases hjn : j < n
              · exact hjn
              · rw [hW.1.2 j (by omega) hj] at a1
                exact absurd a1.symm (nI_m1 (by omega))
            rw [show sNm y p (nI k) v = nI j from e, sWk_st hj]
            refine iht _ _ ?_ ?_
            · unfold mAgS
              split
              · exact zWk_lay hW hjn (by omega)
              · exact hW
            · unfold mAgS
              split
              · exact hI y j hjn h
              · exact h
      exact key 60 _ (nI 0) ihW ih
def kY (n : Nat) (fc : Nat → Nat) (ck : Int32) (y : zSt) : Prop := y 0 0 2 = nI n ∧ y 0 0 6 = ck ∧ y 2 0 0 = nI 0 ∧ ∀ q, q < 4 → zShs y q ∧ y 13 q 1 = nI (fc q) ∧ ∀ i, n ≤ i → i < 60 → y 25 q i = -1
theorem kY_va {n : Nat} {fc : Nat → Nat} {ck : Int32} {y : zSt} {p i : Nat} (h : kY n fc ck y) : kY n fc ck (sVa y p i) := by
  refine ⟨h.1, h.2.1, h.2.2.1, fun q hq => ⟨fun j hj => ?_, (h.2.2.2 q hq).2.1, fun j h1 h2 => ?_⟩⟩
  · rw [sVa_eq]
    split
    · exact Or.inl rfl
    · exact (h.2.2.2 q hq).1 j hj
  · rw [sVa_eq]
    split
    · rfl
    · exact (h.2.2.2 q hq).2.2 j h1 h2
theorem kY_lay {n : Nat} {fc : Nat → Nat} {ck : Int32} {y : zSt} {p i : Nat} (hi : i < n) (h : kY n fc ck y) : kY n fc ck (sLay y p i 1) := by
  refine ⟨h.1, h.2.1, h.2.2.1, fun q hq => ⟨fun j hj => ?_, (h.2.2.2 q hq).2.1, fun j h1 h2 => ?_⟩⟩
  · rw [(sLay_c y p i 1).1, u2_eq]
    split
    · exact Or.inr ⟨1, by omega, rfl⟩
    · exact (h.2.2.2 q hq).1 j hj
  · rw [(sLay_c y p i 1).1, u2_eq, if_neg (by omega)]
    exact (h.2.2.2 q hq).2.2 j h1 h2
theorem kY_clr {n : Nat} {fc : Nat → Nat} {ck : Int32} {h : zSt → Nat → Bool} {y : zSt} {p : Nat} (hv : kY n fc ck y) : ∀ k, kY n fc ck (sClr h p k y).1
  | 0 => hv
  | k + 1 => by
    have e : sClr h p (k + 1) y = if h (sClr h p k y).1 k = true then (sVa (sClr h p k y).1 p k, (sClr h p k y).2 + nI 1) else sClr h p k y := rfl
    rw [e]
    split
    · exact kY_va (kY_clr hv k)
    · exact kY_clr hv k
theorem kY_W {n : Nat} {fc : Nat → Nat} {ck : Int32} {y : zSt} {p : Nat} (hp : p < 4) (h : kY n fc ck y) : zWk y p n ck := ⟨⟨h.1, (h.2.2.2 p hp).2.2⟩, (h.2.2.2 p hp).1, h.2.1⟩
abbrev zO3 : Type := Option Value × Option Value × Option Value
section ZC
variable {x y : zSt} {E : zEx} {Q : zO → zM → Prop}
end ZC
theorem mCp_K {n : Nat} {fc : Nat → Nat} {ck : Int32} {y : zSt} {g : Int32} (h60 : n ≤ 60) (hc8 : ∀ p, p < 4 → fc p ≤ 8) (hk : kY n fc ck y) : ∀ p, p ≤ 4 → kY n fc ck (zfo (mCp n fc ck) p (y, g)).1
  | 0, _ => hk
  | p + 1, hp => by
    have ih := mCp_K (g := g) h60 hc8 hk p (by omega)
    have e2 : zfo (mCp n fc ck) (p + 1) (y, g) = mCp n fc ck p (zfo (mCp n fc ck) p (y, g)) := rfl
    rw [e2]
    have hK1 := kY_clr (h := fun y i => mLi y p i ck) (p := p) ih n
    exact mAb_I h60 (fun y i hi h => kY_lay hi h) (kY_W (by omega) hK1) hK1 (fc p) (hc8 p (by omega))
theorem mCp_th {n : Nat} {fc : Nat → Nat} {ck : Int32} {y : zSt} {g : Int32} (h60 : n ≤ 60) (hc8 : ∀ p, p < 4 → fc p ≤ 8) (hk : kY n fc ck y) : ∀ p, p ≤ 4 → (zfo (mCp n fc ck) p (y, g)).1 2 0 0 = nI 0 := fun p hp => (mCp_K (g := g) h60 hc8 hk p hp).2.2.1
/-- what holds while the clock is set -/
def cG (n qn t w l : Nat) (fc nr : Nat → Nat) (b : Nat) (x y : zSt) : Prop := iSc x n qn t w l ∧ (∀ q, q < 4 → iBx x q n (fc q) b) ∧ (∀ q, q < 4 → iRu x q (fc q) (nr q)) ∧ iLe x n t ∧ zQs x qn ∧ iRl x y n nr
theorem cG_le {n qn t w l : Nat} {fc nr : Nat → Nat} {b b' : Nat} {x y : zSt} (h : cG n qn t w l fc nr b x y) (hb : b ≤ b') : cG n qn t w l fc nr b' x y := by
  obtain ⟨a1, a2, a3⟩ := h
  exact ⟨a1, fun q hq => by
    obtain ⟨z1, z2, z3, z4⟩ := a2 q hq
    exact ⟨z1, z2, iNum_le z3 hb, z4⟩, a3⟩
theorem cG_va {n qn t w l : Nat} {fc nr : Nat → Nat} {b p i : Nat} {x y : zSt} (h : cG n qn t w l fc nr b x y) : cG n qn t w l fc nr b (sVa x p i) (sVa y p i) := by
  obtain ⟨a1, a2, a3, a4, a5, a6⟩ := h
  refine ⟨a1, fun q hq => ?_, a3, a4, a5, iRl_va a6⟩
  by_cases e : q = p
  · subst e; exact iBx_va (a2 q hq)
  · exact iBx_va_o e (a2 q hq)
theorem cG_lay {n qn t w l : Nat} {fc nr : Nat → Nat} {b p i k : Nat} {x y : zSt} (hb : b < 950000000) (hp : p < 4) (hi : i < n) (hk : k < fc p) (h : cG n qn t w l fc nr b x y) : cG n qn t w l fc nr (b + 1) (sLay x p i k) (sLay y p i k) := by
  obtain ⟨a1, a2, a3, a4, a5, a6⟩ := h
  refine ⟨iSc_lay a1, fun q hq => ?_, fun q hq => iRu_lay (a3 q hq), iLe_lay a4, a5, iRl_lay a6⟩
  by_cases hqp : q = p
  · subst hqp
    exact iBx_lay (b := b) (by omega) hi a1.2.1 hk a1.2.2.2.2.1 a1.2.2.2.2.2.1 (a2 q hq)
  · obtain ⟨z1, z2, z3, z4⟩ := iBx_lay_o (i := i) (k := k) hqp (a2 q hq)
    exact ⟨z1, z2, iNum_le z3 (by omega), z4⟩
theorem cG_li {n qn t w l : Nat} {fc nr : Nat → Nat} {b p i now : Nat} {x y : zSt} (hp : p < 4) (hi : i < 60) (hnow : now ≤ 9999) (h : cG n qn t w l fc nr b x y) : sLi x p i (nI now) = mLi y p i (nI now) := by
  obtain ⟨a1, a2, a3, a4, a5, a6⟩ := h
  obtain ⟨a, ha, ea⟩ := (a2 p hp).2.2.2.1 i hi
  obtain ⟨hn, h60, hq, h20, ht, ht9, hw, hw50, hl, hl100⟩ := a1
  unfold sLi mLi
  rw [iRl_sh a6 (iSh_b (c := 25) (by omega) (by omega)), iRl_sh a6 (iSh_b (c := 29) (by omega) (by omega)), iRl_sh a6 iSh_0, ea, hl]
  congr 2
  exact decide_eq_decide.mpr (zsub_lt (by omega) (by omega) (by omega))
theorem cG_ag {n qn t w l : Nat} {fc nr : Nat → Nat} {b p i now : Nat} {x y : zSt} (hp : p < 4) (hi : i < 60) (hnow : now ≤ 9999) (h : cG n qn t w l fc nr b x y) : sAg x p i (nI now) = mAg y p i (nI now) := by
  obtain ⟨a1, a2, a3, a4, a5, a6⟩ := h
  unfold sAg mAg
  rw [iRl_sh a6 (iSh_b (c := 25) (by omega) (by omega)), iRl_sh a6 (iSh_b (c := 27) (by omega) (by omega)), iRl_sh a6 (iSh_a (c := 15) (by omega) (by omega))]
  obtain ⟨⟨b1, b2, b3, b4, b5⟩, b6, b7, d1, d2, d3⟩ := a2 p hp
  by_cases h0 : x 25 p i = -1
  · rw [if_pos h0, if_pos h0]
  rw [if_neg h0, if_neg h0]
  by_cases h1 : x 25 p i = nI 1
  · rw [if_pos h1, if_pos h1]
  rw [if_neg h1, if_neg h1]
  obtain ⟨mk, hmk, em⟩ := b5 i hi
  have hz := zmk_eq hmk (a := nI 1) (Or.inr rfl)
  rw [if_neg (by decide)] at hz
  rw [em]
  obtain ⟨hin, f, hf, ef⟩ : i < n ∧ ∃ f, f < fc p ∧ x 25 p i = nI f := (b4 i hi).resolve_left h0
  by_cases hs : zbit (nI mk) (nI 1) = true
  · rw [if_pos hs, if_neg (fun q => hz.mp q hs)]
  · rw [if_neg hs, if_pos (hz.mpr hs)]
    obtain ⟨tm, htm, -⟩ := a4.2.2
    obtain ⟨e35, htt⟩ := htm i hin
    obtain ⟨ag, hag, eag⟩ := d3 f (by omega)
    have ht9 := a1.2.2.2.2.2.1
    rw [a6.2.1 35 i (by omega) (by omega) hin, ef, nI_clamp (by omega), eag, e35]
    congr 2
    exact decide_eq_decide.mpr (zsub_lt (by omega) (by omega) (by omega))
theorem cG_clr {n qn t w l : Nat} {fc nr : Nat → Nat} {b p : Nat} {x y : zSt} (hp : p < 4) (h : cG n qn t w l fc nr b x y) : ∀ k, k ≤ n → cG n qn t w l fc nr b (sClr (fun x i => sLi x p i (x 0 0 6)) p k x).1 (sClr (fun y i => mLi y p i (nI t)) p k y).1 ∧ (sClr (fun x i => sLi x p i (x 0 0 6)) p k x).2 = (sClr (fun y i => mLi y p i (nI t)) p k y).2
  | 0, _ => ⟨h, rfl⟩
  | k + 1, hk => by
    obtain ⟨ih, ih2⟩ := cG_clr hp h k (by omega)
    have e1 : sClr (fun x i => sLi x p i (x 0 0 6)) p (k + 1) x = if sLi (sClr (fun x i => sLi x p i (x 0 0 6)) p k x).1 p k ((sClr (fun x i => sLi x p i (x 0 0 6)) p k x).1 0 0 6) = true then (sVa (sClr (fun x i => sLi x p i (x 0 0 6)) p k x).1 p k, (sClr (fun x i => sLi x p i (x 0 0 6)) p k x).2 + nI 1) else sClr (fun x i => sLi x p i (x 0 0 6)) p k x := rfl
    have e2 : sClr (fun y i => mLi y p i (nI t)) p (k + 1) y = if mLi (sClr (fun y i => mLi y p i (nI t)) p k y).1 p k (nI t) = true then (sVa (sClr (fun y i => mLi y p i (nI t)) p k y).1 p k, (sClr (fun y i => mLi y p i (nI t)) p k y).2 + nI 1) else sClr (fun y i => mLi y p i (nI t)) p k y := rfl
    have hn := ih.1.2.1
    have hck := ih.1.2.2.2.2.1
    have ht9 := ih.1.2.2.2.2.2.1
    rw [e1, e2, hck, cG_li (i := k) hp (by omega) ht9 ih]
    split
    · exact ⟨cG_va ih, by rw [ih2]⟩
    · exact ⟨ih, ih2⟩
theorem sWk_id {step : zSt → Nat → zSt} {p : Nat} {f : Int32} {x : zSt} (hs : ∀ i, i < 60 → x 25 p i = f → step x i = x) : ∀ (k : Nat) (m : Int32), (m = -1 ∨ ∃ i, i < 60 ∧ m = nI i ∧ x 25 p i = f) → (sWk step p f k x m).1 = x := by
  intro k
  induction k with
  | zero => intro m _; rfl
  | succ k ih =>
    intro m hm
    rcases hm with e | ⟨i, hi, rfl, h⟩
    · unfold sWk; rw [if_pos e]
    · rw [sWk_st hi]
      dsimp only
      rw [hs i hi h]
      exact ih _ (sNm_ok x p f _)
theorem cG_ab {n qn t w l : Nat} {fc nr : Nat → Nat} {b p : Nat} {x y : zSt} (hb : b < 900000000) (hp : p < 4) (h : cG n qn t w l fc nr b x y) : ∀ k, k ≤ fc p → cG n qn t w l fc nr (b + 60 * k) (sAb p k x) (mAb p (nI t) k y)
  | 0, _ => h
  | k + 1, hk => by
    have ih := cG_ab hb hp h k (by omega)
    have hfc := (ih.2.1 p hp).1.2.1
    have e1 : sAb p (k + 1) x = (sWk (sAgS p (sAb p k x 0 0 6)) p (nI k) 60 (sAb p k x) (sNm (sAb p k x) p (nI k) (nI 0))).1 := rfl
    have e2 : mAb p (nI t) (k + 1) y = if k = 1 then mAb p (nI t) k y else (sWk (mAgS p (nI t)) p (nI k) 60 (mAb p (nI t) k y) (sNm (mAb p (nI t) k y) p (nI k) (nI 0))).1 := rfl
    rw [e1, e2, ih.1.2.2.2.2.1]
    by_cases h1 : k = 1
    · subst h1
      rw [if_pos rfl, sWk_id (fun i hi e => by
        unfold sAgS sAg
        rw [e, if_neg (nI_m1 (by omega)), if_pos rfl]
        rfl) 60 _ (sNm_ok _ p (nI 1) (nI 0))]
      exact cG_le ih (by omega)
    · rw [if_neg h1]
      obtain ⟨hG, -⟩ := sWk_relK (K := 60) (stepx := sAgS p (nI t)) (stepy := mAgS p (nI t)) (p := p) (f := nI k) (G := fun j x y => cG n qn t w l fc nr (b + 60 * k + j) x y)
        (fun j x y hg => ⟨iRl_sh hg.2.2.2.2.2 (iSh_b (by omega) (by omega)), iRl_sh hg.2.2.2.2.2 (iSh_b (by omega) (by omega))⟩)
        (fun j x y i hj hi e hg => by
          have hin : i < n := by
            rcases (hg.2.1 p hp).1.2.2.2.1 i hi with e' | ⟨h, -⟩
            · rw [e] at e'; exact absurd e' (nI_m1 (by omega))
            · exact h
          have hag := cG_ag (i := i) hp hi hg.1.2.2.2.2.2.1 hg
          unfold sAgS mAgS
          rw [hag]
          split
          · exact cG_lay (b := b + 60 * k + j) (by omega) hp hin (by have := (hg.2.1 p hp).2.1; omega) hg
          · exact cG_le hg (by omega))
        (fun j x y hj hg => cG_le hg (by omega)) 60 0 (sAb p k x) (mAb p (nI t) k y) (sNm (sAb p k x) p (nI k) (nI 0)) (Nat.le_refl 60) (sNm_ok _ p (nI k) (nI 0)) ih
      have hnm : sNm (mAb p (nI t) k y) p (nI k) (nI 0) = sNm (sAb p k x) p (nI k) (nI 0) := by
        unfold sNm
        rw [iRl_sh ih.2.2.2.2.2 (iSh_b (c := 25) (by omega) (by omega)), iRl_sh ih.2.2.2.2.2 (iSh_b (c := 26) (by omega) (by omega))]
      rw [hnm]
      exact cG_le hG (by omega)
theorem cG_cp {n qn t w l : Nat} {fc nr : Nat → Nat} {b : Nat} {x y : zSt} {g : Int32} (hb : b < 800000000) (h : cG n qn t w l fc nr b x y) : ∀ p, p ≤ 4 → cG n qn t w l fc nr (b + 480 * p) (zfo (sCp n fc) p (x, g)).1 (zfo (mCp n fc (nI t)) p (y, g)).1 ∧ (zfo (sCp n fc) p (x, g)).2 = (zfo (mCp n fc (nI t)) p (y, g)).2
  | 0, _ => ⟨h, rfl⟩
  | p + 1, hp => by
    obtain ⟨ih, ih2⟩ := cG_cp (g := g) hb h p (by omega)
    have e1 : zfo (sCp n fc) (p + 1) (x, g) = sCp n fc p (zfo (sCp n fc) p (x, g)) := rfl
    have e2 : zfo (mCp n fc (nI t)) (p + 1) (y, g) = mCp n fc (nI t) p (zfo (mCp n fc (nI t)) p (y, g)) := rfl
    rw [e1, e2]
    generalize zfo (sCp n fc) p (x, g) = s at ih ih2
    generalize zfo (mCp n fc (nI t)) p (y, g) = s' at ih ih2
    obtain ⟨c1, c2⟩ := cG_clr (p := p) (by omega) ih n (Nat.le_refl n)
    have hfc := (c1.2.1 p (by omega)).1.2.1
    have c3 := cG_ab (p := p) (by omega) (by omega) c1 (fc p) (Nat.le_refl _)
    unfold sCp mCp
    dsimp only
    refine ⟨cG_le c3 (by omega), ?_⟩
    rw [c2, ih2]
section ZT
variable {x y : zSt} {E : zEx} {b : Nat}
end ZT
