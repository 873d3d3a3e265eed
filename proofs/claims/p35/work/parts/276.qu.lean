/-! the row of those to whom a message goes (source: wip/p35/src/276.qu.txt, by expand3.py) -/
theorem iXb_24 {x : zSt} {p m B : Nat} {v : Int32} (h : iXb x B) (h25 : x 25 p m = -1) : iXb (su x 24 (u2 (x 24) p m v)) B := by
  obtain ⟨S, st, a, b, c⟩ := h
  refine ⟨S, st, a, b, fun q i hq hi => ?_⟩
  rcases c q i hq hi with z | ⟨z1, z2, z3⟩
  · exact Or.inl z
  · refine Or.inr ⟨z1, ?_, z3⟩
    show (if q = p ∧ i = m then v else x 24 q i) = nI 1
    rw [if_neg (fun e => z1 (by rw [e.1, e.2]; exact h25))]
    exact z2
theorem iXb_new {x : zSt} {p m f B : Nat} {v : Int32} (h : iXb x B) (hp : p < 4) (hm : m < 60) (hf : f < 8) (hB : B < 1000000) (h25 : x 25 p m = -1) : iXb (sLay (su (su x 24 (u2 (x 24) p m (nI 1))) 27 (u2 (x 27) p m v)) p m f) (B + 2) := by
  have h0 := iXb_24 (v := nI 1) h h25
  have key := (iXb_lay h0 hp hm hf hB (show (if p = p ∧ m = m then nI 1 else x 24 p m) = nI 1 from if_pos ⟨rfl, rfl⟩)).1
  obtain ⟨S, st, a, b, c⟩ := key
  refine ⟨S, st, a, b, fun q i hq hi => ?_⟩
  rcases c q i hq hi with z | z
  · by_cases e : q = p ∧ i = m
    · exfalso
      have := z.1
      rw [sL_25, if_pos e] at this
      exact nI_m1 (by omega) this
    · refine Or.inl ⟨z.1, z.2.1, ?_, z.2.2.2⟩
      have := z.2.2.1
      rw [sL_27] at this ⊢
      exact (if_neg e).trans this
  · exact Or.inr z
theorem iXb_K {y : zSt} {p m B : Nat} {J : zJ} (h : iXb y B) (hp : p < 4) (hm : m < 60) (hB : B < 1000000) (hJ : jOK 8 J) (h25 : y 25 p m = -1) : iXb (cKp y p m J) (B + 2) := by
  unfold cKp
  split
  · split
    · exact iXb_le (iXb_eq (x := su y 24 (u2 (y 24) p m (nI 1))) rfl (fun c h1 h2 => if_neg (by omega)) (iXb_24 h h25)) (by omega)
    · obtain ⟨f, hf, ef⟩ := hJ.2.1
      rw [ef, nI_clamp (by omega)]
      exact iXb_new h hp hm hf hB h25
  · exact iXb_le (iXb_24 h h25) (by omega)
/-- which words an arrival leaves -/
theorem cKp_o {y : zSt} {p m c : Nat} {J : zJ} (h : ¬ (c = 0 ∨ c = 1 ∨ c = 16 ∨ (24 ≤ c ∧ c ≤ 29))) : cKp y p m J c = y c := by
  unfold cKp
  split
  · split
    · rw [su_eq, if_neg (by omega), su_eq, if_neg (by omega)]
    · rw [sL_o (by omega), su_eq, if_neg (by omega), su_eq, if_neg (by omega)]
  · rw [su_eq, if_neg (by omega)]
theorem cKp_24 {y : zSt} {p m q i : Nat} {J : zJ} : cKp y p m J 24 q i = if q = p ∧ i = m then nI 1 else y 24 q i := by
  unfold cKp
  split
  · split <;> rfl
  · rfl
theorem cKp_25 {y : zSt} {p m q i : Nat} {J : zJ} (h : ¬ (q = p ∧ i = m)) : cKp y p m J 25 q i = y 25 q i := by
  unfold cKp
  split
  · split
    · rfl
    · rw [sL_25, if_neg h]; rfl
  · rfl
theorem cKp_q {y z : zSt} {p m c : Nat} {J : zJ} (h : ∀ c, ¬ c = 2 → ¬ c = 4 → y c = z c) (h2 : ¬ c = 2) (h4 : ¬ c = 4) : cKp y p m J c = cKp z p m J c := by
  have e : ∀ d g, ¬ d = 2 → ¬ d = 4 → ∀ c, ¬ c = 2 → ¬ c = 4 → ∀ y z : zSt, (∀ c, ¬ c = 2 → ¬ c = 4 → y c = z c) → su y d g c = su z d g c := fun d g _ _ c h2 h4 y z hh => by
    rw [su_eq, su_eq, hh c h2 h4]
  unfold cKp
  rw [h 13 (by omega) (by omega), h 25 (by omega) (by omega), h 33 (by omega) (by omega), h 24 (by omega) (by omega), h 1 (by omega) (by omega), h 30 (by omega) (by omega), h 27 (by omega) (by omega)]
  have h24 : ∀ c, ¬ c = 2 → ¬ c = 4 → su y 24 (u2 (z 24) p m (nI 1)) c = su z 24 (u2 (z 24) p m (nI 1)) c := fun c h2 h4 => e 24 _ (by omega) (by omega) c h2 h4 y z h
  split
  · split
    · exact e 1 _ (by omega) (by omega) c h2 h4 _ _ h24
    · have h27 : ∀ c, ¬ c = 2 → ¬ c = 4 → su (su y 24 (u2 (z 24) p m (nI 1))) 27 (u2 (z 27) p m J.2.2.1) c = su (su z 24 (u2 (z 24) p m (nI 1))) 27 (u2 (z 27) p m J.2.2.1) c := fun c h2 h4 => e 27 _ (by omega) (by omega) c h2 h4 _ _ h24
      have g := h27
      revert g
      generalize su (su y 24 (u2 (z 24) p m (nI 1))) 27 (u2 (z 27) p m J.2.2.1) = Y
      generalize su (su z 24 (u2 (z 24) p m (nI 1))) 27 (u2 (z 27) p m J.2.2.1) = Z
      intro g
      funext q i
      by_cases c0 : c = 0
      · subst c0; rw [sL_0, sL_0, g 0 (by omega) (by omega)]
      by_cases c16 : c = 16
      · subst c16; rw [sL_16, sL_16, g 16 (by omega) (by omega)]
      by_cases c25 : c = 25
      · subst c25; rw [sL_25, sL_25, g 25 (by omega) (by omega)]
      by_cases c26 : c = 26
      · subst c26; rw [sL_26, sL_26, g 26 (by omega) (by omega), g 16 (by omega) (by omega)]
      by_cases c28 : c = 28
      · subst c28; rw [sL_28, sL_28, g 28 (by omega) (by omega), g 0 (by omega) (by omega)]
      by_cases c29 : c = 29
      · subst c29; rw [sL_29, sL_29, g 29 (by omega) (by omega), g 0 (by omega) (by omega)]
      rw [sL_o (by omega), sL_o (by omega), g c h2 h4]
  · exact h24 c h2 h4
/-- as the other reference says it -/
theorem mKp_c {Y : zSt} {p m c : Nat} {J : zJ} (h2 : ¬ c = 2) (h4 : ¬ c = 4) : mKp (pM Y J) p m m c = cKp Y p m J c := by
  have e3 : pM Y J 2 0 3 = J.1 := rfl
  have e1 : pM Y J 2 0 1 = J.2.1 := rfl
  have e2 : pM Y J 2 0 2 = J.2.2.1 := rfl
  have : mKp (pM Y J) p m m = cKp (pM Y J) p m J := by
    unfold mKp cKp
    rw [e3, e1, e2]
  rw [this]
  exact cKp_q (fun c h2 h4 => pM_o Y J h2 h4) h2 h4
theorem fold_q {J : Nat → zJ} {m : Nat} : ∀ (l : List Nat) (y z : zSt), (∀ c, ¬ c = 2 → ¬ c = 4 → y c = z c) → ∀ c, ¬ c = 2 → ¬ c = 4 → (l.foldl (fun Y p => mKp (pM Y (J p)) p m m) y) c = (l.foldl (fun Y p => cKp Y p m (J p)) z) c
  | [], y, z, h => h
  | p :: l, y, z, h => by
    rw [List.foldl_cons, List.foldl_cons]
    exact fold_q l _ _ (fun c h2 h4 => (mKp_c h2 h4).trans (cKp_q h h2 h4))
section ZB
variable {E : zEx} {x y : zSt} {G : pG} {bl : Nat → Nat → List Nat} {fc nr : Nat → Nat} {n L p : Nat} {xs : Nat → Int32}
/-- a cell that isn't the store's changes -/
theorem PS.oth {a j : Nat} {v : Value} (r : PS E y G bl fc nr n L xs) (h5 : G.1 a = 5) (ha : ¬ a = 0) : PS (eP E a j v) y G bl fc nr n L xs := by
  have h0 : ∀ {b}, G.1 b = 0 → ¬ b = a := fun {b} h => tg_ne (G := G) (by omega)
  obtain ⟨r1, r2, r3, r4, r5, r6⟩ := r
  refine ⟨fun q g hq hg => ?_, fun q hq => ?_, fun q hq => ?_, ?_, ?_, r6.put ha⟩
  · obtain ⟨a', b, c⟩ := r1 q g hq hg
    exact ⟨a'.put (h0 b), b, fun i hi => ⟨(c i hi).1, (c i hi).2.1.put (tg_ne (G := G) (by have := (c i hi).2.2; omega)), (c i hi).2.2⟩⟩
  · obtain ⟨a', b, c⟩ := r2 q hq
    exact ⟨a'.put (tg_ne (G := G) (by omega)), b, c⟩
  · obtain ⟨a', b, c, d⟩ := r3 q hq
    exact ⟨a'.put (h0 b), b, c, fun r hr => ⟨(d r hr).1.put (h0 (d r hr).2), (d r hr).2⟩⟩
  · obtain ⟨a', b, c, d⟩ := r4
    exact ⟨a'.put (h0 b), b, c, fun r hr => ⟨(d r hr).1.put (h0 (d r hr).2), (d r hr).2⟩⟩
  · obtain ⟨m, g, a', b, c⟩ := r5
    exact ⟨m, g, a', b.put (h0 c), c⟩
theorem cG_K {qn t w l b m : Nat} {J : zJ} (hb : b < 900000000) (hp : p < 4) (hm : m < 60) (h : cG (m + 1) qn t w l fc nr b x (mBu m y)) (hJ : jOK (fc p) J) (h25 : y 25 p m = -1) : cG (m + 1) qn t w l fc nr (b + 1) (sArr x p m (m + 1) J) (mBu m (cKp y p m J)) := by
  have h1 : cG (m + 1) qn t w l fc nr b x (mBu m (pM y J)) := cG_y h (fun c h2 h4 => by
    by_cases c0 : c = 0
    · subst c0; rfl
    · rw [mBu_o _ _ c0, mBu_o _ _ c0, pM_o _ _ h2 h4])
  have e25 := (cG_25 h).1
  rw [mBu_o _ _ (by omega)] at e25
  have h2 := cG_arr (J := J) hb hp hm h1 hJ (by rw [← e25]; exact h25) rfl rfl rfl
  exact cG_y h2 (fun c h2 h4 => by
    by_cases c0 : c = 0
    · subst c0
      unfold mBu
      rw [su_eq, if_pos rfl, su_eq, if_pos rfl, mKp_c (by omega) (by omega)]
    · rw [mBu_o _ _ c0, mBu_o _ _ c0, mKp_c h2 h4])
end ZB
