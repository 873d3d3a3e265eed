/-! walks by number as walks along the boxes' lists (source: wip/p35/src/269.wl.txt, by expand3.py) -/
theorem sNm_list {x : zSt} {p f : Nat} {v : Int32} {l : List Nat} (hl : ∀ i, i < 60 → ((x 25 p i = nI f ∧ v < x 26 p i) ↔ i ∈ l)) (h60 : ∀ i, i ∈ l → i < 60) (hs : List.Pairwise (fun i j => x 26 p i < x 26 p j) l) : sNm x p (nI f) v = match l with | [] => -1 | a :: _ => nI a := by
  unfold sNm
  cases l with
  | nil =>
    rcases sNx_spec (x 25 p) (x 26 p) (nI f) v 60 (Nat.le_refl _) with h | ⟨j, h1, h2, h3, h4, h5⟩
    · exact h.1
    · cases (hl j h1).mp ⟨h3, h4⟩
  | cons a t =>
    have ha := (hl a (h60 a (List.mem_cons.mpr (Or.inl rfl)))).mpr (List.mem_cons.mpr (Or.inl rfl))
    rcases sNx_spec (x 25 p) (x 26 p) (nI f) v 60 (Nat.le_refl _) with h | ⟨j, h1, h2, h3, h4, h5⟩
    · exact absurd ha.2 (h.2 a (h60 a (List.mem_cons.mpr (Or.inl rfl))) ha.1)
    · show _ = nI a
      rw [h2]
      rcases List.mem_cons.mp ((hl j h1).mp ⟨h3, h4⟩) with e | e
      · rw [e]
      · exact absurd ((List.pairwise_cons.mp hs).1 j e) (h5 a (h60 a (List.mem_cons.mpr (Or.inl rfl))) ha.1 ha.2)
theorem sWk_list {step : zSt → Nat → zSt} {p f : Nat} (hf : ¬ f = 1) (hf8 : f < 8) (hst : ∀ x i, step x i = x ∨ step x i = sLay x p i 1) : ∀ (l : List Nat) (K : Nat) (x : zSt) (v : Int32), l.length < K → (∀ i, i < 60 → ((x 25 p i = nI f ∧ v < x 26 p i) ↔ i ∈ l)) → (∀ i, i ∈ l → i < 60) → List.Pairwise (fun i j => x 26 p i < x 26 p j) l → sWk step p (nI f) K x (sNm x p (nI f) v) = (l.foldl step x, l.length)
  | [], K, x, v, hK, hl, h60, hs => by
    rw [sNm_list hl h60 hs]
    cases K with
    | zero => rfl
    | succ K =>
      show (if (-1 : Int32) = -1 then (x, 0) else _) = (x, 0)
      rw [if_pos rfl]
  | a :: t, 0, x, v, hK, hl, h60, hs => absurd hK (Nat.not_lt_zero _)
  | a :: t, K + 1, x, v, hK, hl, h60, hs => by
    have ha60 := h60 a (List.mem_cons.mpr (Or.inl rfl))
    have ha := (hl a ha60).mpr (List.mem_cons.mpr (Or.inl rfl))
    obtain ⟨hs1, hs2⟩ := List.pairwise_cons.mp hs
    rw [sNm_list hl h60 hs]
    show sWk step p (nI f) (K + 1) x (nI a) = _
    rw [sWk_st ha60]
    have hnat : ¬ a ∈ t := fun z => Int32.lt_irrefl (hs1 a z)
    have hw : ∀ i, ¬ i = a → step x a 25 p i = x 25 p i ∧ step x a 26 p i = x 26 p i := fun i hi => by
      rcases hst x a with e | e <;> rw [e]
      · exact ⟨rfl, rfl⟩
      · rw [sL_25, sL_26, if_neg (fun z => hi z.2), if_neg (fun z => hi z.2)]
        exact ⟨rfl, rfl⟩
    have hr := sWk_list hf hf8 hst t K (step x a) (x 26 p a) (by have : (a :: t).length = t.length + 1 := rfl; omega) (fun i hi => by
      by_cases e : i = a
      · subst e
        refine ⟨fun z => ?_, fun z => absurd z hnat⟩
        rcases hst x i with e | e <;> rw [e] at z
        · exact absurd z.2 Int32.lt_irrefl
        · rw [sL_25, if_pos ⟨rfl, rfl⟩] at z
          exact absurd ((nI_eq (by omega) (by omega)).mp z.1).symm hf
      · rw [(hw i e).1, (hw i e).2]
        refine ⟨fun z => ?_, fun z => ?_⟩
        · exact (List.mem_cons.mp ((hl i hi).mp ⟨z.1, Int32.lt_trans ha.2 z.2⟩)).resolve_left e
        · exact ⟨((hl i hi).mpr (List.mem_cons.mpr (Or.inr z))).1, hs1 i z⟩) (fun i hi => h60 i (List.mem_cons.mpr (Or.inr hi))) (hs2.imp_of_mem (fun {b c} hb hc h => by
          rw [(hw b (fun z => hnat (z ▸ hb))).2, (hw c (fun z => hnat (z ▸ hc))).2]
          exact h))
    rw [hr]
    rfl
section ZB
variable {E : zEx} {x y : zSt} {G : pG} {bl : Nat → Nat → List Nat} {fc nr : Nat → Nat} {n L p : Nat} {xs : Nat → Int32}
/-- the list of a folder, as a walk sees it -/
theorem BL.walk {qn t w l b : Nat} (h : cG n qn t w l fc nr b x y) (hB : BL bl n y) (hb : b < 1000000000) (hp : p < 4) {f : Nat} (hf : f < 8) : (∀ i, i < 60 → ((x 25 p i = nI f ∧ nI 0 < x 26 p i) ↔ i ∈ bl p f)) ∧ (∀ i, i ∈ bl p f → i < 60) ∧ List.Pairwise (fun i j => x 26 p i < x 26 p j) (bl p f) ∧ ∀ i, i ∈ bl p f → x 25 p i = nI f := by
  obtain ⟨e25, e26, e16, e0, -⟩ := cG_25 h
  have h60 := h.1.2.1
  rw [← e25, ← e26]
  refine ⟨fun i hi => ?_, fun i hi => ?_, (hB p f hp hf).2, fun i hi => (((hB p f hp hf).1 i).mp hi).2⟩
  · rw [(hB p f hp hf).1 i]
    refine ⟨fun z => ⟨?_, z.1⟩, fun z => ⟨z.2, ?_⟩⟩
    · rcases (h.2.1 p hp).1.2.2.2.1 i hi with e | e
      · rw [e25, e] at z
        exact absurd z.1.symm (nI_m1 (by omega))
      · exact e.1
    · obtain ⟨u, v, g1, g2, g3, g4, g5⟩ := (h.2.1 p hp).2.2.1.2.1 i f hi hf (by rw [← e25]; exact z.2)
      rw [e26, g1]
      exact nI_lt (by omega) (by omega)
  · have := (((hB p f hp hf).1 i).mp hi).1
    omega
end ZB
