/-! the law looks at folders: the k-th copy, copies since (source: wip/p35/src/292.at.txt, by expand3.py) -/
section ZL
variable {x x' y : zSt} {n qn t w l b : Nat} {fc nr : Nat → Nat}
theorem at_list {p f : Nat} : ∀ (k : Nat) (l : List Nat) (v : Int32), k < l.length → (∀ i, i < 60 → ((x 25 p i = nI f ∧ v < x 26 p i) ↔ i ∈ l)) → (∀ i, i ∈ l → i < 60) → List.Pairwise (fun i j => x 26 p i < x 26 p j) l → sAt (x 25 p) (x 26 p) (nI f) k (sNm x p (nI f) v) = nI (l.getD k 0)
  | _, [], _, hk, _, _, _ => absurd hk (Nat.not_lt_zero _)
  | 0, a :: t, v, hk, hl, h60, hs => by
    rw [sNm_list hl h60 hs]
    rfl
  | k + 1, a :: t, v, hk, hl, h60, hs => by
    have ha60 := h60 a (List.mem_cons.mpr (Or.inl rfl))
    obtain ⟨hs1, hs2⟩ := List.pairwise_cons.mp hs
    have ha := (hl a ha60).mpr (List.mem_cons.mpr (Or.inl rfl))
    have hnat : ¬ a ∈ t := fun z => Int32.lt_irrefl (hs1 a z)
    have ih := at_list k t (x 26 p a) (Nat.lt_of_succ_lt_succ hk) (fun i hi => by
      by_cases e : i = a
      · subst e
        exact ⟨fun z => absurd z.2 Int32.lt_irrefl, fun z => absurd z hnat⟩
      · refine ⟨fun z => ?_, fun z => ⟨((hl i hi).mpr (List.mem_cons.mpr (Or.inr z))).1, hs1 i z⟩⟩
        exact (List.mem_cons.mp ((hl i hi).mp ⟨z.1, Int32.lt_trans ha.2 z.2⟩)).resolve_left e) (fun i hi => h60 i (List.mem_cons.mpr (Or.inr hi))) hs2
    rw [sNm_list hl h60 hs]
    show sAt (x 25 p) (x 26 p) (nI f) (k + 1) (nI a) = nI (t.getD k 0)
    rw [← ih]
    show (if nI a = -1 then nI a else sAt (x 25 p) (x 26 p) (nI f) k (sNx (x 25 p) (x 26 p) (nI f) (x 26 p (nI a).toNatClampNeg) 60)) = sAt (x 25 p) (x 26 p) (nI f) k (sNm x p (nI f) (x 26 p a))
    rw [if_neg (nI_m1 (by omega)), nI_clamp (by omega)]
    rfl
theorem m57 {bl : Nat → Nat → List Nat} (h : cG n qn t w l fc nr b x y) (hB : BL bl n y) (hb : b < 1000000000) (hn : n < 26) (hz : zEq x' x) {p f k : Nat} (hp : p < 4) (hf : f < fc p) (hk : k < (bl p f).length) : ∀ (E : zEx) (Y : zSt) (Q : zO → zM → Prop), zcl 57 [.ref 2, .int (nI p), .int (nI f), .int (nI k)] (zmem x' Y E) Q ↔ Q (.inl (some (.int (nI ((bl p f).getD k 0))))) (zmem x' Y E) := fun E Y Q => by
  have h8 := (h.2.1 p hp).1.2.1
  obtain ⟨w1, w2, w3, w4⟩ := hB.walk h hb hp (show f < 8 by omega)
  have hlen := hB.len hp (show f < 8 by omega)
  have hc := hB.cnt hp (show f < 8 by omega) (fun _ => true)
  rw [List.filter_eq_self.mpr (fun _ _ => rfl)] at hc
  have e25 := (cG_25 h).1
  have hge := tcnt_up (P := fun i => decide (x 25 p i = nI f)) (show n ≤ 60 from h.1.2.1)
  have hcn : nI k < sCt (fun i => decide (x' 25 p i = nI f)) 60 := by
    rw [sCt_t, hz 25 (by omega)]
    have e : tcnt (fun i => decide (y 25 p i = nI f) && true) n = tcnt (fun i => decide (x 25 p i = nI f)) n := tcnt_ext n (fun i _ => by rw [e25, Bool.and_true])
    have := tcnt_le (fun i => decide (x 25 p i = nI f)) 60
    exact nI_lt (by omega) (by omega)
  rw [c57v hp hf (by rw [hz 13 (by omega)]; exact (h.2.1 p hp).1.1) h8 (by omega) hcn, hz 25 (by omega), hz 26 (by omega)]
  have := at_list k (bl p f) (nI 0) hk w1 w2 w3
  unfold sNm at this
  rw [this]
theorem m61 (h : cG n qn t w l fc nr b x y) (hz : zEq x' x) {p f : Nat} {st : Int32} (hp : p < 4) (hf : f < fc p) : ∀ (E : zEx) (Y : zSt) (Q : zO → zM → Prop), zcl 61 [.ref 2, .int (nI p), .int (nI f), .int st] (zmem x' Y E) Q ↔ Q (.inl (some (.int (nI (tcnt (fun i => decide (x 25 p i = nI f) && decide (st < x 28 p i)) n))))) (zmem x' Y E) := fun E Y Q => by
  rw [c61v hp hf (by rw [hz 13 (by omega)]; exact (h.2.1 p hp).1.1) (h.2.1 p hp).1.2.1 (by rw [hz 0 (by omega)]; exact h.1.1) h.1.2.1, sCt_t, hz 25 (by omega), hz 28 (by omega)]
end ZL
