/-! the calls, one by one: copies, searches (source: wip/p35/src/225.t4.txt, by expand2.py) -/
theorem dI_f : dI false = nI 0 := rfl
theorem dI_t : dI true = nI 1 := rfl
theorem iNum_dst {x : zSt} {p b : Nat} (h : iNum x p b) {f : Nat} (hf : f < 8) : ∀ i j, i < 60 → j < 60 → x 25 p i = nI f → x 25 p j = nI f → x 26 p i = x 26 p j → i = j := fun i j hi hj e1 e2 e3 => h.2.2 i j hi hj (e1.trans e2.symm) (by rw [e1]; exact nI_m1 (by omega)) e3
theorem iNum_cnt {x : zSt} {p b : Nat} (hb : b < 1000000000) (h : iNum x p b) {f : Nat} (hf : f < 8) : tcnt (fun i => decide (x 25 p i = nI f)) 60 = zmu (x 25 p) (x 26 p) (nI f) (nI 0) := by
  unfold zmu
  refine tcnt_ext 60 (fun i hi => ?_)
  by_cases e : x 25 p i = nI f
  · obtain ⟨u, v, h1, h2, h3, h4, h5⟩ := h.2.1 i f hi hf e
    rw [decide_eq_true e, h1, decide_eq_true ((nI_ltI (by omega) (by omega)).mpr (by omega))]
    rfl
  · rw [decide_eq_false e]; rfl
theorem sQh_ext (k a b : Int32) {lf lf' : Nat → Int32} (h : ∀ j, j < 6 → lf j = lf' j) (mk : Int32) (wi : Int32 → Bool) (hd : Int32) : sQh k a b lf mk wi hd = sQh k a b lf' mk wi hd := by
  unfold sQh
  rw [h 0 (by omega), h 1 (by omega), h 2 (by omega), h 3 (by omega), h 5 (by omega)]
theorem sFd_xy {x y : zSt} {n : Nat} {nr : Nat → Nat} (h : iRl x y n nr) (p qn : Nat) (q : Int32) {i : Nat} (hi : i < n) : sFd y p i qn q = sFd x p i qn q := by
  have y13 : y 13 = x 13 := iRl_sh h (iSh_a (by omega) (by omega))
  have y14 : y 14 = x 14 := iRl_sh h (iSh_a (by omega) (by omega))
  have y25 : y 25 = x 25 := iRl_sh h (iSh_b (by omega) (by omega))
  have y27 : y 27 = x 27 := iRl_sh h (iSh_b (by omega) (by omega))
  have y36 : y 36 = x 36 := iRl_sh h (iSh_c (by omega) (by omega))
  have y37 : y 37 = x 37 := iRl_sh h (iSh_c (by omega) (by omega))
  have y38 : y 38 = x 38 := iRl_sh h (iSh_c (by omega) (by omega))
  have e : ∀ k, sHd y p i k = sHd x p i k := by
    intro k
    unfold sHd sWx
    rw [y13, y14, y25, y27, y36, y37, y38]
    refine zfo_ext k (nI 0) (fun q hd hq => ?_)
    rw [sQh_ext _ _ _ (lf := sLf y i) (lf' := sLf x i) (fun j hj => h.2.1 (30 + j) i (by omega) (by omega) hi)]
  unfold sFd
  rw [y25, e]
theorem sFa_ext {fd fd' : Nat → Bool} (k : Int32) : ∀ (n : Nat) (pl : Int32), (∀ i, i < n → fd i = fd' i) → sFa fd k n pl = sFa fd' k n pl
  | 0, _, _ => rfl
  | n + 1, pl, h => by
    unfold sFa
    rw [h n (by omega), sFa_ext k n _ (fun i hi => h i (by omega)), sFa_ext k n _ (fun i hi => h i (by omega))]
theorem zInv_mark {x y : zSt} {b p m mx : Nat} (h : zInv x y b) (hp : p < 4) (hmx : mx < 4) (hm : m < 60) : zInv (sRe (su x 27 (u2 (x 27) p m (nI mx))) p m) (sRe (su (mTh y 0) 27 (u2 (x 27) p m (nI mx))) p m) (b + 2000) := by
  obtain ⟨n, qn, t, w, l, fc, nr, hSc, hBx, hRu, hLe, hQs, hRl⟩ := id h
  obtain ⟨hn, h60, hq, h20, ht, ht9, hw, hw50, hl, hl100⟩ := id hSc
  have y0 : y 0 = x 0 := iRl_sh hRl iSh_0
  have y1 : y 1 = x 1 := iRl_sh hRl iSh_1
  have y13 : y 13 = x 13 := iRl_sh hRl (iSh_a (by omega) (by omega))
  have y14 : y 14 = x 14 := iRl_sh hRl (iSh_a (by omega) (by omega))
  have y15 : y 15 = x 15 := iRl_sh hRl (iSh_a (by omega) (by omega))
  have y16 : y 16 = x 16 := iRl_sh hRl (iSh_a (by omega) (by omega))
  have y24 : y 24 = x 24 := iRl_sh hRl (iSh_b (by omega) (by omega))
  have y25 : y 25 = x 25 := iRl_sh hRl (iSh_b (by omega) (by omega))
  have y26 : y 26 = x 26 := iRl_sh hRl (iSh_b (by omega) (by omega))
  have y27 : y 27 = x 27 := iRl_sh hRl (iSh_b (by omega) (by omega))
  have y28 : y 28 = x 28 := iRl_sh hRl (iSh_b (by omega) (by omega))
  have y29 : y 29 = x 29 := iRl_sh hRl (iSh_b (by omega) (by omega))
  have y36 : y 36 = x 36 := iRl_sh hRl (iSh_c (by omega) (by omega))
  have y37 : y 37 = x 37 := iRl_sh hRl (iSh_c (by omega) (by omega))
  have y38 : y 38 = x 38 := iRl_sh hRl (iSh_c (by omega) (by omega))
  have hny : y 0 0 2 = nI n := by rw [y0]; exact hn
  have hqy : y 0 0 4 = nI qn := by rw [y0]; exact hq
  refine ⟨n, qn, t, w, l, fc, nr, hSc, fun q hq => ?_, fun q hq => hRu q hq, hLe, hQs, ?_⟩
  · obtain ⟨⟨b1, b2, b3, b4, b5⟩, b6, b7, b8⟩ := hBx q hq
    refine ⟨⟨b1, b2, b3, b4, fun i hi => ?_⟩, b6, iNum_le b7 (by omega), b8⟩
    show ∃ k, k < 4 ∧ u2 (x 27) p m (nI mx) q i = nI k
    rw [u2_eq]
    split
    · exact ⟨mx, hmx, rfl⟩
    · exact b5 i hi
  · unfold sRe
    refine iRl_su (iRl_su (iRl_su (iRl_th hRl) (iSh_b (by omega) (by omega)) rfl) iSh_0 ?_) (iSh_b (by omega) (by omega)) ?_
    · show u2 (y 0) 0 9 (y 0 0 9 + nI 1) = u2 (x 0) 0 9 (x 0 0 9 + nI 1)
      rw [y0]
    · show u2 (y 28) p m (y 0 0 9 + nI 1) = u2 (x 28) p m (x 0 0 9 + nI 1)
      rw [y0, y28]
section ZT
variable {x y : zSt} {E : zEx} {b : Nat}
end ZT
