/-! the calls, one by one (source: wip/p35/src/222.t2.txt, by expand2.py) -/
theorem zrg {v : Int32} {a b : Nat} (hb : b < 2 ^ 31) (h : ¬ v < nI a) (h' : ¬ nI b < v) (ha : a < 2 ^ 31) : ∃ k, a ≤ k ∧ k ≤ b ∧ v = nI k := by
  have h0 : ¬ v < 0 := by
    rw [Int32.lt_iff_toInt_lt] at h ⊢
    rw [nI_toInt ha] at h
    have : (0 : Int32).toInt = 0 := rfl
    omega
  obtain ⟨j, hj, rfl⟩ := nI_of h0
  refine ⟨j, ?_, ?_, rfl⟩
  · rw [nI_ltI hj ha] at h; omega
  · rw [nI_ltI hb hj] at h'; omega
theorem sSz_ext {sh sz sh' sz' : Nat → Int32} (h1 : sh' = sh) {n : Nat} (h : ∀ i, i < n → sz' i = sz i) : sSz sh' sz' n = sSz sh sz n := by
  subst h1
  exact zfo_ext n (nI 0) (fun i a hi => by rw [h i hi])
theorem sTf_xy {x y : zSt} {n : Nat} {nr : Nat → Nat} (h : iRl x y n nr) (p f : Nat) (w : Int32) : sTf y p f n w = sTf x p f n w := by
  have y13 : y 13 = x 13 := iRl_sh h (iSh_a (by omega) (by omega))
  have y14 : y 14 = x 14 := iRl_sh h (iSh_a (by omega) (by omega))
  have y16 : y 16 = x 16 := iRl_sh h (iSh_a (by omega) (by omega))
  have y25 : y 25 = x 25 := iRl_sh h (iSh_b (by omega) (by omega))
  have y27 : y 27 = x 27 := iRl_sh h (iSh_b (by omega) (by omega))
  have e : sSzI (x 25 p) (y 33 0) (nI f) n = sSzI (x 25 p) (x 33 0) (nI f) n := zfo_ext n (nI 0) (fun i a hi => by rw [h.2.1 33 i (by omega) (by omega) hi])
  unfold sTf
  rw [y13, y14, y16, y25, y27, e]
section ZT
variable {x y : zSt} {E : zEx} {b : Nat}
end ZT
