/-! the JDK's own calls -/
theorem zp_obj {c ix x j q : Nat} (h : zpool c ix = some (3, x, j, q)) : Cond.methodLink (zcn c) ix Jvm.Lib.objectInit ∈ zG := by
  have h1 := zpool_ok h
  simp only [zpchk, decide_eq_true_eq] at h1
  exact zG_of h1 rfl
theorem zp_abs {c ix j q : Nat} (h : zpool c ix = some (4, 0, j, q)) : Cond.methodLink (zcn c) ix Jvm.Lib.Math.abs.name ∈ zG := by
  have h1 := zpool_ok h
  simp only [zpchk, decide_eq_true_eq] at h1
  exact zG_of h1 rfl
theorem zp_acp {c ix x j q : Nat} (h : zpool c ix = some (5, x, j, q)) : Cond.methodLink (zcn c) ix arraycopyName ∈ zG := by
  have h1 := zpool_ok h
  simp only [zpchk, decide_eq_true_eq] at h1
  exact zG_of h1 rfl
/-- any change of one cell's contents -/
theorem zW_upd {dA : Nat → ClassId} {φ : Nat → Nat} {M M' : zM} {a : Nat} {e : va_E} (h : zal M a = true) (h1 : M'.1 = M.1) (h2 : M'.2.1 = M.2.1) (h3 : ∀ b, b ≠ a → M'.2.2 b = M.2.2 b) (he : e = zE dA φ (M.2.1 a) (M'.2.2 a)) : (zW dA φ M).set (a - 1) (φ a, e) = zW dA φ M' := by
  simp only [zal, Bool.and_eq_true, decide_eq_true_eq] at h
  obtain ⟨g1, g2⟩ := h
  unfold zW
  rw [zrange_set, h1, h2]
  apply List.map_congr_left
  intro i hi
  by_cases hia : i = a - 1
  · rw [if_pos hia]
    have e1 : i + 1 = a := by omega
    rw [he, e1]
  · rw [if_neg hia]
    rw [h3 (i + 1) (by omega)]
theorem zAt.upd {D : va_G} {dA : Nat → ClassId} {A : Nat → Prop} {s : State} {nL : Nat} {φ : Nat → Nat} {L : zL} {st : List Value} {M : zM} {H : Heap} {locs : List Loc} {ls : Array Slot} {st' : List Value} {H' : Heap} {locs' : List Loc} {a : Nat} {M' : zM} {e : va_E} (h : zAt D dA A s nL φ L st M H locs ls) (ha : zal M a = true) (h1 : M'.1 = M.1) (h2 : M'.2.1 = M.2.1) (h3 : ∀ b, b ≠ a → M'.2.2 b = M.2.2 b)
    (he : e = zE dA φ (M.2.1 a) (M'.2.2 a)) (hv : ∀ j, zvk M.1 (M'.2.2 a j)) (hs : zSk M.1 st')
    (hP : va_P D zC ((zW dA φ M).set (a - 1) (φ a, e)) H') (hD : va_D A ((zW dA φ M).set (a - 1) (φ a, e))) (hS : va_S A s.heap H' locs') : zle M M' ∧ zAt D dA A s nL φ L st' M' H' locs' ls := by
  rw [zW_upd ha h1 h2 h3 he] at hP hD
  have ha1 : 1 ≤ a := by
    simp only [zal, Bool.and_eq_true, decide_eq_true_eq] at ha
    exact ha.1
  have hc : M'.2.2 0 = M.2.2 0 := h3 0 (by omega)
  have hk : M'.2.1 0 = M.2.1 0 := by rw [h2]
  refine ⟨⟨by rw [h1]; exact Nat.le_refl _, hk, hc⟩, hP, hD, hS, fun b j c hb => ?_, h.loc, by rw [h1]; exact h.lk, by rw [h1]; exact hs, h.F.mv rfl hk hc⟩
  rw [h1]
  by_cases hba : b = a
  · subst hba
    exact hv j c hb
  · rw [h3 b hba] at hb
    exact h.wf b j c hb
section ZJDK
variable {p : Program} {l : Launch} {e : Env} {R : Room} {s : State} {m : MethodId} {args : Array Value} {below : List Frame} {meth : Method} {c : Code} {H : Heap} {locs : List Loc} {Q : State → Prop}
variable {D : va_G} {dA : Nat → ClassId} {A : Nat → Prop} {K : zI} {φ : Nat → Nat} {L : zL} {st : List Value} {M : zM} {ls : Array Slot} {pc uc us : Nat}
def zjop (ep : zP) (ix : Nat) : Instr := if ep.1 = 3 then .invokespecial ix else .invokestatic ix
set_option maxHeartbeats 4000000 in
set_option maxRecDepth 100000 in
theorem z_jdk (hX : zFix p R s m args meth c D dA A K) (hat : zAt D dA A s (zk_ml K) φ L st M H locs ls) {ep : zP} {ix : Nat} (hp : zpool (zk_own K) ix = some ep) (hd : decode (zk_by K) pc = .ok (zjop ep ix, 3)) {σ : zS} (h : zjdk K ep pc L st M uc us = some (.inl σ))
    (kk : ∀ (φ' : Nat → Nat) (H' : Heap) (locs' : List Loc) (ls' : Array Slot), (∀ a, a ≤ M.1 → φ' a = φ a) → zle M σ.2.2.2.1 → zAt D dA A s (zk_ml K) φ' σ.2.1 σ.2.2.1 σ.2.2.2.1 H' locs' ls' →
      W p l e R s m args below meth c H' locs' σ.2.2.2.2.1 σ.2.2.2.2.2 Q (F0 m σ.1 ls' (σ.2.2.1.map (zad φ')))) :
    W p l e R s m args below meth c H locs uc us Q (F0 m pc ls (st.map (zad φ))) := by
  obtain ⟨hx, hb, hml, hown, hts, hFa, hA, hR, hnm, -⟩ := hX
  have hK := hFa.2.2.2.1
  have hsz : c.maxLocals = ls.size := hml.trans hat.loc.1.symm
  unfold zjdk at h
  split at h
  · next a b q =>
    split at h
    · next x r =>
      split at h
      · next hc =>
        cases h
        refine W.objInit hx hb hown (hts _ (zp_obj hp)) (hts _ zoi_in) (hts _ zoi_cd) rfl hsz.symm rfl hd (Nat.le_trans hc.1 hR.1) ?_ ?_
        · show 2 * 0 + ((r.map (zad φ)).map fun v => v.category).sum + 12 ≤ R.locals
          rw [zct_map]
          have := hR.2.1
          have := hc.2
          omega
        · refine W.eq (g2 := F0 m (pc + 3) ls (r.map (zad φ))) rfl ?_
          exact kk φ H locs ls (fun _ _ => rfl) (zle.rfl M) (hat.stk (zSk_tl hat.sk))
      · cases h
    · cases h
  · next b q =>
    split at h
    · next x r =>
      split at h
      · next hc =>
        cases h
        refine va_mabs hx hb hsz hown (hts _ (zp_abs hp)) (hts _ zma_abs_st) (hts _ zma_ini) (hts _ zma_abs_cd) (Nat.le_trans hc.1 hR.1) ?_ (Nat.le_trans hc.2.2.1 hR.2.2.1) (Nat.le_trans hc.2.2.2 hR.2.2.2) hd (kk φ H locs ls (fun _ _ => rfl) (zle.rfl M) (hat.stk (zSk_cons (zvk_int _ _) (zSk_tl hat.sk))))
        show ((r.map (zad φ)).map fun v => v.category).sum + 13 ≤ R.locals
        rw [zct_map]
        exact Nat.le_trans hc.2.1 hR.2.1
      · cases h
    · cases h
  · next a b q =>
    split at h
    · next n dp d sp s0 r =>
      split at h
      · next hc =>
        cases h
        obtain ⟨⟨c1, c3, cE, cK⟩, ⟨c5, c6, c7⟩, c8, c9, c10, c11⟩ := hc
        have hlo : ((r.map (zad φ)).map fun v => v.category).sum + (nativeFrameWords "java/lang/System" "arraycopy" 5 + 11) ≤ R.locals := by
          rw [zct_map]
          have := zsy_w
          have := hR.2.1
          omega
        have hwfc : ∀ (j : Nat), zvk M.1 ((zcopy M s0 sp.toNatClampNeg d dp.toNatClampNeg n.toNatClampNeg).2.2 d j) := fun j b hb => by
          simp only [zcopy, true_and] at hb
          split at hb
          · exact hat.wf _ _ _ hb
          · exact hat.wf _ _ _ hb
        rcases cK with c2 | ⟨c2, cR⟩
        · have c4 : (M.2.1 d).1 = 20 := cE.trans c2
          have hw0 := zW_get (dA := dA) (φ := φ) c1
          rw [zE_int dA φ c2] at hw0
          have hw1 := zW_get (dA := dA) (φ := φ) c3
          rw [zE_int dA φ c4] at hw1
          refine va_copyi (D := D) hx hb hsz hown (hts _ (zp_acp hp)) (hts _ zsy_nat) (hts _ zsy_st) (hts _ zsy_ini) hK hat.P hat.Dd hat.S (s0 - 1) (d - 1) 0 0 hw0 hw1 rfl rfl rfl (znn c5) (znn c6) (znn c7) c8 c9 (fun _ _ => rfl) (Nat.le_trans c10 hR.1) hlo hd (fun H1 locs1 hP1 hD1 hS1 => ?_)
          have he : (.inl (dA 20, (M.2.1 d).2, .inl (va_cpy (fun j => zgi (M.2.2 s0 j)) (fun j => zgi (M.2.2 d j)) sp.toNatClampNeg dp.toNatClampNeg n.toNatClampNeg)) : va_E) = zE dA φ (M.2.1 d) ((zcopy M s0 sp.toNatClampNeg d dp.toNatClampNeg n.toNatClampNeg).2.2 d) := by
            rw [zE_int dA φ c4]
            congr 4
            funext k
            simp only [va_cpy, zcopy, true_and]
            split <;> rfl
          obtain ⟨z1, z2⟩ := hat.upd (M' := zcopy M s0 sp.toNatClampNeg d dp.toNatClampNeg n.toNatClampNeg) c3 rfl rfl (fun b hb => by funext k; simp only [zcopy, hb, false_and, if_false]) he hwfc (zSk_tl (zSk_tl (zSk_tl (zSk_tl (zSk_tl hat.sk))))) hP1 hD1 hS1
          exact kk φ H1 locs1 ls (fun _ _ => rfl) z1 z2
        · have c4 : (M.2.1 d).1 = 40 := cE.trans c2
          have q0 : zqk (M.2.1 s0).1 = true := by rw [c2]; rfl
          have q1 : zqk (M.2.1 d).1 = true := by rw [c4]; rfl
          have hw0 := zW_get (dA := dA) (φ := φ) c1
          rw [zE_ref dA φ q0, c2] at hw0
          have hw1 := zW_get (dA := dA) (φ := φ) c3
          rw [zE_ref dA φ q1, c4] at hw1
          obtain ⟨kA, kE, k1, k2, k3⟩ := hFa.2.2.2.2.1 20 rfl
          refine zr_copy (D := D) (ty := .int) hx hb hsz hown (hts _ (zp_acp hp)) (hts _ zsy_nat) (hts _ zsy_st) (hts _ zsy_ini) hat.P hat.Dd hat.S (s0 - 1) (d - 1) hw0 hw1 k1 k2 k3 (znn c5) (znn c6) (znn c7) c8 c9 (fun i hi y hy => ?_) (Nat.le_trans c10 hR.1) hlo hd (fun H1 locs1 hP1 hD1 hS1 => ?_)
          · have h9 := List.all_eq_true.mp cR i (List.mem_range.mpr hi)
            cases hv : M.2.2 s0 (sp.toNatClampNeg + i) with
            | ref b =>
              rw [hv] at h9 hy
              simp only [Bool.and_eq_true, decide_eq_true_eq] at h9
              cases hy
              obtain ⟨cellV, v1, v2, v3⟩ := zW_cell hK hat.P h9.1 (Or.inr (Or.inl h9.2))
              exact ⟨cellV, v1, v2, by rw [v3, h9.2]⟩
            | _ => rw [hv] at hy; cases hy
          · have he : (.inl (dA 40, (M.2.1 d).2, .inr (.inr (.inr (.inr (va_cpy (fun j => zgr φ (M.2.2 s0 j)) (fun j => zgr φ (M.2.2 d j)) sp.toNatClampNeg dp.toNatClampNeg n.toNatClampNeg))))) : va_E) = zE dA φ (M.2.1 d) ((zcopy M s0 sp.toNatClampNeg d dp.toNatClampNeg n.toNatClampNeg).2.2 d) := by
              rw [zE_ref dA φ q1, c4]
              congr 7
              funext k
              simp only [va_cpy, zcopy, true_and]
              split <;> rfl
            obtain ⟨z1, z2⟩ := hat.upd (M' := zcopy M s0 sp.toNatClampNeg d dp.toNatClampNeg n.toNatClampNeg) c3 rfl rfl (fun b hb => by funext k; simp only [zcopy, hb, false_and, if_false]) he hwfc (zSk_tl (zSk_tl (zSk_tl (zSk_tl (zSk_tl hat.sk))))) hP1 hD1 hS1
            exact kk φ H1 locs1 ls (fun _ _ => rfl) z1 z2
      · cases h
    · cases h
  · cases h
end ZJDK
