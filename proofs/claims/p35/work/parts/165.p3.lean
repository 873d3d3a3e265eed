/-! branches, and calls by their ways -/
section ZW2
variable {K : zI} {pc : Nat} {L : zL} {st : List Value} {M : zM} {uc us : Nat} {Q : zO → zM → Prop}
theorem zw_ifB {c : Jvm.ClassFile.Cond} {off : Int} {tgt pc' : Nat} {x : Int32} (hf : zlk (zk_cd K) pc = some (.ifCond c off, 3)) (ht : (pc : Int) + off = (tgt : Int)) (hp : pc + 3 = pc') : zwp K (pc, L, .int x :: st, M, uc, us) Q ↔ if zcnd c x 0 = true then zwp K (tgt, L, st, M, uc, us) Q else zwp K (pc', L, st, M, uc, us) Q := by
  subst hp
  refine zwp_if hf (fun call => ?_)
  rw [zst_sp rfl]
  simp only [zsp, zgo]
  rw [if_pos (by omega), show ((pc : Int) + off).toNat = tgt by omega]
theorem zw_icB {c : Jvm.ClassFile.Cond} {off : Int} {tgt pc' : Nat} {x y : Int32} (hf : zlk (zk_cd K) pc = some (.if_icmp c off, 3)) (ht : (pc : Int) + off = (tgt : Int)) (hp : pc + 3 = pc') : zwp K (pc, L, .int y :: .int x :: st, M, uc, us) Q ↔ if zcnd c x y = true then zwp K (tgt, L, st, M, uc, us) Q else zwp K (pc', L, st, M, uc, us) Q := by
  subst hp
  refine zwp_if hf (fun call => ?_)
  rw [zst_sp rfl]
  simp only [zsp, zgo]
  rw [if_pos (by omega), show ((pc : Int) + off).toNat = tgt by omega]
theorem zcb_eq (x y : Int32) : (zcnd .eq x y = true) = (x = y) := by simp [zcnd]
theorem zcb_ne (x y : Int32) : (zcnd .ne x y = true) = ¬ (x = y) := by simp [zcnd]
theorem zcb_lt (x y : Int32) : (zcnd .lt x y = true) = (x < y) := by simp [zcnd]
theorem zcb_gt (x y : Int32) : (zcnd .gt x y = true) = (y < x) := by simp [zcnd]
theorem zcb_ge (x y : Int32) : (zcnd .ge x y = true) = ¬ (x < y) := by
  simp only [zcnd, decide_eq_true_eq, eq_iff_iff, Int32.lt_iff_toInt_lt, Int32.le_iff_toInt_le]
  omega
theorem zcb_le (x y : Int32) : (zcnd .le x y = true) = ¬ (y < x) := by
  simp only [zcnd, decide_eq_true_eq, eq_iff_iff, Int32.lt_iff_toInt_lt, Int32.le_iff_toInt_le]
  omega
theorem zite {c d : Prop} [Decidable c] [Decidable d] (h : c = d) (a b : Prop) : (if c then a else b) ↔ if d then a else b := by
  by_cases hc : c
  · rw [if_pos hc, if_pos (h ▸ hc)]
  · rw [if_neg hc, if_neg (h ▸ hc)]
theorem zitn {c d : Prop} [Decidable c] [Decidable d] (h : c = ¬ d) (a b : Prop) : (if c then a else b) ↔ if d then b else a := by
  by_cases hd : d
  · rw [if_neg (by rw [h]; exact fun q => q hd), if_pos hd]
  · rw [if_pos (by rw [h]; exact hd), if_neg hd]
variable {off : Int} {tgt pc' : Nat} {x y : Int32}
theorem zw_ifeq (hf : zlk (zk_cd K) pc = some (.ifCond .eq off, 3)) (ht : (pc : Int) + off = (tgt : Int)) (hp : pc + 3 = pc') : zwp K (pc, L, .int x :: st, M, uc, us) Q ↔ if x = nI 0 then zwp K (tgt, L, st, M, uc, us) Q else zwp K (pc', L, st, M, uc, us) Q := (zw_ifB hf ht hp).trans (zite (zcb_eq x 0) _ _)
theorem zw_ifne (hf : zlk (zk_cd K) pc = some (.ifCond .ne off, 3)) (ht : (pc : Int) + off = (tgt : Int)) (hp : pc + 3 = pc') : zwp K (pc, L, .int x :: st, M, uc, us) Q ↔ if x = nI 0 then zwp K (pc', L, st, M, uc, us) Q else zwp K (tgt, L, st, M, uc, us) Q := (zw_ifB hf ht hp).trans (zitn (zcb_ne x 0) _ _)
theorem zw_iflt (hf : zlk (zk_cd K) pc = some (.ifCond .lt off, 3)) (ht : (pc : Int) + off = (tgt : Int)) (hp : pc + 3 = pc') : zwp K (pc, L, .int x :: st, M, uc, us) Q ↔ if x < nI 0 then zwp K (tgt, L, st, M, uc, us) Q else zwp K (pc', L, st, M, uc, us) Q := (zw_ifB hf ht hp).trans (zite (zcb_lt x 0) _ _)
theorem zw_ifge (hf : zlk (zk_cd K) pc = some (.ifCond .ge off, 3)) (ht : (pc : Int) + off = (tgt : Int)) (hp : pc + 3 = pc') : zwp K (pc, L, .int x :: st, M, uc, us) Q ↔ if x < nI 0 then zwp K (pc', L, st, M, uc, us) Q else zwp K (tgt, L, st, M, uc, us) Q := (zw_ifB hf ht hp).trans (zitn (zcb_ge x 0) _ _)
theorem zw_ifgt (hf : zlk (zk_cd K) pc = some (.ifCond .gt off, 3)) (ht : (pc : Int) + off = (tgt : Int)) (hp : pc + 3 = pc') : zwp K (pc, L, .int x :: st, M, uc, us) Q ↔ if nI 0 < x then zwp K (tgt, L, st, M, uc, us) Q else zwp K (pc', L, st, M, uc, us) Q := (zw_ifB hf ht hp).trans (zite (zcb_gt x 0) _ _)
theorem zw_ifle (hf : zlk (zk_cd K) pc = some (.ifCond .le off, 3)) (ht : (pc : Int) + off = (tgt : Int)) (hp : pc + 3 = pc') : zwp K (pc, L, .int x :: st, M, uc, us) Q ↔ if nI 0 < x then zwp K (pc', L, st, M, uc, us) Q else zwp K (tgt, L, st, M, uc, us) Q := (zw_ifB hf ht hp).trans (zitn (zcb_le x 0) _ _)
theorem zw_iceq (hf : zlk (zk_cd K) pc = some (.if_icmp .eq off, 3)) (ht : (pc : Int) + off = (tgt : Int)) (hp : pc + 3 = pc') : zwp K (pc, L, .int y :: .int x :: st, M, uc, us) Q ↔ if x = y then zwp K (tgt, L, st, M, uc, us) Q else zwp K (pc', L, st, M, uc, us) Q := (zw_icB hf ht hp).trans (zite (zcb_eq x y) _ _)
theorem zw_icne (hf : zlk (zk_cd K) pc = some (.if_icmp .ne off, 3)) (ht : (pc : Int) + off = (tgt : Int)) (hp : pc + 3 = pc') : zwp K (pc, L, .int y :: .int x :: st, M, uc, us) Q ↔ if x = y then zwp K (pc', L, st, M, uc, us) Q else zwp K (tgt, L, st, M, uc, us) Q := (zw_icB hf ht hp).trans (zitn (zcb_ne x y) _ _)
theorem zw_iclt (hf : zlk (zk_cd K) pc = some (.if_icmp .lt off, 3)) (ht : (pc : Int) + off = (tgt : Int)) (hp : pc + 3 = pc') : zwp K (pc, L, .int y :: .int x :: st, M, uc, us) Q ↔ if x < y then zwp K (tgt, L, st, M, uc, us) Q else zwp K (pc', L, st, M, uc, us) Q := (zw_icB hf ht hp).trans (zite (zcb_lt x y) _ _)
theorem zw_icge (hf : zlk (zk_cd K) pc = some (.if_icmp .ge off, 3)) (ht : (pc : Int) + off = (tgt : Int)) (hp : pc + 3 = pc') : zwp K (pc, L, .int y :: .int x :: st, M, uc, us) Q ↔ if x < y then zwp K (pc', L, st, M, uc, us) Q else zwp K (tgt, L, st, M, uc, us) Q := (zw_icB hf ht hp).trans (zitn (zcb_ge x y) _ _)
theorem zw_icgt (hf : zlk (zk_cd K) pc = some (.if_icmp .gt off, 3)) (ht : (pc : Int) + off = (tgt : Int)) (hp : pc + 3 = pc') : zwp K (pc, L, .int y :: .int x :: st, M, uc, us) Q ↔ if y < x then zwp K (tgt, L, st, M, uc, us) Q else zwp K (pc', L, st, M, uc, us) Q := (zw_icB hf ht hp).trans (zite (zcb_gt x y) _ _)
theorem zw_icle (hf : zlk (zk_cd K) pc = some (.if_icmp .le off, 3)) (ht : (pc : Int) + off = (tgt : Int)) (hp : pc + 3 = pc') : zwp K (pc, L, .int y :: .int x :: st, M, uc, us) Q ↔ if y < x then zwp K (pc', L, st, M, uc, us) Q else zwp K (tgt, L, st, M, uc, us) Q := (zw_icB hf ht hp).trans (zitn (zcb_le x y) _ _)
theorem zw_goto (hf : zlk (zk_cd K) pc = some (.goto off, 3)) (ht : (pc : Int) + off = (tgt : Int)) : zwp K (pc, L, st, M, uc, us) Q ↔ zwp K (tgt, L, st, M, uc, us) Q := zwp_step hf (fun call => by
  rw [zst_sp rfl]
  simp only [zsp, zbr, zgo]
  rw [if_pos (by omega), show ((pc : Int) + off).toNat = tgt by omega])
variable {J : zI} {args r : List Value} {ix k y0 n c d C D a o on q : Nat}
theorem zw_callV {as : List Value} (hf : zlk (zk_cd K) pc = some (.invokevirtual ix, 3)) (hl : zpool (zk_own K) (ix + 100000 * zk_dp K) = some (1, k, 0, q)) (hi : ix < 100000) (hJ : zmt[k]? = some J) (hn : zk_na J + 1 = n) (hp : zpop n [] st = some (.ref a :: as, r)) (h1 : zk_rf J + 1 ≤ zk_rf K) (h2 : 8 + (zk_ml J + 11) + zk_rl J ≤ zk_rl K) (hc : zk_mc J = c) (hd : zk_ms J = d) (hC : zk_mc K = C) (hD : zk_ms K = D) (hpc : pc + 3 = pc') (ho : zk_own J = o) (hon : zN o = on) :
    zwp K (pc, L, st, M, uc, us) Q ↔ ((zct r ≤ 8 ∧ uc + c ≤ C ∧ us + d ≤ D) ∧ zok M a o on) ∧ zcl k (.ref a :: as) M (zbk K pc' pc L r (uc + c) (us + d) Q) := by
  rw [zw_call (y := 0) (n := n) hf (zw_hsV hl hi) hJ hn hp h1 h2 hc hd hC hD hpc, zrcv_V ho hon]
theorem zw_callS (hf : zlk (zk_cd K) pc = some (.invokestatic ix, 3)) (hl : zpool (zk_own K) ix = some (1, k, y0, q)) (hi : ix < 100000) (hy : y0 = 1 ∨ y0 = 4 ∨ y0 = 6) (hJ : zmt[k]? = some J) (hn : zk_na J = n) (hp : zpop n [] st = some (args, r)) (h1 : zk_rf J + 1 ≤ zk_rf K) (h2 : 8 + (zk_ml J + 11) + zk_rl J ≤ zk_rl K) (hc : zk_mc J = c) (hd : zk_ms J = d) (hC : zk_mc K = C) (hD : zk_ms K = D) (hpc : pc + 3 = pc') :
    zwp K (pc, L, st, M, uc, us) Q ↔ (zct r ≤ 8 ∧ uc + c ≤ C ∧ us + d ≤ D) ∧ zcl k args M (zbk K pc' pc L r (uc + c) (us + d) Q) := by
  rw [zw_call (y := y0) (n := n) hf (zw_hsS hl hi hy) hJ (by rw [if_pos hy]; exact hn) hp h1 h2 hc hd hC hD hpc, zrcv_S hy, and_true]
theorem zw_callI {as : List Value} (hf : zlk (zk_cd K) pc = some (.invokespecial ix, 3)) (hl : zpool (zk_own K) ix = some (1, k, y0, q)) (hi : ix < 100000) (hy : y0 = 2 ∨ y0 = 5) (hJ : zmt[k]? = some J) (hn : zk_na J + 1 = n) (hp : zpop n [] st = some (.ref a :: as, r)) (h1 : zk_rf J + 1 ≤ zk_rf K) (h2 : 8 + (zk_ml J + 11) + zk_rl J ≤ zk_rl K) (hc : zk_mc J = c) (hd : zk_ms J = d) (hC : zk_mc K = C) (hD : zk_ms K = D) (hpc : pc + 3 = pc') :
    zwp K (pc, L, st, M, uc, us) Q ↔ (zct r ≤ 8 ∧ uc + c ≤ C ∧ us + d ≤ D) ∧ zcl k (.ref a :: as) M (zbk K pc' pc L r (uc + c) (us + d) Q) := by
  rw [zw_call (y := y0) (n := n) hf (zw_hsI hl hi hy) hJ (by rw [if_neg (by omega)]; exact hn) hp h1 h2 hc hd hC hD hpc, zrcv_T (by omega), and_true]
end ZW2
