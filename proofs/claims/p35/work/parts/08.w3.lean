/-! making cells, the JDK's own, throwing -/
theorem zac_20 : Cond.arrayClass .int ∈ zG := zG_of (i := 473) (by decide +kernel) rfl
theorem zac_23 : Cond.arrayClass .boolean ∈ zG := zG_of (i := 785) (by decide +kernel) rfl
theorem zao_0 : Cond.arrayOver (FieldType.object (zcn 0)) ∈ lw_tbl := List.mem_of_getElem? (i := 429) (by decide +kernel)
theorem zao_1 : Cond.arrayOver (FieldType.object (zcn 1)) ∈ lw_tbl := List.mem_of_getElem? (i := 554) (by decide +kernel)
theorem zao_2 : Cond.arrayOver (FieldType.object (zcn 2)) ∈ lw_tbl := List.mem_of_getElem? (i := 431) (by decide +kernel)
theorem zao_4 : Cond.arrayOver (FieldType.object (zcn 4)) ∈ lw_tbl := List.mem_of_getElem? (i := 433) (by decide +kernel)
theorem zao_6 : Cond.arrayOver (FieldType.object (zcn 6)) ∈ lw_tbl := List.mem_of_getElem? (i := 552) (by decide +kernel)
theorem zao_7 : Cond.arrayOver (FieldType.object (zcn 7)) ∈ lw_tbl := List.mem_of_getElem? (i := 550) (by decide +kernel)
theorem zaa_40 : Cond.arrayOver (FieldType.array .int) ∈ lw_tbl := List.mem_of_getElem? (i := 720) (by decide +kernel)
theorem zaa_41 : Cond.arrayOver (FieldType.array (.array .int)) ∈ lw_tbl := List.mem_of_getElem? (i := 723) (by decide +kernel)
theorem zaa_42 : Cond.arrayOver (FieldType.array (.array (.array .int))) ∈ lw_tbl := List.mem_of_getElem? (i := 725) (by decide +kernel)
theorem zaa_43 : Cond.arrayOver (FieldType.array .boolean) ∈ lw_tbl := List.mem_of_getElem? (i := 727) (by decide +kernel)
theorem zqk_o {c : Nat} (h : zqk (30 + c) = true) (hc : c < 10) : c = 0 ∨ c = 1 ∨ c = 2 ∨ c = 4 ∨ c = 6 ∨ c = 7 := by
  have := zqk_or h
  omega
theorem zao {c : Nat} (h : zqk (30 + c) = true) (hc : c < 10) : Cond.arrayOver (FieldType.object (zcn c)) ∈ lw_tbl := by
  rcases zqk_o h hc with h1 | h1 | h1 | h1 | h1 | h1 <;> subst h1
  · exact zao_0
  · exact zao_1
  · exact zao_2
  · exact zao_4
  · exact zao_6
  · exact zao_7
theorem zp_class {c ix x j q : Nat} (h : zpool c ix = some (2, x, j, q)) : Cond.classLink (zcn c) ix (zcn x) ∈ zG := by
  have h1 := zpool_ok h
  simp only [zpchk, Bool.and_eq_true, decide_eq_true_eq] at h1
  exact zG_of h1.2 rfl
theorem zp_arr {c ix k j q : Nat} (h : zpool c ix = some (8, k, j, q)) : Cond.classLink (zcn c) ix (if k = 20 then "[I" else if k = 40 then "[[I" else if k = 41 then "[[[I" else if k = 42 then "[[[[I" else "[[Z") ∈ zG := by
  have h1 := zpool_ok h
  simp only [zpchk, decide_eq_true_eq] at h1
  exact zG_of h1 rfl
theorem zoi_in : Cond.instanceMethod Jvm.Lib.objectInit ∈ zG := zG_of (i := 96) (by decide +kernel) rfl
theorem zoi_cd : Cond.code Jvm.Lib.objectInit ⟨#[0xb1]⟩ 1 none ∈ zG := zG_of (i := 97) (by decide +kernel) rfl
theorem zma_abs_st : Cond.static Jvm.Lib.Math.abs.name ∈ zG := zG_of (i := 302) (by decide +kernel) rfl
theorem zma_abs_cd : Cond.code Jvm.Lib.Math.abs.name Jvm.Lib.Math.abs.code 1 (some .int) ∈ zG := zG_of (i := 303) (by decide +kernel) rfl
theorem zma_ini : Cond.initialized "java/lang/Math" ∈ zG := zG_of (i := 60) (by decide +kernel) rfl
theorem zsy_ini : Cond.initialized "java/lang/System" ∈ zG := zG_of (i := 53) (by decide +kernel) rfl
theorem zsy_nat : Cond.native arraycopyName ∈ zG := zG_of (i := 809) (by decide +kernel) rfl
theorem zsy_st : Cond.static arraycopyName ∈ zG := zG_of (i := 808) (by decide +kernel) rfl
theorem zsy_w : nativeFrameWords "java/lang/System" "arraycopy" 5 + 11 ≤ 68 := by decide +kernel
theorem zdv_ref (ty : FieldType) (b : Nat) : defaultValue ty ≠ .ref b := by cases ty <;> (intro h; cases h)
theorem zdv_ad (φ : Nat → Nat) (ty : FieldType) : zad φ (defaultValue ty) = defaultValue ty := by cases ty <;> rfl
theorem zdef_ref (t b : Nat) : zdef t ≠ .ref b := by
  unfold zdef
  split
  · intro h; cases h
  · split
    · intro h; cases h
    · split <;> (intro h; cases h)
theorem znn {n : Int32} (h : 0 ≤ n) : ¬ n < 0 := by
  rw [Int32.lt_iff_toInt_lt]
  rw [Int32.le_iff_toInt_le] at h
  omega
section ZNEW
variable {p : Program} {l : Launch} {e : Env} {R : Room} {s : State} {m : MethodId} {args : Array Value} {below : List Frame} {meth : Method} {c : Code} {H : Heap} {locs : List Loc} {Q : State → Prop}
variable {D : va_G} {dA : Nat → ClassId} {A : Nat → Prop} {K : zI} {φ : Nat → Nat} {L : zL} {st : List Value} {M : zM} {ls : Array Slot} {pc uc us : Nat}
set_option maxHeartbeats 4000000 in
set_option maxRecDepth 100000 in
theorem z_newarr (hX : zFix p R s m args meth c D dA A K) {n : Int32} {r : List Value} (hat : zAt D dA A s (zk_ml K) φ L (.int n :: r) M H locs ls) {atype : ArrayType} {ty : FieldType} {t0 : Nat} {a0 : vp_A} (hd : decode (zk_by K) pc = .ok (.newarray atype, 2)) (hty : newarray.typeOf atype = ty) (harr : Cond.arrayClass ty ∈ zG) (ht : (ztl dA)[t0]? = some (dA (ztyp atype), ty)) (hcA : ∀ c1 c2, va_RA s c1 ty → va_RA s c2 ty → c1 = c2) (hcb : componentBytes ty ≤ 8)
    (c2 : 0 ≤ n) (c3 : n.toNatClampNeg ≤ 1000000) (c4 : uc + 1 ≤ zk_mc K) (c5 : us + n.toNatClampNeg ≤ zk_ms K) (ha : ∀ cA : ClassId, vp_cell cA a0 = arrV cA n.toNatClampNeg (fun _ => defaultValue ty)) (he : (.inl (dA (ztyp atype), a0) : va_E) = zE dA φ (ztyp atype, n.toNatClampNeg) (fun _ => zdef (ztyp atype)))
    (kk : ∀ (φ' : Nat → Nat) (H' : Heap) (locs' : List Loc) (ls' : Array Slot), (∀ a, a ≤ M.1 → φ' a = φ a) → zle M (znew M (ztyp atype, n.toNatClampNeg) (fun _ => zdef (ztyp atype))) → zAt D dA A s (zk_ml K) φ' L (.ref (M.1 + 1) :: r) (znew M (ztyp atype, n.toNatClampNeg) (fun _ => zdef (ztyp atype))) H' locs' ls' →
      W p l e R s m args below meth c H' locs' (uc + 1) (us + n.toNatClampNeg) Q (F0 m (pc + 2) ls' ((.ref (M.1 + 1) :: r : List Value).map (zad φ')))) :
    W p l e R s m args below meth c H locs uc us Q (F0 m pc ls ((.int n :: r : List Value).map (zad φ))) := by
  obtain ⟨hx, hb, hml, hown, hts, hFa, hA, hR, hnm, -⟩ := hX
  have hK := hFa.2.2.2.1
  subst hty
  refine va_newa (D := D) hx hb (hts _ harr) rfl hK hat.P hat.Dd hat.S hA ha (znn c2) rfl (Nat.le_trans (Nat.mul_le_mul c3 hcb) (by decide)) (Nat.le_trans c4 hR.2.2.1) (Nat.le_trans c5 hR.2.2.2) hd (fun q cA H1 hK1 hP1 hD1 hS1 => ?_)
  have e1 : cA = dA (ztyp atype) := hcA _ _ (hK1.2 (ztl dA).length (cA, newarray.typeOf atype) (by simp)).2 (hK.2 t0 _ ht).2
  subst e1
  obtain ⟨φ', h1, h2, hat'⟩ := hat.new he (fun _ b => zdef_ref _ b) (zSk_tl hat.sk) hP1 hD1 hS1
  have k2 := kk φ' H1 locs ls h1 (zle_new _ _ _) hat'
  rw [List.map_cons, zmap_congr h1 (zSk_tl hat.sk)] at k2
  simp only [zad, h2] at k2
  exact k2
def zgr_n : Instr → Bool
  | .newarray _ | .anewarray _ | .new _ => true
  | _ => false
set_option maxHeartbeats 4000000 in
set_option maxRecDepth 100000 in
/-- making cells -/
theorem z_sp_n (hX : zFix p R s m args meth c D dA A K) (hat : zAt D dA A s (zk_ml K) φ L st M H locs ls) {i : Instr} {len : Nat} (hd : decode (zk_by K) pc = .ok (i, len)) (hlen : zlen i ≠ 0 → zlen i = len) {σ : zS} (hg : zgr_n i = true) (h : zsp K i pc L st M uc us = some (.inl σ))
    (kk : ∀ (φ' : Nat → Nat) (H' : Heap) (locs' : List Loc) (ls' : Array Slot), (∀ a, a ≤ M.1 → φ' a = φ a) → zle M σ.2.2.2.1 → zAt D dA A s (zk_ml K) φ' σ.2.1 σ.2.2.1 σ.2.2.2.1 H' locs' ls' →
      W p l e R s m args below meth c H' locs' σ.2.2.2.2.1 σ.2.2.2.2.2 Q (F0 m σ.1 ls' (σ.2.2.1.map (zad φ')))) :
    W p l e R s m args below meth c H locs uc us Q (F0 m pc ls (st.map (zad φ))) := by
  cases i with
  | newarray ty =>
    have e1 : 2 = len := hlen (Nat.succ_ne_zero 1); subst e1
    simp only [zsp] at h
    split at h
    · next n r =>
      split at h
      · next hc =>
        cases h
        obtain ⟨c1, c2, c3, c4, c5⟩ := hc
        cases ty with
        | int => exact z_newarr hX hat (ty := .int) (t0 := 0) (a0 := (n.toNatClampNeg, .inl (fun _ => 0))) hd rfl zac_20 rfl (fun _ _ h1 h2 => Option.some.inj (h1.symm.trans h2)) (by decide) c2 c3 c4 c5 (fun _ => rfl) rfl kk
        | boolean => exact z_newarr hX hat (ty := .boolean) (t0 := 1) (a0 := (n.toNatClampNeg, .inl (fun _ => 0))) hd rfl zac_23 rfl (fun _ _ h1 h2 => Option.some.inj (h1.symm.trans h2)) (by decide) c2 c3 c4 c5 (fun _ => rfl) rfl kk
        | _ => exact absurd c1 (by decide)
      · cases h
    · cases h
  | anewarray ix =>
    have e1 : 3 = len := hlen (Nat.succ_ne_zero 2); subst e1
    obtain ⟨hx, hb, hml, hown, hts, hFa, hA, hR, hnm, -⟩ := hX
    have hK := hFa.2.2.2.1
    simp only [zsp] at h
    split at h
    · next x j q hp =>
      split at h
      · next n r =>
        split at h
        · next hc =>
          cases h
          obtain ⟨c1, c0, c2, c3, c4, c5⟩ := hc
          have hAO : va_AO (zcn x) s := hFa.1 _ (zao c1 c0) rfl
          refine va_newq (D := D) hx hb hown (hts _ (zp_class hp)) hAO hK hat.P hat.Dd hat.S hA (znn c2) rfl (Nat.le_trans (Nat.mul_le_mul_right 4 c3) (by decide)) (Nat.le_trans c4 hR.2.2.1) (Nat.le_trans c5 hR.2.2.2) hd (fun q cA H1 hK1 hP1 hD1 hS1 => ?_)
          obtain ⟨t0, g2⟩ := zqk_get dA c1
          rw [zqt_obj c0] at g2
          have e1 : cA = dA (30 + x) := by
            obtain ⟨_, _, -, -, -, r1⟩ := (hK1.2 (ztl dA).length (cA, FieldType.object (zcn x)) (by simp)).2
            obtain ⟨_, _, -, -, -, r2⟩ := (hK.2 t0 _ g2).2
            exact Option.some.inj (r1.symm.trans r2)
          subst e1
          obtain ⟨φ', h1, h2, hat'⟩ := hat.new (k := (30 + x, n.toNatClampNeg)) (f := fun _ => .null) (by rw [zE_ref dA φ c1]; rfl) (fun _ b hb => by cases hb) (zSk_tl hat.sk) hP1 hD1 hS1
          have k2 := kk φ' H1 locs ls h1 (zle_new _ _ _) hat'
          dsimp only at k2
          rw [List.map_cons, zmap_congr h1 (zSk_tl hat.sk)] at k2
          simp only [zad, h2] at k2
          exact k2
        · cases h
      · cases h
    · next k j q hp =>
      split at h
      · next n r =>
        split at h
        · next hc =>
          cases h
          obtain ⟨c1, c2, c3, c4, c5⟩ := hc
          subst c1
          refine zr_newA (D := D) (t := .int) hx hb hown (hts _ (zp_arr hp)) hFa.2.2.2.2.2 hat.P hat.Dd hat.S hA (znn c2) (Nat.le_trans (Nat.mul_le_mul_right 4 c3) (by decide)) (Nat.le_trans c4 hR.2.2.1) (Nat.le_trans c5 hR.2.2.2) hd (fun q cA H1 hcA hP1 hD1 hS1 => ?_)
          have e1 : cA = dA 40 := Option.some.inj (hcA.symm.trans (hK.2 8 _ rfl).2)
          subst e1
          obtain ⟨φ', h1, h2, hat'⟩ := hat.new (k := (40, n.toNatClampNeg)) (f := fun _ => .null) (by rw [zE_ref dA φ rfl]; rfl) (fun _ b hb => by cases hb) (zSk_tl hat.sk) hP1 hD1 hS1
          have k2 := kk φ' H1 locs ls h1 (zle_new _ _ _) hat'
          dsimp only at k2
          rw [List.map_cons, zmap_congr h1 (zSk_tl hat.sk)] at k2
          simp only [zad, h2] at k2
          exact k2
        · cases h
      · cases h
    · cases h
  | new ix =>
    have e1 : 3 = len := hlen (Nat.succ_ne_zero 2); subst e1
    obtain ⟨hx, hb, hml, hown, hts, hFa, hA, hR, hnm, -⟩ := hX
    have hK := hFa.2.2.2.1
    simp only [zsp] at h
    split at h
    · next x j q hp =>
      split at h
      · next hx11 =>
        split at h
        · next hc =>
          cases h
          obtain ⟨c4, c5⟩ := hc
          refine va_new (D := D) (fs := (List.range (zN x)).map (fun j => zad φ (defaultValue (zty x j)))) hx hb hts (zlay_in hx11) (zty x) (zcl_ty hx11) hown (hts _ (zp_class hp)) (hts _ (zcl_ins hx11)) (hts _ (zcl_ini hx11)) hK hat.P hat.Dd hat.S hA (zC_get hx11) (fun j hj => ?_) (Nat.le_trans c4 hR.2.2.1) (Nat.le_trans c5 hR.2.2.2) hd (fun q H1 hP1 hD1 hS1 => ?_)
          · unfold vp_V
            rw [List.getD_eq_getElem?_getD, zfs_get hj]
            exact (zdv_ad φ _).symm
          · obtain ⟨φ', h1, h2, hat'⟩ := hat.new (k := (x, zN x)) (f := fun j => defaultValue (zty x j)) (by rw [zE_obj dA φ (by omega)]) (fun j b => zdv_ref _ b) hat.sk hP1 hD1 hS1
            have k2 := kk φ' H1 locs ls h1 (zle_new _ _ _) hat'
            dsimp only at k2
            rw [List.map_cons, zmap_congr h1 hat.sk] at k2
            simp only [zad, h2] at k2
            exact k2
        · cases h
      · split at h
        · split at h <;> cases h
        · cases h
    · cases h
  | _ => cases hg
end ZNEW
