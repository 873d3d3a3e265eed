/-! the words of the rows: one row an instruction (17..) -/
def zb (c : Prop) [Decidable c] : Int32 := if c then nI 1 else nI 0
def zrd (M : zM) (a j : Nat) : Value := M.2.2 a j
def zok (M : zM) (a c n : Nat) : Prop := zal M a = true ∧ M.2.1 a = (c, n)
def zia (M : zM) (t a : Nat) (i : Int32) : Prop := zix M t a i = true
def zias (M : zM) (a : Nat) (i : Int32) : Prop := zix M 20 a i = true ∨ zixS M a i = true
def zarr (M : zM) (a : Nat) : Prop := (zal M a = true ∧ ((M.2.1 a).1 = 20 ∨ (M.2.1 a).1 = 23 ∨ zqk (M.2.1 a).1 = true)) ∨ (a = 0 ∧ (M.2.1 a).1 = 50)
def zlen' (M : zM) (a : Nat) : Nat := (M.2.1 a).2
def zvi (v : Value) (P : Int32 → Prop) : Prop := match v with
  | .int x => P x
  | _ => False
def zvl (v : Value) (P : Int64 → Prop) : Prop := match v with
  | .long x => P x
  | _ => False
def zvd (v : Value) (P : UInt64 → Prop) : Prop := match v with
  | .double x => P x
  | _ => False
def zvr (v : Value) (P : Nat → Prop) : Prop := match v with
  | .ref x => P x
  | _ => False
theorem zvi_int (x : Int32) (P : Int32 → Prop) : zvi (.int x) P = P x := rfl
theorem zvl_long (x : Int64) (P : Int64 → Prop) : zvl (.long x) P = P x := rfl
theorem zvd_double (x : UInt64) (P : UInt64 → Prop) : zvd (.double x) P = P x := rfl
theorem zvr_ref (x : Nat) (P : Nat → Prop) : zvr (.ref x) P = P x := rfl
theorem zkl_int (x : Int32) : zkl (some (.int x)) = some (.int x) := rfl
theorem zkl_ref (x : Nat) : zkl (some (.ref x)) = some (.ref x) := rfl
theorem zkl_none : zkl none = none := rfl
theorem zkl_long (x : Int64) : zkl (some (.long x)) = none := rfl
theorem zkl_double (x : UInt64) : zkl (some (.double x)) = none := rfl
def zacp (M : zM) (s d : Nat) (sp dp n : Int32) : Prop := (zal M s = true ∧ zal M d = true ∧ (M.2.1 d).1 = (M.2.1 s).1 ∧ ((M.2.1 s).1 = 20 ∨ ((M.2.1 s).1 = 40 ∧ zrows M s sp.toNatClampNeg n.toNatClampNeg = true))) ∧ (0 ≤ sp ∧ 0 ≤ dp ∧ 0 ≤ n) ∧ sp.toNatClampNeg + n.toNatClampNeg ≤ (M.2.1 s).2 ∧ dp.toNatClampNeg + n.toNatClampNeg ≤ (M.2.1 d).2
def zbl (v : Int32) : Prop := v = nI 0 ∨ v = nI 1
theorem zbl_0 : zbl (nI 0) := Or.inl rfl
theorem zbl_1 : zbl (nI 1) := Or.inr rfl
theorem zbl_b (c : Prop) [Decidable c] : zbl (zb c) := by
  unfold zb
  split
  · exact zbl_1
  · exact zbl_0
theorem zn10 : (nI 1 = nI 0) = False := eq_false (by decide)
theorem zn01 : (nI 0 = nI 1) = False := eq_false (by decide)
theorem zb_0 (c : Prop) [Decidable c] : (zb c = nI 0) = ¬ c := by
  unfold zb
  by_cases h : c
  · rw [if_pos h, zn10]; simp [h]
  · rw [if_neg h]; simp [h]
theorem zb_1 (c : Prop) [Decidable c] : (zb c = nI 1) = c := by
  unfold zb
  by_cases h : c
  · rw [if_pos h]; simp [h]
  · rw [if_neg h, zn01]; simp [h]
theorem zct_nil : zct [] = 0 := rfl
theorem zct_int (x : Int32) (l : List Value) : zct (.int x :: l) = zct l + 1 := by simp [zct, Value.category, Nat.add_comm]
theorem zct_ref (x : Nat) (l : List Value) : zct (.ref x :: l) = zct l + 1 := by simp [zct, Value.category, Nat.add_comm]
theorem zct_long (x : Int64) (l : List Value) : zct (.long x :: l) = zct l + 2 := by simp [zct, Value.category, Nat.add_comm]
theorem zct_double (x : UInt64) (l : List Value) : zct (.double x :: l) = zct l + 2 := by simp [zct, Value.category, Nat.add_comm]
def zbk (K : zI) (pc' pc : Nat) (L : zL) (r : List Value) (uc us : Nat) (Q : zO → zM → Prop) (o : zO) (M' : zM) : Prop := match o with
  | .inl v => zwp K (pc', L, v.toList ++ r, M', uc, us) Q
  | .inr e => zout K e pc L M' uc us Q
theorem zbk_some (K : zI) (pc' pc : Nat) (L : zL) (r : List Value) (uc us : Nat) (Q : zO → zM → Prop) (v : Value) (M' : zM) : zbk K pc' pc L r uc us Q (.inl (some v)) M' = zwp K (pc', L, v :: r, M', uc, us) Q := rfl
theorem zbk_none (K : zI) (pc' pc : Nat) (L : zL) (r : List Value) (uc us : Nat) (Q : zO → zM → Prop) (M' : zM) : zbk K pc' pc L r uc us Q (.inl none) M' = zwp K (pc', L, r, M', uc, us) Q := rfl
theorem zbk_exc (K : zI) (pc' pc : Nat) (L : zL) (r : List Value) (uc us : Nat) (Q : zO → zM → Prop) (e : Nat) (M' : zM) : zbk K pc' pc L r uc us Q (.inr e) M' = zout K e pc L M' uc us Q := rfl
theorem zout_no {K : zI} (h : zk_hs K = []) (e pc : Nat) (L : zL) (M : zM) (uc us : Nat) (Q : zO → zM → Prop) : zout K e pc L M uc us Q ↔ (uc ≤ zk_mc K ∧ us ≤ zk_ms K) ∧ Q (.inr e) M := by
  unfold zout zcat
  rw [if_pos h]
  by_cases hc : uc ≤ zk_mc K ∧ us ≤ zk_ms K
  · rw [if_pos hc]
    exact ⟨fun q => ⟨hc, q⟩, fun q => q.2⟩
  · rw [if_neg hc]
    exact ⟨fun q => q.elim, fun q => absurd q.1 hc⟩
theorem zout_hs {K : zI} {e pc : Nat} {L : zL} {M : zM} {uc us : Nat} {Q : zO → zM → Prop} {σ : zS} (h : zcat K e pc L M uc us = some (.inl σ)) : zout K e pc L M uc us Q ↔ zwp K σ Q := by
  unfold zout
  rw [h]
def zsw (x : Int32) : Int → List Nat → Nat → (Nat → Prop) → Prop
  | _, [], d, P => P d
  | lo, t :: ts, d, P => if x = Int32.ofInt lo then P t else zsw x (lo + 1) ts d P
theorem zsw_nil (x : Int32) (lo : Int) (d : Nat) (P : Nat → Prop) : zsw x lo [] d P = P d := rfl
theorem zsw_cons (x : Int32) (lo : Int) (t : Nat) (ts : List Nat) (d : Nat) (P : Nat → Prop) : zsw x lo (t :: ts) d P = if x = Int32.ofInt lo then P t else zsw x (lo + 1) ts d P := rfl
theorem zsw_out {x : Int32} : ∀ (ts : List Nat) (lo : Int) (d : Nat) (P : Nat → Prop), -2147483648 ≤ lo → lo + ts.length ≤ 2147483648 → (x.toInt < lo ∨ lo + ts.length ≤ x.toInt) → (zsw x lo ts d P ↔ P d)
  | [], _, _, _, _, _, _ => Iff.rfl
  | t :: ts, lo, d, P, h1, h2, h3 => by
    rw [zsw_cons]
    simp only [List.length_cons] at h2 h3
    rw [if_neg]
    · exact zsw_out ts (lo + 1) d P (by omega) (by omega) (by omega)
    · intro hx
      rw [hx, Int32.toInt_ofInt_of_le (by simpa using h1) (by simp; omega)] at h3
      omega
theorem zsw_in {x : Int32} : ∀ (ts : List Nat) (lo : Int) (d : Nat) (P : Nat → Prop) (k : Nat) (t : Nat), -2147483648 ≤ lo → lo + ts.length ≤ 2147483648 → x.toInt = lo + k → ts[k]? = some t → (zsw x lo ts d P ↔ P t)
  | [], _, _, _, _, _, _, _, _, h => by simp at h
  | t0 :: ts, lo, d, P, 0, t, h1, h2, h3, h4 => by
    rw [zsw_cons, if_pos]
    · simp only [List.getElem?_cons_zero, Option.some.injEq] at h4
      rw [h4]
    · simp only [List.length_cons] at h2
      apply Int32.toInt_inj.mp
      rw [Int32.toInt_ofInt_of_le (by simpa using h1) (by simp; omega), h3]
      simp
  | t0 :: ts, lo, d, P, k + 1, t, h1, h2, h3, h4 => by
    rw [zsw_cons, if_neg]
    · simp only [List.length_cons] at h2
      rw [List.getElem?_cons_succ] at h4
      exact zsw_in ts (lo + 1) d P k t (by omega) (by omega) (by omega) h4
    · intro hx
      simp only [List.length_cons] at h2
      rw [hx, Int32.toInt_ofInt_of_le (by simpa using h1) (by simp; omega)] at h3
      omega
theorem zwp_reqc {K : zI} {pc : Nat} {L : zL} {st : List Value} {M : zM} {uc us : Nat} {Q : zO → zM → Prop} {i : Instr} {len : Nat} {c : Prop} {σ1 : zS} (hf : zlk (zk_cd K) pc = some (i, len)) (h1 : c → ∀ call, zst call K i (pc, L, st, M, uc, us) = some (.inl σ1)) (h2 : ¬ c → ∀ call, zst call K i (pc, L, st, M, uc, us) = none) : zwp K (pc, L, st, M, uc, us) Q ↔ c ∧ zwp K σ1 Q := by
  by_cases h : c
  · rw [zwp_step (σ := σ1) hf (h1 h)]
    exact ⟨fun z => ⟨h, z⟩, fun z => z.2⟩
  · rw [zwp_none hf (h2 h)]
    exact ⟨fun z => z.elim, fun z => absurd z.1 h⟩
theorem zwp_reqdc {K : zI} {pc : Nat} {L : zL} {st : List Value} {M : zM} {uc us : Nat} {Q : zO → zM → Prop} {i : Instr} {len : Nat} {c : Prop} {o : zO} {M' : zM} (hf : zlk (zk_cd K) pc = some (i, len)) (h1 : c → ∀ call, zst call K i (pc, L, st, M, uc, us) = some (.inr (o, M'))) (h2 : ¬ c → ∀ call, zst call K i (pc, L, st, M, uc, us) = none) : zwp K (pc, L, st, M, uc, us) Q ↔ c ∧ Q o M' := by
  by_cases h : c
  · rw [zwp_done (o := o) (M' := M') hf (h1 h)]
    exact ⟨fun z => ⟨h, z⟩, fun z => z.2⟩
  · rw [zwp_none hf (h2 h)]
    exact ⟨fun z => z.elim, fun z => absurd z.1 h⟩
def zinvk : Instr → Bool
  | .invokevirtual _ | .invokestatic _ | .invokespecial _ => true
  | _ => false
theorem zst_sp {call : zF} {K : zI} {i : Instr} (h : zinvk i = false) (s : zS) : zst call K i s = zsp K i s.1 s.2.1 s.2.2.1 s.2.2.2.1 s.2.2.2.2.1 s.2.2.2.2.2 := by
  unfold zst
  split
  · cases h
  · cases h
  · cases h
  · rfl
section ZW
variable {K : zI} {pc : Nat} {L : zL} {st : List Value} {M : zM} {uc us : Nat} {Q : zO → zM → Prop}
theorem zw_tsw {dflt lo hi : Int} {offs : Array Int} {len : Nat} {x : Int32} {ts : List Nat} {d : Nat} (hf : zlk (zk_cd K) pc = some (.tableswitch dflt lo hi offs, len)) (h1 : (pc : Int) + dflt = (d : Int)) (h2 : offs.toList.map (fun o => (pc : Int) + o) = ts.map (fun t : Nat => (t : Int))) (h3 : lo + ts.length = hi + 1) (h4 : -2147483648 ≤ lo) (h5 : lo + ts.length ≤ 2147483648) :
    zwp K (pc, L, .int x :: st, M, uc, us) Q ↔ zsw x lo ts d (fun t => zwp K (t, L, st, M, uc, us) Q) := by
  by_cases hx : x.toInt < lo ∨ hi < x.toInt
  · rw [zsw_out ts lo d _ h4 h5 (by omega)]
    refine zwp_step hf (fun call => ?_)
    rw [zst_sp rfl]
    simp only [zsp, if_pos hx, zbr, zgo]
    rw [if_pos (by omega), show ((pc : Int) + dflt).toNat = d by omega]
  · obtain ⟨k, hk⟩ : ∃ k : Nat, x.toInt = lo + k := ⟨(x.toInt - lo).toNat, by omega⟩
    have hkl : k < ts.length := by omega
    have hlen : offs.toList.length = ts.length := by
      have := congrArg List.length h2
      simpa using this
    have e1 : ts[k]? = some ts[k] := List.getElem?_eq_getElem hkl
    have e2 : (offs.toList.map (fun o => (pc : Int) + o))[k]? = some ((ts[k] : Nat) : Int) := by
      rw [h2, List.getElem?_map, e1]
      rfl
    rw [List.getElem?_map] at e2
    cases ho : offs.toList[k]? with
    | none => rw [ho] at e2; cases e2
    | some off =>
      rw [ho] at e2
      have e3 : (pc : Int) + off = ((ts[k] : Nat) : Int) := by simpa using e2
      rw [zsw_in ts lo d _ k ts[k] h4 h5 hk e1]
      refine zwp_step hf (fun call => ?_)
      rw [zst_sp rfl]
      have e4 : offs[(x.toInt - lo).toNat]? = some off := by
        rw [show (x.toInt - lo).toNat = k by omega, ← Array.getElem?_toList]
        exact ho
      simp only [zsp, if_neg hx, e4, zbr, zgo]
      rw [if_pos (by omega), show ((pc : Int) + off).toNat = ts[k] by omega]
theorem zw_getfield {ix c j q n a : Nat} (hf : zlk (zk_cd K) pc = some (.getfield ix, 3)) (hp : zpool (zk_own K) ix = some (0, c, j, q)) (hn : zN c = n) : zwp K (pc, L, .ref a :: st, M, uc, us) Q ↔ zok M a c n ∧ zwp K (pc + 3, L, zrd M a j :: st, M, uc, us) Q := by
  subst hn
  refine zwp_reqc hf (fun h call => ?_) (fun h call => ?_)
  · rw [zst_sp rfl]
    simp only [zsp, hp]
    exact if_pos h
  · rw [zst_sp rfl]
    simp only [zsp, hp]
    exact if_neg h
theorem zw_putI {ix c j q n a : Nat} {x : Int32} (hf : zlk (zk_cd K) pc = some (.putfield ix, 3)) (hp : zpool (zk_own K) ix = some (0, c, j, q)) (hn : zN c = n) (ht : zty c j = .int) (hfin : zfin K c j = true) : zwp K (pc, L, .int x :: .ref a :: st, M, uc, us) Q ↔ zok M a c n ∧ zwp K (pc + 3, L, st, zput M a j (.int x), uc, us) Q := by
  subst hn
  refine zwp_reqc hf (fun h call => ?_) (fun h call => ?_)
  · rw [zst_sp rfl]
    have hz : zfit (zty c j) (.int x) = true := by rw [ht]; simp [zfit, narrow, fits]
    simp only [zsp, hp, hz, hfin, and_true, zgo]
    first | exact if_pos h | exact if_neg h | (simp only [zok, zacp, and_assoc] at h; first | exact if_pos h | exact if_neg h)
  · rw [zst_sp rfl]
    have hz : zfit (zty c j) (.int x) = true := by rw [ht]; simp [zfit, narrow, fits]
    simp only [zsp, hp, hz, hfin, and_true, zgo]
    first | exact if_pos h | exact if_neg h | (simp only [zok, zacp, and_assoc] at h; first | exact if_pos h | exact if_neg h)
theorem zw_putZ {ix c j q n a : Nat} {x : Int32} (hf : zlk (zk_cd K) pc = some (.putfield ix, 3)) (hp : zpool (zk_own K) ix = some (0, c, j, q)) (hn : zN c = n) (ht : zty c j = .boolean) (hfin : zfin K c j = true) : zwp K (pc, L, .int x :: .ref a :: st, M, uc, us) Q ↔ (zok M a c n ∧ zfit .boolean (.int x) = true) ∧ zwp K (pc + 3, L, st, zput M a j (.int x), uc, us) Q := by
  subst hn
  refine zwp_reqc hf (fun h call => ?_) (fun h call => ?_)
  · rw [zst_sp rfl]
    simp only [zsp, hp, ht, hfin, and_true, zgo]
    first | exact if_pos h | exact if_neg h | (simp only [zok, zacp, and_assoc] at h; first | exact if_pos h | exact if_neg h)
  · rw [zst_sp rfl]
    simp only [zsp, hp, ht, hfin, and_true, zgo]
    first | exact if_pos h | exact if_neg h | (simp only [zok, zacp, and_assoc] at h; first | exact if_pos h | exact if_neg h)
theorem zw_putR {ix c j q n a b : Nat} (hf : zlk (zk_cd K) pc = some (.putfield ix, 3)) (hp : zpool (zk_own K) ix = some (0, c, j, q)) (hn : zN c = n) (ht : zfit (zty c j) (.ref 0) = true) (hfin : zfin K c j = true) : zwp K (pc, L, .ref b :: .ref a :: st, M, uc, us) Q ↔ zok M a c n ∧ zwp K (pc + 3, L, st, zput M a j (.ref b), uc, us) Q := by
  subst hn
  refine zwp_reqc hf (fun h call => ?_) (fun h call => ?_)
  · rw [zst_sp rfl]
    have hz : zfit (zty c j) (.ref b) = true := by
      revert ht
      cases zty c j <;> simp [zfit, narrow, fits]
    simp only [zsp, hp, hz, hfin, and_true, zgo]
    first | exact if_pos h | exact if_neg h | (simp only [zok, zacp, and_assoc] at h; first | exact if_pos h | exact if_neg h)
  · rw [zst_sp rfl]
    have hz : zfit (zty c j) (.ref b) = true := by
      revert ht
      cases zty c j <;> simp [zfit, narrow, fits]
    simp only [zsp, hp, hz, hfin, and_true, zgo]
    first | exact if_pos h | exact if_neg h | (simp only [zok, zacp, and_assoc] at h; first | exact if_pos h | exact if_neg h)
theorem zw_iaload {a : Nat} {i : Int32} (hf : zlk (zk_cd K) pc = some (.iaload, 1)) : zwp K (pc, L, .int i :: .ref a :: st, M, uc, us) Q ↔ zias M a i ∧ zvi (zrd M a i.toNatClampNeg) (fun x => zwp K (pc + 1, L, .int x :: st, M, uc, us) Q) := by
  by_cases h : zix M 20 a i = true ∨ zixS M a i = true
  · cases hv : M.2.2 a i.toNatClampNeg with
    | int x =>
      rw [zwp_step (σ := (pc + 1, L, .int x :: st, M, uc, us)) hf (fun call => by rw [zst_sp rfl]; simp only [zsp, if_pos h, hv, zgo])]
      simp only [zias, h, zrd, hv, zvi, true_and]
    | _ =>
      rw [zwp_none hf (fun call => by rw [zst_sp rfl]; simp only [zsp, if_pos h, hv])]
      simp only [zrd, hv, zvi, and_false]
  · rw [zwp_none hf (fun call => by rw [zst_sp rfl]; simp only [zsp, if_neg h])]
    simp only [zias, h, false_and]
theorem zw_baload {a : Nat} {i : Int32} (hf : zlk (zk_cd K) pc = some (.baload, 1)) : zwp K (pc, L, .int i :: .ref a :: st, M, uc, us) Q ↔ zia M 23 a i ∧ zvi (zrd M a i.toNatClampNeg) (fun x => zwp K (pc + 1, L, .int x :: st, M, uc, us) Q) := by
  by_cases h : zix M 23 a i = true
  · cases hv : M.2.2 a i.toNatClampNeg with
    | int x =>
      rw [zwp_step (σ := (pc + 1, L, .int x :: st, M, uc, us)) hf (fun call => by rw [zst_sp rfl]; simp only [zsp, if_pos h, hv, zgo])]
      simp only [zia, h, zrd, hv, zvi, true_and]
    | _ =>
      rw [zwp_none hf (fun call => by rw [zst_sp rfl]; simp only [zsp, if_pos h, hv])]
      simp only [zrd, hv, zvi, and_false]
  · rw [zwp_none hf (fun call => by rw [zst_sp rfl]; simp only [zsp, if_neg h])]
    simp only [zia, h, false_and, Bool.false_eq_true]
def ziar (M : zM) (a : Nat) (i : Int32) : Prop := zqk (M.2.1 a).1 = true ∧ zix M (M.2.1 a).1 a i = true
theorem zw_aaload {a : Nat} {i : Int32} (hf : zlk (zk_cd K) pc = some (.aaload, 1)) : zwp K (pc, L, .int i :: .ref a :: st, M, uc, us) Q ↔ ziar M a i ∧ zvr (zrd M a i.toNatClampNeg) (fun x => zwp K (pc + 1, L, .ref x :: st, M, uc, us) Q) := by
  by_cases h : zqk (M.2.1 a).1 = true ∧ zix M (M.2.1 a).1 a i = true
  · cases hv : M.2.2 a i.toNatClampNeg with
    | ref x =>
      rw [zwp_step (σ := (pc + 1, L, .ref x :: st, M, uc, us)) hf (fun call => by rw [zst_sp rfl]; simp only [zsp, if_pos h, hv, zgo])]
      simp only [ziar, h, zrd, hv, zvr, true_and]
    | _ =>
      rw [zwp_none hf (fun call => by rw [zst_sp rfl]; simp only [zsp, if_pos h, hv])]
      simp only [zrd, hv, zvr, and_false]
  · rw [zwp_none hf (fun call => by rw [zst_sp rfl]; simp only [zsp, if_neg h])]
    simp only [ziar, h, false_and]
theorem zw_iastore {a : Nat} {i x : Int32} (hf : zlk (zk_cd K) pc = some (.iastore, 1)) : zwp K (pc, L, .int x :: .int i :: .ref a :: st, M, uc, us) Q ↔ zia M 20 a i ∧ zwp K (pc + 1, L, st, zput M a i.toNatClampNeg (.int x), uc, us) Q :=
  zwp_reqc hf (fun h call => (zst_sp rfl _).trans (if_pos h)) (fun h call => (zst_sp rfl _).trans (if_neg h))
theorem zw_bastore {a : Nat} {i x : Int32} (hf : zlk (zk_cd K) pc = some (.bastore, 1)) : zwp K (pc, L, .int x :: .int i :: .ref a :: st, M, uc, us) Q ↔ (zia M 23 a i ∧ (x = 0 ∨ x = 1)) ∧ zwp K (pc + 1, L, st, zput M a i.toNatClampNeg (.int x), uc, us) Q :=
  zwp_reqc hf (fun h call => (zst_sp rfl _).trans (if_pos h)) (fun h call => (zst_sp rfl _).trans (if_neg h))
def zias2 (M : zM) (v a : Nat) (i : Int32) : Prop := zal M v = true ∧ zqk (zup (M.2.1 v).1) = true ∧ zix M (zup (M.2.1 v).1) a i = true
theorem zw_aastore {a v : Nat} {i : Int32} (hf : zlk (zk_cd K) pc = some (.aastore, 1)) : zwp K (pc, L, .ref v :: .int i :: .ref a :: st, M, uc, us) Q ↔ zias2 M v a i ∧ zwp K (pc + 1, L, st, zput M a i.toNatClampNeg (.ref v), uc, us) Q :=
  zwp_reqc hf (fun h call => (zst_sp rfl _).trans (if_pos h)) (fun h call => (zst_sp rfl _).trans (if_neg h))
theorem zw_alen {a : Nat} (hf : zlk (zk_cd K) pc = some (.arraylength, 1)) : zwp K (pc, L, .ref a :: st, M, uc, us) Q ↔ zarr M a ∧ zwp K (pc + 1, L, .int (nI (zlen' M a)) :: st, M, uc, us) Q :=
  zwp_reqc hf (fun h call => (zst_sp rfl _).trans (if_pos h)) (fun h call => (zst_sp rfl _).trans (if_neg h))
theorem zw_newarray {ty : ArrayType} {n : Int32} {t mc ms : Nat} (hf : zlk (zk_cd K) pc = some (.newarray ty, 2)) (ht : ztyp ty = t) (h20 : 20 ≤ t) (hmc : zk_mc K = mc) (hms : zk_ms K = ms) : zwp K (pc, L, .int n :: st, M, uc, us) Q ↔ (0 ≤ n ∧ n.toNatClampNeg ≤ 1000000 ∧ uc + 1 ≤ mc ∧ us + n.toNatClampNeg ≤ ms) ∧ zwp K (pc + 2, L, .ref (M.1 + 1) :: st, znew M (t, n.toNatClampNeg) (fun _ => zdef t), uc + 1, us + n.toNatClampNeg) Q := by
  subst ht
  subst hmc
  subst hms
  refine zwp_reqc hf (fun h call => ?_) (fun h call => ?_)
  · rw [zst_sp rfl]
    simp only [zsp, h20, true_and, zgo]
    first | exact if_pos h | exact if_neg h | (simp only [zok, zacp, and_assoc] at h; first | exact if_pos h | exact if_neg h)
  · rw [zst_sp rfl]
    simp only [zsp, h20, true_and, zgo]
    first | exact if_pos h | exact if_neg h | (simp only [zok, zacp, and_assoc] at h; first | exact if_pos h | exact if_neg h)
theorem zw_anewarray {ix c j q mc ms : Nat} {n : Int32} (hf : zlk (zk_cd K) pc = some (.anewarray ix, 3)) (hp : zpool (zk_own K) ix = some (2, c, j, q)) (hk : zqk (30 + c) = true) (hc9 : c < 10) (hmc : zk_mc K = mc) (hms : zk_ms K = ms) : zwp K (pc, L, .int n :: st, M, uc, us) Q ↔ (0 ≤ n ∧ n.toNatClampNeg ≤ 1000000 ∧ uc + 1 ≤ mc ∧ us + n.toNatClampNeg ≤ ms) ∧ zwp K (pc + 3, L, .ref (M.1 + 1) :: st, znew M (30 + c, n.toNatClampNeg) (fun _ => .null), uc + 1, us + n.toNatClampNeg) Q := by
  subst hmc
  subst hms
  refine zwp_reqc hf (fun h call => ?_) (fun h call => ?_)
  · rw [zst_sp rfl]
    simp only [zsp, hp, hk, hc9, true_and, zgo]
    first | exact if_pos h | exact if_neg h | (simp only [zok, zacp, and_assoc] at h; first | exact if_pos h | exact if_neg h)
  · rw [zst_sp rfl]
    simp only [zsp, hp, hk, hc9, true_and, zgo]
    first | exact if_pos h | exact if_neg h | (simp only [zok, zacp, and_assoc] at h; first | exact if_pos h | exact if_neg h)
theorem zw_anewarrA {ix j q mc ms : Nat} {n : Int32} (hf : zlk (zk_cd K) pc = some (.anewarray ix, 3)) (hp : zpool (zk_own K) ix = some (8, 20, j, q)) (hmc : zk_mc K = mc) (hms : zk_ms K = ms) : zwp K (pc, L, .int n :: st, M, uc, us) Q ↔ (0 ≤ n ∧ n.toNatClampNeg ≤ 1000000 ∧ uc + 1 ≤ mc ∧ us + n.toNatClampNeg ≤ ms) ∧ zwp K (pc + 3, L, .ref (M.1 + 1) :: st, znew M (40, n.toNatClampNeg) (fun _ => .null), uc + 1, us + n.toNatClampNeg) Q := by
  subst hmc
  subst hms
  refine zwp_reqc hf (fun h call => ?_) (fun h call => ?_)
  · rw [zst_sp rfl]
    simp only [zsp, hp, true_and, zgo]
    first | exact if_pos h | exact if_neg h | (simp only [zok, zacp, and_assoc] at h; first | exact if_pos h | exact if_neg h)
  · rw [zst_sp rfl]
    simp only [zsp, hp, true_and, zgo]
    first | exact if_pos h | exact if_neg h | (simp only [zok, zacp, and_assoc] at h; first | exact if_pos h | exact if_neg h)
theorem zw_multi2 {ix k j q mc ms : Nat} {x y : Int32} (hf : zlk (zk_cd K) pc = some (.multianewarray ix 2, 4)) (hp : zpool (zk_own K) ix = some (8, k, j, q)) (hmc : zk_mc K = mc) (hms : zk_ms K = ms) : zwp K (pc, L, .int y :: .int x :: st, M, uc, us) Q ↔ ((0 ≤ y ∧ y.toNatClampNeg ≤ 1000) ∧ (0 ≤ x ∧ x.toNatClampNeg ≤ 1000) ∧ zdok [x.toNatClampNeg, y.toNatClampNeg] k = true ∧ uc + zmc [x.toNatClampNeg, y.toNatClampNeg] ≤ mc ∧ us + zms [x.toNatClampNeg, y.toNatClampNeg] ≤ ms) ∧ zwp K (pc + 4, L, .ref (M.1 + 1) :: st, (zmk [x.toNatClampNeg, y.toNatClampNeg] k M).1, uc + zmc [x.toNatClampNeg, y.toNatClampNeg], us + zms [x.toNatClampNeg, y.toNatClampNeg]) Q := by
  subst hmc
  subst hms
  refine zwp_reqc hf (fun h call => ?_) (fun h call => ?_)
  · rw [zst_sp rfl]
    simp only [zsp, hp, zpopi, if_pos h.1, if_pos h.2.1, Nat.le_refl, true_and, zgo]
    exact if_pos h.2.2
  · rw [zst_sp rfl]
    by_cases h1 : 0 ≤ y ∧ y.toNatClampNeg ≤ 1000
    · by_cases h2 : 0 ≤ x ∧ x.toNatClampNeg ≤ 1000
      · simp only [zsp, hp, zpopi, if_pos h1, if_pos h2, Nat.le_refl, true_and, zgo]
        exact if_neg (fun h3 => h ⟨h1, h2, h3⟩)
      · simp only [zsp, hp, zpopi, if_pos h1, if_neg h2]
    · simp only [zsp, hp, zpopi, if_neg h1]
theorem zw_multi3 {ix k j q mc ms : Nat} {x y z : Int32} (hf : zlk (zk_cd K) pc = some (.multianewarray ix 3, 4)) (hp : zpool (zk_own K) ix = some (8, k, j, q)) (hmc : zk_mc K = mc) (hms : zk_ms K = ms) : zwp K (pc, L, .int z :: .int y :: .int x :: st, M, uc, us) Q ↔ ((0 ≤ z ∧ z.toNatClampNeg ≤ 1000) ∧ (0 ≤ y ∧ y.toNatClampNeg ≤ 1000) ∧ (0 ≤ x ∧ x.toNatClampNeg ≤ 1000) ∧ zdok [x.toNatClampNeg, y.toNatClampNeg, z.toNatClampNeg] k = true ∧ uc + zmc [x.toNatClampNeg, y.toNatClampNeg, z.toNatClampNeg] ≤ mc ∧ us + zms [x.toNatClampNeg, y.toNatClampNeg, z.toNatClampNeg] ≤ ms) ∧ zwp K (pc + 4, L, .ref (M.1 + 1) :: st, (zmk [x.toNatClampNeg, y.toNatClampNeg, z.toNatClampNeg] k M).1, uc + zmc [x.toNatClampNeg, y.toNatClampNeg, z.toNatClampNeg], us + zms [x.toNatClampNeg, y.toNatClampNeg, z.toNatClampNeg]) Q := by
  subst hmc
  subst hms
  refine zwp_reqc hf (fun h call => ?_) (fun h call => ?_)
  · rw [zst_sp rfl]
    simp only [zsp, hp, zpopi, if_pos h.1, if_pos h.2.1, if_pos h.2.2.1, show (2 : Nat) ≤ 3 from by omega, true_and, zgo]
    exact if_pos h.2.2.2
  · rw [zst_sp rfl]
    by_cases h0 : 0 ≤ z ∧ z.toNatClampNeg ≤ 1000
    · by_cases h1 : 0 ≤ y ∧ y.toNatClampNeg ≤ 1000
      · by_cases h2 : 0 ≤ x ∧ x.toNatClampNeg ≤ 1000
        · simp only [zsp, hp, zpopi, if_pos h0, if_pos h1, if_pos h2, show (2 : Nat) ≤ 3 from by omega, true_and, zgo]
          exact if_neg (fun h3 => h ⟨h0, h1, h2, h3⟩)
        · simp only [zsp, hp, zpopi, if_pos h0, if_pos h1, if_neg h2]
      · simp only [zsp, hp, zpopi, if_pos h0, if_neg h1]
    · simp only [zsp, hp, zpopi, if_neg h0]
theorem zw_idiv {x y : Int32} (hf : zlk (zk_cd K) pc = some (.idiv, 1)) : zwp K (pc, L, .int y :: .int x :: st, M, uc, us) Q ↔ (¬ y = 0) ∧ zwp K (pc + 1, L, .int (x / y) :: st, M, uc, us) Q :=
  zwp_reqc hf (fun h call => (zst_sp rfl _).trans (if_neg h)) (fun h call => (zst_sp rfl _).trans (if_pos (Classical.not_not.mp h)))
theorem zw_irem {x y : Int32} (hf : zlk (zk_cd K) pc = some (.irem, 1)) : zwp K (pc, L, .int y :: .int x :: st, M, uc, us) Q ↔ (¬ y = 0) ∧ zwp K (pc + 1, L, .int (x - x / y * y) :: st, M, uc, us) Q :=
  zwp_reqc hf (fun h call => (zst_sp rfl _).trans (if_neg h)) (fun h call => (zst_sp rfl _).trans (if_pos (Classical.not_not.mp h)))
theorem zw_ldc {ix x j q : Nat} (hf : zlk (zk_cd K) pc = some (.ldc ix, 2)) (hp : zpool (zk_own K) ix = some (7, x, j, q)) : zwp K (pc, L, st, M, uc, us) Q ↔ zwp K (pc + 2, L, .int (nI x) :: st, M, uc, us) Q :=
  zwp_step hf (fun call => by
    rw [zst_sp rfl]
    simp only [zsp, hp]
    rfl)
theorem zw_new {ix c j q n mc ms : Nat} (hf : zlk (zk_cd K) pc = some (.new ix, 3)) (hp : zpool (zk_own K) ix = some (2, c, j, q)) (hc : c < 11) (hn : zN c = n) (hmc : zk_mc K = mc) (hms : zk_ms K = ms) : zwp K (pc, L, st, M, uc, us) Q ↔ (uc + 1 ≤ mc ∧ us + n ≤ ms) ∧ zwp K (pc + 3, L, .ref (M.1 + 1) :: st, znew M (c, n) (fun j => defaultValue (zty c j)), uc + 1, us + n) Q := by
  subst hn
  subst hmc
  subst hms
  refine zwp_reqc hf (fun h call => ?_) (fun h call => ?_)
  · rw [zst_sp rfl]
    simp only [zsp, hp, hc, if_true, zgo]
    first | exact if_pos h | exact if_neg h | (simp only [zok, zacp, and_assoc] at h; first | exact if_pos h | exact if_neg h)
  · rw [zst_sp rfl]
    simp only [zsp, hp, hc, if_true, zgo]
    first | exact if_pos h | exact if_neg h | (simp only [zok, zacp, and_assoc] at h; first | exact if_pos h | exact if_neg h)
theorem zw_throw {ix c j q mc ms rl : Nat} {z : Nat × Nat × Bool × Nat × Nat × String × Nat × Nat} (hf : zlk (zk_cd K) pc = some (.new ix, 3)) (hp : zpool (zk_own K) ix = some (2, c, j, q)) (hc : ¬ c < 11) (ht : zlk (zk_ts K) pc = some (c, z.2)) (hh : zk_hs K = []) (hr : 6 ≤ zk_rf K) (hrl : zk_rl K = rl) (hmc : zk_mc K = mc) (hms : zk_ms K = ms) : zwp K (pc, L, st, M, uc, us) Q ↔ (zct st + 82 ≤ rl ∧ uc + 1 ≤ mc ∧ us + 6 ≤ ms) ∧ Q (.inr c) M := by
  subst hrl
  subst hmc
  subst hms
  refine zwp_reqdc hf (fun h call => ?_) (fun h call => ?_)
  · rw [zst_sp rfl]
    simp only [zsp, hp, hc, if_false, ht, hh, hr, true_and, zend]
    first | exact if_pos h | exact if_neg h | (simp only [zok, zacp, and_assoc] at h; first | exact if_pos h | exact if_neg h)
  · rw [zst_sp rfl]
    simp only [zsp, hp, hc, if_false, ht, hh, hr, true_and, zend]
    first | exact if_pos h | exact if_neg h | (simp only [zok, zacp, and_assoc] at h; first | exact if_pos h | exact if_neg h)
theorem zw_iret {v : Int32} {mc ms : Nat} (hf : zlk (zk_cd K) pc = some (.ireturn, 1)) (hr : zk_rt K = some .int) (hmc : zk_mc K = mc) (hms : zk_ms K = ms) : zwp K (pc, L, [.int v], M, uc, us) Q ↔ (uc ≤ mc ∧ us ≤ ms) ∧ Q (.inl (some (.int v))) M := by
  subst hmc
  subst hms
  refine zwp_reqdc hf (fun h call => ?_) (fun h call => ?_)
  · rw [zst_sp rfl]
    have hn : narrow .int (.int v) = .int v := rfl
    simp only [zsp, hr, hn, true_and, zend]
    first | exact if_pos h | exact if_neg h | (simp only [zok, zacp, and_assoc] at h; first | exact if_pos h | exact if_neg h)
  · rw [zst_sp rfl]
    have hn : narrow .int (.int v) = .int v := rfl
    simp only [zsp, hr, hn, true_and, zend]
    first | exact if_pos h | exact if_neg h | (simp only [zok, zacp, and_assoc] at h; first | exact if_pos h | exact if_neg h)
theorem zw_zret {v : Int32} {mc ms : Nat} (hf : zlk (zk_cd K) pc = some (.ireturn, 1)) (hr : zk_rt K = some .boolean) (hmc : zk_mc K = mc) (hms : zk_ms K = ms) : zwp K (pc, L, [.int v], M, uc, us) Q ↔ (narrow .boolean (.int v) = .int v ∧ uc ≤ mc ∧ us ≤ ms) ∧ Q (.inl (some (.int v))) M := by
  subst hmc
  subst hms
  refine zwp_reqdc hf (fun h call => ?_) (fun h call => ?_)
  · rw [zst_sp rfl]
    simp only [zsp, hr, zend]
    first | exact if_pos h | exact if_neg h | (simp only [zok, zacp, and_assoc] at h; first | exact if_pos h | exact if_neg h)
  · rw [zst_sp rfl]
    simp only [zsp, hr, zend]
    first | exact if_pos h | exact if_neg h | (simp only [zok, zacp, and_assoc] at h; first | exact if_pos h | exact if_neg h)
theorem zw_lret {v : Int64} {mc ms : Nat} (hf : zlk (zk_cd K) pc = some (.lreturn, 1)) (hr : zk_rt K = some .long) (hmc : zk_mc K = mc) (hms : zk_ms K = ms) : zwp K (pc, L, [.long v], M, uc, us) Q ↔ (uc ≤ mc ∧ us ≤ ms) ∧ Q (.inl (some (.long v))) M := by
  subst hmc
  subst hms
  refine zwp_reqdc hf (fun h call => ?_) (fun h call => ?_)
  · rw [zst_sp rfl]
    simp only [zsp, hr, true_and, zend]
    first | exact if_pos h | exact if_neg h | (simp only [zok, zacp, and_assoc] at h; first | exact if_pos h | exact if_neg h)
  · rw [zst_sp rfl]
    simp only [zsp, hr, true_and, zend]
    first | exact if_pos h | exact if_neg h | (simp only [zok, zacp, and_assoc] at h; first | exact if_pos h | exact if_neg h)
theorem zw_dret {v : UInt64} {mc ms : Nat} (hf : zlk (zk_cd K) pc = some (.dreturn, 1)) (hr : zk_rt K = some .double) (hmc : zk_mc K = mc) (hms : zk_ms K = ms) : zwp K (pc, L, [.double v], M, uc, us) Q ↔ (uc ≤ mc ∧ us ≤ ms) ∧ Q (.inl (some (.double v))) M := by
  subst hmc
  subst hms
  refine zwp_reqdc hf (fun h call => ?_) (fun h call => ?_)
  · rw [zst_sp rfl]
    simp only [zsp, hr, true_and, zend]
    first | exact if_pos h | exact if_neg h | (simp only [zok, zacp, and_assoc] at h; first | exact if_pos h | exact if_neg h)
  · rw [zst_sp rfl]
    simp only [zsp, hr, true_and, zend]
    first | exact if_pos h | exact if_neg h | (simp only [zok, zacp, and_assoc] at h; first | exact if_pos h | exact if_neg h)
theorem zw_aret {v : Nat} {mc ms : Nat} {rt : FieldType} (hf : zlk (zk_cd K) pc = some (.areturn, 1)) (hr : zk_rt K = some rt) (hk : (∃ n, rt = .object n) ∨ ∃ t, rt = .array t) (hmc : zk_mc K = mc) (hms : zk_ms K = ms) : zwp K (pc, L, [.ref v], M, uc, us) Q ↔ (uc ≤ mc ∧ us ≤ ms) ∧ Q (.inl (some (.ref v))) M := by
  subst hmc
  subst hms
  refine zwp_reqdc hf (fun h call => ?_) (fun h call => ?_)
  · rw [zst_sp rfl]
    rcases hk with ⟨n, hk⟩ | ⟨n, hk⟩ <;> subst hk <;> simp only [zsp, hr, zend] <;> exact if_pos h
  · rw [zst_sp rfl]
    rcases hk with ⟨n, hk⟩ | ⟨n, hk⟩ <;> subst hk <;> simp only [zsp, hr, zend] <;> exact if_neg h
theorem zw_vret {mc ms : Nat} (hf : zlk (zk_cd K) pc = some (.return_, 1)) (hr : zk_rt K = none) (hmc : zk_mc K = mc) (hms : zk_ms K = ms) : zwp K (pc, L, [], M, uc, us) Q ↔ (uc ≤ mc ∧ us ≤ ms) ∧ Q (.inl none) M := by
  subst hmc
  subst hms
  refine zwp_reqdc hf (fun h call => ?_) (fun h call => ?_)
  · rw [zst_sp rfl]
    simp only [zsp, hr, true_and, zend]
    first | exact if_pos h | exact if_neg h | (simp only [zok, zacp, and_assoc] at h; first | exact if_pos h | exact if_neg h)
  · rw [zst_sp rfl]
    simp only [zsp, hr, true_and, zend]
    first | exact if_pos h | exact if_neg h | (simp only [zok, zacp, and_assoc] at h; first | exact if_pos h | exact if_neg h)
theorem zw_ldc2 {ix x j q : Nat} (hf : zlk (zk_cd K) pc = some (.ldc2_w ix, 3)) (hp : zpool (zk_own K) ix = some (6, x, j, q)) : zwp K (pc, L, st, M, uc, us) Q ↔ zwp K (pc + 3, L, .long (Int64.ofNat x) :: st, M, uc, us) Q :=
  zwp_step hf (fun call => by
    rw [zst_sp rfl]
    simp only [zsp, hp]
    rfl)
theorem zw_obj {ix x j q a : Nat} {rf rl : Nat} (hf : zlk (zk_cd K) pc = some (.invokespecial ix, 3)) (hp : zpool (zk_own K) ix = some (3, x, j, q)) (hr : 1 ≤ zk_rf K) (hrl : zk_rl K = rl) : zwp K (pc, L, .ref a :: st, M, uc, us) Q ↔ zct st + 12 ≤ rl ∧ zwp K (pc + 3, L, st, M, uc, us) Q := by
  subst hrl
  refine zwp_reqc hf (fun h call => ?_) (fun h call => ?_)
  · simp only [zst, hp, zjdk, hr, true_and, zgo]
    first | exact if_pos h | exact if_neg h | (simp only [zok, zacp, and_assoc] at h; first | exact if_pos h | exact if_neg h)
  · simp only [zst, hp, zjdk, hr, true_and, zgo]
    first | exact if_pos h | exact if_neg h | (simp only [zok, zacp, and_assoc] at h; first | exact if_pos h | exact if_neg h)
theorem zw_abs {ix j q : Nat} {x : Int32} {rl mc ms : Nat} (hf : zlk (zk_cd K) pc = some (.invokestatic ix, 3)) (hp : zpool (zk_own K) ix = some (4, 0, j, q)) (hr : 1 ≤ zk_rf K) (hrl : zk_rl K = rl) (hmc : zk_mc K = mc) (hms : zk_ms K = ms) : zwp K (pc, L, .int x :: st, M, uc, us) Q ↔ (zct st + 13 ≤ rl ∧ uc ≤ mc ∧ us ≤ ms) ∧ zwp K (pc + 3, L, .int (if 0 ≤ x then x else 0 - x) :: st, M, uc, us) Q := by
  subst hrl
  subst hmc
  subst hms
  refine zwp_reqc hf (fun h call => ?_) (fun h call => ?_)
  · simp only [zst, hp, zjdk, hr, true_and, zgo]
    first | exact if_pos h | exact if_neg h | (simp only [zok, zacp, and_assoc] at h; first | exact if_pos h | exact if_neg h)
  · simp only [zst, hp, zjdk, hr, true_and, zgo]
    first | exact if_pos h | exact if_neg h | (simp only [zok, zacp, and_assoc] at h; first | exact if_pos h | exact if_neg h)
theorem zw_acopy {ix x j q s d : Nat} {sp dp n : Int32} {rl : Nat} (hf : zlk (zk_cd K) pc = some (.invokestatic ix, 3)) (hp : zpool (zk_own K) ix = some (5, x, j, q)) (hr : 1 ≤ zk_rf K) (hrl : zk_rl K = rl) : zwp K (pc, L, .int n :: .int dp :: .ref d :: .int sp :: .ref s :: st, M, uc, us) Q ↔ (zacp M s d sp dp n ∧ zct st + 68 ≤ rl) ∧ zwp K (pc + 3, L, st, zcopy M s sp.toNatClampNeg d dp.toNatClampNeg n.toNatClampNeg, uc, us) Q := by
  subst hrl
  refine zwp_reqc hf (fun h call => ?_) (fun h call => ?_)
  · simp only [zst, hp, zjdk, hr, true_and, zgo]
    exact if_pos ⟨h.1.1, h.1.2.1, h.1.2.2.1, h.1.2.2.2, h.2⟩
  · simp only [zst, hp, zjdk, hr, true_and, zgo]
    exact if_neg (fun q => h ⟨⟨q.1, q.2.1, q.2.2.1, q.2.2.2.1⟩, q.2.2.2.2⟩)
/-- calls -/
theorem zw_call {J : zI} {args r : List Value} {i : Instr} {len x y n c d C D pc' : Nat} (hf : zlk (zk_cd K) pc = some (i, len)) (hs : ∀ call, zst call K i (pc, L, st, M, uc, us) = zinv call K x y pc L st M uc us) (hJ : zmt[x]? = some J) (hn : zk_na J + (if y = 1 ∨ y = 4 ∨ y = 6 then 0 else 1) = n) (hp : zpop n [] st = some (args, r))
    (h1 : zk_rf J + 1 ≤ zk_rf K) (h2 : 8 + (zk_ml J + 11) + zk_rl J ≤ zk_rl K) (hc : zk_mc J = c) (hd : zk_ms J = d) (hC : zk_mc K = C) (hD : zk_ms K = D) (hpc : pc + 3 = pc') : zwp K (pc, L, st, M, uc, us) Q ↔ ((zct r ≤ 8 ∧ uc + c ≤ C ∧ us + d ≤ D) ∧ zrcv J y args M = true) ∧ zcl x args M (zbk K pc' pc L r (uc + c) (us + d) Q) := by
  subst hn; subst hc; subst hd; subst hC; subst hD; subst hpc
  by_cases h3 : zct r ≤ 8
  · rw [zwp_call hf hs hJ hp ⟨h1, h2, h3⟩]
    simp only [h3, true_and, and_assoc]
    rfl
  · rw [zwp_none hf (fun call => by
      rw [hs]
      unfold zinv
      simp only [hJ, hp]
      rw [if_neg]
      exact fun q => h3 q.2.2.1)]
    simp only [h3, false_and]
theorem zw_hsV {ix x q : Nat} (hp : zpool (zk_own K) (ix + 100000 * zk_dp K) = some (1, x, 0, q)) (hi : ix < 100000) : ∀ call, zst call K (.invokevirtual ix) (pc, L, st, M, uc, us) = zinv call K x 0 pc L st M uc us := fun call => by
  simp only [zst, hp]
  exact if_pos ⟨by simp, hi⟩
theorem zw_hsS {ix x y q : Nat} (hp : zpool (zk_own K) ix = some (1, x, y, q)) (hi : ix < 100000) (hy : y = 1 ∨ y = 4 ∨ y = 6) : ∀ call, zst call K (.invokestatic ix) (pc, L, st, M, uc, us) = zinv call K x y pc L st M uc us := fun call => by
  simp only [zst, hp]
  exact if_pos ⟨hy, hi⟩
theorem zw_hsI {ix x y q : Nat} (hp : zpool (zk_own K) ix = some (1, x, y, q)) (hi : ix < 100000) (hy : y = 2 ∨ y = 5) : ∀ call, zst call K (.invokespecial ix) (pc, L, st, M, uc, us) = zinv call K x y pc L st M uc us := fun call => by
  simp only [zst, hp]
  exact if_pos ⟨hy, hi⟩
theorem zrcv_V {J : zI} {a : Nat} {as : List Value} {c n : Nat} (hc : zk_own J = c) (hn : zN c = n) : (zrcv J 0 (.ref a :: as) M = true) = zok M a c n := by
  subst hc
  subst hn
  simp [zrcv, zok]
theorem zrcv_T {J : zI} {y a : Nat} {as : List Value} (hy : y ≠ 0) : (zrcv J y (.ref a :: as) M = true) = True := by
  simp only [zrcv]
  split <;> simp [hy]
theorem zrcv_S {J : zI} {y : Nat} {as : List Value} (hy : y = 1 ∨ y = 4 ∨ y = 6) : (zrcv J y as M = true) = True := by
  simp only [zrcv, if_pos hy]
end ZW
