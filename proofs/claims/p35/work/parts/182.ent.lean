/-! entries, glue, loops: by program (wip/p35/gen/emit_ent.py) -/
def zisI (v : Value) : Prop := match v with
  | .int _ => True
  | _ => False
def zgI (v : Value) : Int32 := match v with
  | .int x => x
  | _ => 0
def zisR (v : Value) : Prop := match v with
  | .ref _ => True
  | _ => False
def zgR (v : Value) : Nat := match v with
  | .ref x => x
  | _ => 0
theorem zvi_eq (v : Value) (P : Int32 → Prop) : zvi v P = (zisI v ∧ P (zgI v)) := by
  cases v <;> simp [zvi, zisI, zgI]
theorem zvr_eq (v : Value) (P : Nat → Prop) : zvr v P = (zisR v ∧ P (zgR v)) := by
  cases v <;> simp [zvr, zisR, zgR]
theorem zisI_int (x : Int32) : zisI (.int x) = True := rfl
theorem zisR_ref (x : Nat) : zisR (.ref x) = True := rfl
theorem zgI_int (x : Int32) : zgI (.int x) = x := rfl
theorem zgR_ref (x : Nat) : zgR (.ref x) = x := rfl
def zfo {X : Type} (f : Nat → X → X) : Nat → X → X
  | 0, x => x
  | k + 1, x => f k (zfo f k x)
theorem zfor {X : Type} {n : Nat} {f : Nat → X → X} {P : Nat → X → Prop} (h : ∀ i x, i < n → (P i x ↔ P (i + 1) (f i x))) (x : X) : ∀ k, k ≤ n → (P 0 x ↔ P k (zfo f k x))
  | 0, _ => Iff.rfl
  | k + 1, hk => (zfor h x k (by omega)).trans (h k _ (by omega))
theorem zforI {X : Type} {n : Nat} {f : Nat → X → X} {P : Nat → X → Prop} {V : Nat → X → Prop} (h : ∀ i x, i < n → V i x → V (i + 1) (f i x) ∧ (P i x ↔ P (i + 1) (f i x))) (x : X) (h0 : V 0 x) : ∀ k, k ≤ n → V k (zfo f k x) ∧ (P 0 x ↔ P k (zfo f k x))
  | 0, _ => ⟨h0, Iff.rfl⟩
  | k + 1, hk => by
    have e := zforI h x h0 k (by omega)
    have e' := h k _ (by omega) e.1
    exact ⟨e'.1, e.2.trans e'.2⟩
theorem zfo_ext {X : Type} {f g : Nat → X → X} : ∀ (n : Nat) (x : X), (∀ i x, i < n → f i x = g i x) → zfo f n x = zfo g n x
  | 0, _, _ => rfl
  | n + 1, x, h => by
    show f n (zfo f n x) = g n (zfo g n x)
    rw [zfo_ext n x (fun i x hi => h i x (by omega)), h n _ (by omega)]
def zfe {X R : Type} (f : Nat → X → X ⊕ R) (d : Nat → X → R) : Nat → Nat → X → R
  | 0, i, x => d i x
  | k + 1, i, x => match f i x with
    | .inl x' => zfe f d k (i + 1) x'
    | .inr r => r
theorem zforE {X R : Type} {n : Nat} {f : Nat → X → X ⊕ R} {d : Nat → X → R} {P : Nat → X → Prop} {D : R → Prop} (h : ∀ i x, i < n → (P i x ↔ match f i x with | .inl x' => P (i + 1) x' | .inr r => D r)) (hd : ∀ x, P n x ↔ D (d n x)) : ∀ k i x, i + k = n → (P i x ↔ D (zfe f d k i x))
  | 0, i, x, hk => by
    have : i = n := by omega
    subst this
    exact hd x
  | k + 1, i, x, hk => by
    rw [h i x (by omega)]
    unfold zfe
    cases f i x with
    | inl x' => exact zforE h hd k (i + 1) x' (by omega)
    | inr r => exact Iff.rfl
def inR (v l m : Int32) : Bool := !decide (v < l) && !decide (m < v)
theorem zfitB0 : (zfit .boolean (.int (nI 0)) = true) = True := eq_true (by decide +kernel)
theorem zfitB1 : (zfit .boolean (.int (nI 1)) = true) = True := eq_true (by decide +kernel)
theorem zneg1 : (nI 0 - nI 1) = (-1 : Int32) := by decide +kernel
theorem zm1_ne {n : Nat} (h : n < 2 ^ 31) : ((-1 : Int32) = nI n) = False := by
  refine eq_false (fun e => ?_)
  have : (nI n).toInt = n := nI_toInt h
  rw [← e] at this
  have h1 : (-1 : Int32).toInt = -1 := by decide +kernel
  omega
theorem zne_m1 {n : Nat} (h : n < 2 ^ 31) : (nI n = (-1 : Int32)) = False := by
  exact eq_false (fun e => (zm1_ne h).mp e.symm)
theorem zm1_lt {n : Nat} (h : n < 2 ^ 31) : ((-1 : Int32) < nI n) = True := by
  refine eq_true ?_
  rw [Int32.lt_iff_toInt_lt, nI_toInt h, show (-1 : Int32).toInt = -1 from by decide +kernel]
  omega
theorem zlt_m1 {n : Nat} (h : n < 2 ^ 31) : (nI n < (-1 : Int32)) = False := by
  refine eq_false ?_
  rw [Int32.lt_iff_toInt_lt, nI_toInt h, show (-1 : Int32).toInt = -1 from by decide +kernel]
  omega
theorem znarB0 : (narrow .boolean (.int (nI 0)) = .int (nI 0)) = True := eq_true (by decide +kernel)
theorem znarB1 : (narrow .boolean (.int (nI 1)) = .int (nI 1)) = True := eq_true (by decide +kernel)
section ZEN
variable {M : zM} {Q : zO → zM → Prop} {a u0 u1 u2 u3 u4 u5 u6 u7 u8 : Nat} {v0 v1 v2 v3 v4 v5 v6 v7 v8 : Int32} {w0 w1 w2 : Int64}
theorem e0 : zcl 0 [.ref a] M Q ↔ zwp zm_0 (0, [some (.ref a)], [], M, 0, 0) Q := (zcl_body zmt_at_0 (Nat.le_of_ble_eq_true rfl)).trans Iff.rfl
theorem e1 : zcl 1 [.ref a] M Q ↔ zwp zm_1 (0, [some (.ref a)], [], M, 0, 0) Q := (zcl_body zmt_at_1 (Nat.le_of_ble_eq_true rfl)).trans Iff.rfl
theorem e2 : zcl 2 [.ref a, .int v0, .int v1, .int v2, .int v3, .int v4, .int v5] M Q ↔ zwp zm_2 (0, [some (.ref a), some (.int v0), some (.int v1), some (.int v2), some (.int v3), some (.int v4), some (.int v5)], [], M, 0, 0) Q := (zcl_body zmt_at_2 (Nat.le_of_ble_eq_true rfl)).trans Iff.rfl
theorem e3 : zcl 3 [.ref a, .int v0] M Q ↔ zwp zm_3 (0, [some (.ref a), some (.int v0)], [], M, 0, 0) Q := (zcl_body zmt_at_3 (Nat.le_of_ble_eq_true rfl)).trans Iff.rfl
theorem e4 : zcl 4 [.ref a] M Q ↔ zwp zm_4 (0, [some (.ref a)], [], M, 0, 0) Q := (zcl_body zmt_at_4 (Nat.le_of_ble_eq_true rfl)).trans Iff.rfl
theorem e5 : zcl 5 [.ref a] M Q ↔ zwp zm_5 (0, [some (.ref a)], [], M, 0, 0) Q := (zcl_body zmt_at_5 (Nat.le_of_ble_eq_true rfl)).trans Iff.rfl
theorem e6 : zcl 6 [.ref a, .int v0] M Q ↔ zwp zm_6 (0, [some (.ref a), some (.int v0)], [], M, 0, 0) Q := (zcl_body zmt_at_6 (Nat.le_of_ble_eq_true rfl)).trans Iff.rfl
theorem e7 : zcl 7 [.ref a] M Q ↔ zwp zm_7 (0, [some (.ref a)], [], M, 0, 0) Q := (zcl_body zmt_at_7 (Nat.le_of_ble_eq_true rfl)).trans Iff.rfl
theorem e8 : zcl 8 [.ref a, .int v0] M Q ↔ zwp zm_8 (0, [some (.ref a), some (.int v0)], [], M, 0, 0) Q := (zcl_body zmt_at_8 (Nat.le_of_ble_eq_true rfl)).trans Iff.rfl
theorem e9 : zcl 9 [.ref a] M Q ↔ zwp zm_9 (0, [some (.ref a)], [], M, 0, 0) Q := (zcl_body zmt_at_9 (Nat.le_of_ble_eq_true rfl)).trans Iff.rfl
theorem e10 : zcl 10 [.ref a, .int v0, .int v1, .int v2] M Q ↔ zwp zm_10 (0, [some (.ref a), some (.int v0), some (.int v1), some (.int v2)], [], M, 0, 0) Q := (zcl_body zmt_at_10 (Nat.le_of_ble_eq_true rfl)).trans Iff.rfl
theorem e11 : zcl 11 [.ref a, .int v0, .int v1, .int v2] M Q ↔ zwp zm_11 (0, [some (.ref a), some (.int v0), some (.int v1), some (.int v2)], [], M, 0, 0) Q := (zcl_body zmt_at_11 (Nat.le_of_ble_eq_true rfl)).trans Iff.rfl
theorem e12 : zcl 12 [.ref a, .ref u0] M Q ↔ zwp zm_12 (0, [some (.ref a), some (.ref u0)], [], M, 0, 0) Q := (zcl_body zmt_at_12 (Nat.le_of_ble_eq_true rfl)).trans Iff.rfl
theorem e13 : zcl 13 [.ref a, .ref u0] M Q ↔ zwp zm_13 (0, [some (.ref a), some (.ref u0)], [], M, 0, 0) Q := (zcl_body zmt_at_13 (Nat.le_of_ble_eq_true rfl)).trans Iff.rfl
theorem e14 : zcl 14 [.ref a] M Q ↔ zwp zm_14 (0, [some (.ref a)], [], M, 0, 0) Q := (zcl_body zmt_at_14 (Nat.le_of_ble_eq_true rfl)).trans Iff.rfl
theorem e15 : zcl 15 [.ref a] M Q ↔ zwp zm_15 (0, [some (.ref a)], [], M, 0, 0) Q := (zcl_body zmt_at_15 (Nat.le_of_ble_eq_true rfl)).trans Iff.rfl
theorem e16 : zcl 16 [.ref a, .ref u0] M Q ↔ zwp zm_16 (0, [some (.ref a), some (.ref u0)], [], M, 0, 0) Q := (zcl_body zmt_at_16 (Nat.le_of_ble_eq_true rfl)).trans Iff.rfl
theorem e17 : zcl 17 [.ref a, .int v0] M Q ↔ zwp zm_17 (0, [some (.ref a), some (.int v0)], [], M, 0, 0) Q := (zcl_body zmt_at_17 (Nat.le_of_ble_eq_true rfl)).trans Iff.rfl
theorem e18 : zcl 18 [.ref a] M Q ↔ zwp zm_18 (0, [some (.ref a)], [], M, 0, 0) Q := (zcl_body zmt_at_18 (Nat.le_of_ble_eq_true rfl)).trans Iff.rfl
theorem e19 : zcl 19 [.ref a] M Q ↔ zwp zm_19 (0, [some (.ref a)], [], M, 0, 0) Q := (zcl_body zmt_at_19 (Nat.le_of_ble_eq_true rfl)).trans Iff.rfl
theorem e20 : zcl 20 [.ref a, .int v0] M Q ↔ zwp zm_20 (0, [some (.ref a), some (.int v0)], [], M, 0, 0) Q := (zcl_body zmt_at_20 (Nat.le_of_ble_eq_true rfl)).trans Iff.rfl
theorem e21 : zcl 21 [.ref a] M Q ↔ zwp zm_21 (0, [some (.ref a)], [], M, 0, 0) Q := (zcl_body zmt_at_21 (Nat.le_of_ble_eq_true rfl)).trans Iff.rfl
theorem e22 : zcl 22 [.ref a, .int v0, .int v1, .int v2] M Q ↔ zwp zm_22 (0, [some (.ref a), some (.int v0), some (.int v1), some (.int v2)], [], M, 0, 0) Q := (zcl_body zmt_at_22 (Nat.le_of_ble_eq_true rfl)).trans Iff.rfl
theorem e23 : zcl 23 [.ref a, .ref u0, .ref u1, .ref u2, .int v3] M Q ↔ zwp zm_23 (0, [some (.ref a), some (.ref u0), some (.ref u1), some (.ref u2), some (.int v3)], [], M, 0, 0) Q := (zcl_body zmt_at_23 (Nat.le_of_ble_eq_true rfl)).trans Iff.rfl
theorem e24 : zcl 24 [.ref a] M Q ↔ zwp zm_24 (0, [some (.ref a)], [], M, 0, 0) Q := (zcl_body zmt_at_24 (Nat.le_of_ble_eq_true rfl)).trans Iff.rfl
theorem e25 : zcl 25 [.ref a, .ref u0, .ref u1, .int v2, .int v3] M Q ↔ zwp zm_25 (0, [some (.ref a), some (.ref u0), some (.ref u1), some (.int v2), some (.int v3), none], [], M, 0, 0) Q := (zcl_body zmt_at_25 (Nat.le_of_ble_eq_true rfl)).trans Iff.rfl
theorem e26 : zcl 26 [.ref a, .int v0, .int v1] M Q ↔ zwp zm_26 (0, [some (.ref a), some (.int v0), some (.int v1), none], [], M, 0, 0) Q := (zcl_body zmt_at_26 (Nat.le_of_ble_eq_true rfl)).trans Iff.rfl
theorem e27 : zcl 27 [.ref a, .ref u0, .int v1] M Q ↔ zwp zm_27 (0, [some (.ref a), some (.ref u0), some (.int v1)], [], M, 0, 0) Q := (zcl_body zmt_at_27 (Nat.le_of_ble_eq_true rfl)).trans Iff.rfl
theorem e28 : zcl 28 [.ref a, .ref u0, .ref u1, .int v2, .int v3, .int v4] M Q ↔ zwp zm_28 (0, [some (.ref a), some (.ref u0), some (.ref u1), some (.int v2), some (.int v3), some (.int v4), none, none], [], M, 0, 0) Q := (zcl_body zmt_at_28 (Nat.le_of_ble_eq_true rfl)).trans Iff.rfl
theorem e29 : zcl 29 [.ref a, .ref u0, .int v1, .int v2] M Q ↔ zwp zm_29 (0, [some (.ref a), some (.ref u0), some (.int v1), some (.int v2)], [], M, 0, 0) Q := (zcl_body zmt_at_29 (Nat.le_of_ble_eq_true rfl)).trans Iff.rfl
theorem e30 : zcl 30 [.ref u0, .int v1, .int v2, .int v3] M Q ↔ zwp zm_30 (0, [some (.ref u0), some (.int v1), some (.int v2), some (.int v3)], [], M, 0, 0) Q := (zcl_body zmt_at_30 (Nat.le_of_ble_eq_true rfl)).trans Iff.rfl
theorem e31 : zcl 31 [.ref a] M Q ↔ zwp zm_31 (0, [some (.ref a), none], [], M, 0, 0) Q := (zcl_body zmt_at_31 (Nat.le_of_ble_eq_true rfl)).trans Iff.rfl
theorem e32 : zcl 32 [.ref a, .int v0] M Q ↔ zwp zm_32 (0, [some (.ref a), some (.int v0)], [], M, 0, 0) Q := (zcl_body zmt_at_32 (Nat.le_of_ble_eq_true rfl)).trans Iff.rfl
theorem e33 : zcl 33 [.ref a, .int v0, .int v1] M Q ↔ zwp zm_33 (0, [some (.ref a), some (.int v0), some (.int v1), none, none], [], M, 0, 0) Q := (zcl_body zmt_at_33 (Nat.le_of_ble_eq_true rfl)).trans Iff.rfl
theorem e34 : zcl 34 [.ref a, .int v0] M Q ↔ zwp zm_34 (0, [some (.ref a), some (.int v0), none, none], [], M, 0, 0) Q := (zcl_body zmt_at_34 (Nat.le_of_ble_eq_true rfl)).trans Iff.rfl
theorem e35 : zcl 35 [.ref a, .int v0] M Q ↔ zwp zm_35 (0, [some (.ref a), some (.int v0), none, none], [], M, 0, 0) Q := (zcl_body zmt_at_35 (Nat.le_of_ble_eq_true rfl)).trans Iff.rfl
theorem e36 : zcl 36 [.ref a, .int v0] M Q ↔ zwp zm_36 (0, [some (.ref a), some (.int v0), none, none], [], M, 0, 0) Q := (zcl_body zmt_at_36 (Nat.le_of_ble_eq_true rfl)).trans Iff.rfl
theorem e37 : zcl 37 [.ref a, .int v0, .int v1] M Q ↔ zwp zm_37 (0, [some (.ref a), some (.int v0), some (.int v1), none, none, none, none], [], M, 0, 0) Q := (zcl_body zmt_at_37 (Nat.le_of_ble_eq_true rfl)).trans Iff.rfl
theorem e38 : zcl 38 [.ref a, .int v0] M Q ↔ zwp zm_38 (0, [some (.ref a), some (.int v0), none, none], [], M, 0, 0) Q := (zcl_body zmt_at_38 (Nat.le_of_ble_eq_true rfl)).trans Iff.rfl
theorem e39 : zcl 39 [.ref a, .ref u0, .int v1, .ref u2] M Q ↔ zwp zm_39 (0, [some (.ref a), some (.ref u0), some (.int v1), some (.ref u2), none, none, none], [], M, 0, 0) Q := (zcl_body zmt_at_39 (Nat.le_of_ble_eq_true rfl)).trans Iff.rfl
theorem e40 : zcl 40 [.ref a] M Q ↔ zwp zm_40 (0, [some (.ref a), none], [], M, 0, 0) Q := (zcl_body zmt_at_40 (Nat.le_of_ble_eq_true rfl)).trans Iff.rfl
theorem e41 : zcl 41 [.ref a, .int v0, .int v1] M Q ↔ zwp zm_41 (0, [some (.ref a), some (.int v0), some (.int v1), none, none], [], M, 0, 0) Q := (zcl_body zmt_at_41 (Nat.le_of_ble_eq_true rfl)).trans Iff.rfl
theorem e42 : zcl 42 [.ref a, .int v0, .int v1, .int v2] M Q ↔ zwp zm_42 (0, [some (.ref a), some (.int v0), some (.int v1), some (.int v2), none, none], [], M, 0, 0) Q := (zcl_body zmt_at_42 (Nat.le_of_ble_eq_true rfl)).trans Iff.rfl
theorem e43 : zcl 43 [.ref a, .int v0, .int v1, .int v2] M Q ↔ zwp zm_43 (0, [some (.ref a), some (.int v0), some (.int v1), some (.int v2), none, none], [], M, 0, 0) Q := (zcl_body zmt_at_43 (Nat.le_of_ble_eq_true rfl)).trans Iff.rfl
theorem e44 : zcl 44 [.ref a, .int v0, .int v1] M Q ↔ zwp zm_44 (0, [some (.ref a), some (.int v0), some (.int v1), none, none], [], M, 0, 0) Q := (zcl_body zmt_at_44 (Nat.le_of_ble_eq_true rfl)).trans Iff.rfl
theorem e45 : zcl 45 [.ref a, .int v0, .int v1] M Q ↔ zwp zm_45 (0, [some (.ref a), some (.int v0), some (.int v1), none], [], M, 0, 0) Q := (zcl_body zmt_at_45 (Nat.le_of_ble_eq_true rfl)).trans Iff.rfl
theorem e46 : zcl 46 [.ref a, .int v0, .int v1, .int v2, .int v3, .int v4, .int v5, .int v6] M Q ↔ zwp zm_46 (0, [some (.ref a), some (.int v0), some (.int v1), some (.int v2), some (.int v3), some (.int v4), some (.int v5), some (.int v6), none, none], [], M, 0, 0) Q := (zcl_body zmt_at_46 (Nat.le_of_ble_eq_true rfl)).trans Iff.rfl
theorem e47 : zcl 47 [.ref a, .int v0, .int v1] M Q ↔ zwp zm_47 (0, [some (.ref a), some (.int v0), some (.int v1), none], [], M, 0, 0) Q := (zcl_body zmt_at_47 (Nat.le_of_ble_eq_true rfl)).trans Iff.rfl
theorem e48 : zcl 48 [.ref a, .int v0] M Q ↔ zwp zm_48 (0, [some (.ref a), some (.int v0)], [], M, 0, 0) Q := (zcl_body zmt_at_48 (Nat.le_of_ble_eq_true rfl)).trans Iff.rfl
theorem e49 : zcl 49 [.ref a, .int v0, .int v1, .int v2] M Q ↔ zwp zm_49 (0, [some (.ref a), some (.int v0), some (.int v1), some (.int v2), none], [], M, 0, 0) Q := (zcl_body zmt_at_49 (Nat.le_of_ble_eq_true rfl)).trans Iff.rfl
theorem e50 : zcl 50 [.ref a, .int v0, .int v1, .int v2, .int v3, .int v4, .int v5] M Q ↔ zwp zm_50 (0, [some (.ref a), some (.int v0), some (.int v1), some (.int v2), some (.int v3), some (.int v4), some (.int v5), none, none], [], M, 0, 0) Q := (zcl_body zmt_at_50 (Nat.le_of_ble_eq_true rfl)).trans Iff.rfl
theorem e51 : zcl 51 [.ref a, .int v0] M Q ↔ zwp zm_51 (0, [some (.ref a), some (.int v0), none, none], [], M, 0, 0) Q := (zcl_body zmt_at_51 (Nat.le_of_ble_eq_true rfl)).trans Iff.rfl
theorem e52 : zcl 52 [.ref a, .int v0, .int v1, .int v2, .int v3] M Q ↔ zwp zm_52 (0, [some (.ref a), some (.int v0), some (.int v1), some (.int v2), some (.int v3), none, none, none], [], M, 0, 0) Q := (zcl_body zmt_at_52 (Nat.le_of_ble_eq_true rfl)).trans Iff.rfl
theorem e53 : zcl 53 [.ref a, .int v0, .int v1, .int v2] M Q ↔ zwp zm_53 (0, [some (.ref a), some (.int v0), some (.int v1), some (.int v2), none, none], [], M, 0, 0) Q := (zcl_body zmt_at_53 (Nat.le_of_ble_eq_true rfl)).trans Iff.rfl
theorem e54 : zcl 54 [.ref a, .int v0, .int v1] M Q ↔ zwp zm_54 (0, [some (.ref a), some (.int v0), some (.int v1), none], [], M, 0, 0) Q := (zcl_body zmt_at_54 (Nat.le_of_ble_eq_true rfl)).trans Iff.rfl
theorem e55 : zcl 55 [.ref a] M Q ↔ zwp zm_55 (0, [some (.ref a)], [], M, 0, 0) Q := (zcl_body zmt_at_55 (Nat.le_of_ble_eq_true rfl)).trans Iff.rfl
theorem e56 : zcl 56 [.ref a, .int v0, .int v1, .int v2] M Q ↔ zwp zm_56 (0, [some (.ref a), some (.int v0), some (.int v1), some (.int v2), none], [], M, 0, 0) Q := (zcl_body zmt_at_56 (Nat.le_of_ble_eq_true rfl)).trans Iff.rfl
theorem e57 : zcl 57 [.ref a, .int v0, .int v1, .int v2] M Q ↔ zwp zm_57 (0, [some (.ref a), some (.int v0), some (.int v1), some (.int v2), none, none, none], [], M, 0, 0) Q := (zcl_body zmt_at_57 (Nat.le_of_ble_eq_true rfl)).trans Iff.rfl
theorem e58 : zcl 58 [.ref a, .int v0] M Q ↔ zwp zm_58 (0, [some (.ref a), some (.int v0)], [], M, 0, 0) Q := (zcl_body zmt_at_58 (Nat.le_of_ble_eq_true rfl)).trans Iff.rfl
theorem e59 : zcl 59 [.ref a] M Q ↔ zwp zm_59 (0, [some (.ref a)], [], M, 0, 0) Q := (zcl_body zmt_at_59 (Nat.le_of_ble_eq_true rfl)).trans Iff.rfl
theorem e60 : zcl 60 [.ref a] M Q ↔ zwp zm_60 (0, [some (.ref a)], [], M, 0, 0) Q := (zcl_body zmt_at_60 (Nat.le_of_ble_eq_true rfl)).trans Iff.rfl
theorem e61 : zcl 61 [.ref a, .int v0, .int v1, .int v2] M Q ↔ zwp zm_61 (0, [some (.ref a), some (.int v0), some (.int v1), some (.int v2), none, none, none, none], [], M, 0, 0) Q := (zcl_body zmt_at_61 (Nat.le_of_ble_eq_true rfl)).trans Iff.rfl
theorem e62 : zcl 62 [.ref a, .int v0] M Q ↔ zwp zm_62 (0, [some (.ref a), some (.int v0), none], [], M, 0, 0) Q := (zcl_body zmt_at_62 (Nat.le_of_ble_eq_true rfl)).trans Iff.rfl
theorem e63 : zcl 63 [.ref a, .int v0, .int v1, .int v2] M Q ↔ zwp zm_63 (0, [some (.ref a), some (.int v0), some (.int v1), some (.int v2), none], [], M, 0, 0) Q := (zcl_body zmt_at_63 (Nat.le_of_ble_eq_true rfl)).trans Iff.rfl
theorem e64 : zcl 64 [.ref a, .int v0, .int v1, .int v2] M Q ↔ zwp zm_64 (0, [some (.ref a), some (.int v0), some (.int v1), some (.int v2), none], [], M, 0, 0) Q := (zcl_body zmt_at_64 (Nat.le_of_ble_eq_true rfl)).trans Iff.rfl
theorem e65 : zcl 65 [.ref a, .int v0, .int v1] M Q ↔ zwp zm_65 (0, [some (.ref a), some (.int v0), some (.int v1), none, none, none], [], M, 0, 0) Q := (zcl_body zmt_at_65 (Nat.le_of_ble_eq_true rfl)).trans Iff.rfl
theorem e66 : zcl 66 [.ref a, .int v0, .int v1, .int v2] M Q ↔ zwp zm_66 (0, [some (.ref a), some (.int v0), some (.int v1), some (.int v2), none, none], [], M, 0, 0) Q := (zcl_body zmt_at_66 (Nat.le_of_ble_eq_true rfl)).trans Iff.rfl
theorem e67 : zcl 67 [.ref a, .int v0] M Q ↔ zwp zm_67 (0, [some (.ref a), some (.int v0), none, none, none], [], M, 0, 0) Q := (zcl_body zmt_at_67 (Nat.le_of_ble_eq_true rfl)).trans Iff.rfl
theorem e68 : zcl 68 [.ref a] M Q ↔ zwp zm_68 (0, [some (.ref a)], [], M, 0, 0) Q := (zcl_body zmt_at_68 (Nat.le_of_ble_eq_true rfl)).trans Iff.rfl
theorem e69 : zcl 69 [.ref a] M Q ↔ zwp zm_69 (0, [some (.ref a)], [], M, 0, 0) Q := (zcl_body zmt_at_69 (Nat.le_of_ble_eq_true rfl)).trans Iff.rfl
theorem e70 : zcl 70 [.ref a] M Q ↔ zwp zm_70 (0, [some (.ref a)], [], M, 0, 0) Q := (zcl_body zmt_at_70 (Nat.le_of_ble_eq_true rfl)).trans Iff.rfl
theorem e71 : zcl 71 [.ref a] M Q ↔ zwp zm_71 (0, [some (.ref a)], [], M, 0, 0) Q := (zcl_body zmt_at_71 (Nat.le_of_ble_eq_true rfl)).trans Iff.rfl
theorem e72 : zcl 72 [.ref a] M Q ↔ zwp zm_72 (0, [some (.ref a), none, none, none], [], M, 0, 0) Q := (zcl_body zmt_at_72 (Nat.le_of_ble_eq_true rfl)).trans Iff.rfl
theorem e73 : zcl 73 [.ref a, .int v0] M Q ↔ zwp zm_73 (0, [some (.ref a), some (.int v0)], [], M, 0, 0) Q := (zcl_body zmt_at_73 (Nat.le_of_ble_eq_true rfl)).trans Iff.rfl
theorem e74 : zcl 74 [.ref u0, .int v1] M Q ↔ zwp zm_74 (0, [some (.ref u0), some (.int v1)], [], M, 0, 0) Q := (zcl_body zmt_at_74 (Nat.le_of_ble_eq_true rfl)).trans Iff.rfl
theorem e75 : zcl 75 [.ref u0, .int v1] M Q ↔ zwp zm_75 (0, [some (.ref u0), some (.int v1)], [], M, 0, 0) Q := (zcl_body zmt_at_75 (Nat.le_of_ble_eq_true rfl)).trans Iff.rfl
theorem e76 : zcl 76 [.ref a, .ref u0, .int v1] M Q ↔ zwp zm_76 (0, [some (.ref a), some (.ref u0), some (.int v1)], [], M, 0, 0) Q := (zcl_body zmt_at_76 (Nat.le_of_ble_eq_true rfl)).trans Iff.rfl
theorem e77 : zcl 77 [.ref a, .int v0] M Q ↔ zwp zm_77 (0, [some (.ref a), some (.int v0)], [], M, 0, 0) Q := (zcl_body zmt_at_77 (Nat.le_of_ble_eq_true rfl)).trans Iff.rfl
theorem e78 : zcl 78 [.int v0, .int v1, .int v2] M Q ↔ zwp zm_78 (0, [some (.int v0), some (.int v1), some (.int v2)], [], M, 0, 0) Q := (zcl_body zmt_at_78 (Nat.le_of_ble_eq_true rfl)).trans Iff.rfl
theorem e79 : zcl 79 [.ref a, .int v0] M Q ↔ zwp zm_79 (0, [some (.ref a), some (.int v0)], [], M, 0, 0) Q := (zcl_body zmt_at_79 (Nat.le_of_ble_eq_true rfl)).trans Iff.rfl
theorem e80 : zcl 80 [.int v0] M Q ↔ zwp zm_80 (0, [some (.int v0)], [], M, 0, 0) Q := (zcl_body zmt_at_80 (Nat.le_of_ble_eq_true rfl)).trans Iff.rfl
theorem e81 : zcl 81 [.int v0, .int v1, .int v2, .int v3] M Q ↔ zwp zm_81 (0, [some (.int v0), some (.int v1), some (.int v2), some (.int v3)], [], M, 0, 0) Q := (zcl_body zmt_at_81 (Nat.le_of_ble_eq_true rfl)).trans Iff.rfl
theorem e82 : zcl 82 [.int v0, .int v1, .int v2] M Q ↔ zwp zm_82 (0, [some (.int v0), some (.int v1), some (.int v2)], [], M, 0, 0) Q := (zcl_body zmt_at_82 (Nat.le_of_ble_eq_true rfl)).trans Iff.rfl
theorem e83 : zcl 83 [.int v0, .int v1] M Q ↔ zwp zm_83 (0, [some (.int v0), some (.int v1)], [], M, 0, 0) Q := (zcl_body zmt_at_83 (Nat.le_of_ble_eq_true rfl)).trans Iff.rfl
theorem e84 : zcl 84 [.ref a, .int v0] M Q ↔ zwp zm_84 (0, [some (.ref a), some (.int v0)], [], M, 0, 0) Q := (zcl_body zmt_at_84 (Nat.le_of_ble_eq_true rfl)).trans Iff.rfl
theorem e85 : zcl 85 [.ref a, .int v0] M Q ↔ zwp zm_85 (0, [some (.ref a), some (.int v0)], [], M, 0, 0) Q := (zcl_body zmt_at_85 (Nat.le_of_ble_eq_true rfl)).trans Iff.rfl
theorem e86 : zcl 86 [.int v0, .int v1] M Q ↔ zwp zm_86 (0, [some (.int v0), some (.int v1)], [], M, 0, 0) Q := (zcl_body zmt_at_86 (Nat.le_of_ble_eq_true rfl)).trans Iff.rfl
theorem e87 : zcl 87 [.ref a, .int v0, .int v1, .int v2] M Q ↔ zwp zm_87 (0, [some (.ref a), some (.int v0), some (.int v1), some (.int v2)], [], M, 0, 0) Q := (zcl_body zmt_at_87 (Nat.le_of_ble_eq_true rfl)).trans Iff.rfl
theorem e88 : zcl 88 [.ref a, .int v0, .int v1, .int v2] M Q ↔ zwp zm_88 (0, [some (.ref a), some (.int v0), some (.int v1), some (.int v2)], [], M, 0, 0) Q := (zcl_body zmt_at_88 (Nat.le_of_ble_eq_true rfl)).trans Iff.rfl
theorem e89 : zcl 89 [.ref a, .int v0, .ref u1] M Q ↔ zwp zm_89 (0, [some (.ref a), some (.int v0), some (.ref u1), none, none], [], M, 0, 0) Q := (zcl_body zmt_at_89 (Nat.le_of_ble_eq_true rfl)).trans Iff.rfl
theorem e90 : zcl 90 [.ref a, .ref u0, .int v1] M Q ↔ zwp zm_90 (0, [some (.ref a), some (.ref u0), some (.int v1), none, none], [], M, 0, 0) Q := (zcl_body zmt_at_90 (Nat.le_of_ble_eq_true rfl)).trans Iff.rfl
theorem e91 : zcl 91 [.ref a, .ref u0, .int v1] M Q ↔ zwp zm_91 (0, [some (.ref a), some (.ref u0), some (.int v1)], [], M, 0, 0) Q := (zcl_body zmt_at_91 (Nat.le_of_ble_eq_true rfl)).trans Iff.rfl
theorem e92 : zcl 92 [.ref a] M Q ↔ zwp zm_92 (0, [some (.ref a)], [], M, 0, 0) Q := (zcl_body zmt_at_92 (Nat.le_of_ble_eq_true rfl)).trans Iff.rfl
theorem e93 : zcl 93 [.ref a, .ref u0, .ref u1, .int v2] M Q ↔ zwp zm_93 (0, [some (.ref a), some (.ref u0), some (.ref u1), some (.int v2), none], [], M, 0, 0) Q := (zcl_body zmt_at_93 (Nat.le_of_ble_eq_true rfl)).trans Iff.rfl
theorem e94 : zcl 94 [.ref a, .ref u0] M Q ↔ zwp zm_94 (0, [some (.ref a), some (.ref u0)], [], M, 0, 0) Q := (zcl_body zmt_at_94 (Nat.le_of_ble_eq_true rfl)).trans Iff.rfl
theorem e95 : zcl 95 [.ref a, .ref u0] M Q ↔ zwp zm_95 (0, [some (.ref a), some (.ref u0), none, none], [], M, 0, 0) Q := (zcl_body zmt_at_95 (Nat.le_of_ble_eq_true rfl)).trans Iff.rfl
theorem e96 : zcl 96 [.ref a, .ref u0, .int v1] M Q ↔ zwp zm_96 (0, [some (.ref a), some (.ref u0), some (.int v1), none, none, none, none], [], M, 0, 0) Q := (zcl_body zmt_at_96 (Nat.le_of_ble_eq_true rfl)).trans Iff.rfl
theorem e97 : zcl 97 [.ref a, .ref u0] M Q ↔ zwp zm_97 (0, [some (.ref a), some (.ref u0), none, none], [], M, 0, 0) Q := (zcl_body zmt_at_97 (Nat.le_of_ble_eq_true rfl)).trans Iff.rfl
theorem e98 : zcl 98 [.ref a, .ref u0] M Q ↔ zwp zm_98 (0, [some (.ref a), some (.ref u0), none], [], M, 0, 0) Q := (zcl_body zmt_at_98 (Nat.le_of_ble_eq_true rfl)).trans Iff.rfl
theorem e99 : zcl 99 [.ref a, .ref u0, .int v1] M Q ↔ zwp zm_99 (0, [some (.ref a), some (.ref u0), some (.int v1), none, none, none, none], [], M, 0, 0) Q := (zcl_body zmt_at_99 (Nat.le_of_ble_eq_true rfl)).trans Iff.rfl
theorem e100 : zcl 100 [.ref a, .ref u0, .int v1] M Q ↔ zwp zm_100 (0, [some (.ref a), some (.ref u0), some (.int v1)], [], M, 0, 0) Q := (zcl_body zmt_at_100 (Nat.le_of_ble_eq_true rfl)).trans Iff.rfl
theorem e101 : zcl 101 [.ref a, .ref u0, .int v1, .int v2] M Q ↔ zwp zm_101 (0, [some (.ref a), some (.ref u0), some (.int v1), some (.int v2), none, none], [], M, 0, 0) Q := (zcl_body zmt_at_101 (Nat.le_of_ble_eq_true rfl)).trans Iff.rfl
theorem e102 : zcl 102 [.ref a, .ref u0] M Q ↔ zwp zm_102 (0, [some (.ref a), some (.ref u0), none, none], [], M, 0, 0) Q := (zcl_body zmt_at_102 (Nat.le_of_ble_eq_true rfl)).trans Iff.rfl
theorem e103 : zcl 103 [.ref a, .ref u0, .int v1] M Q ↔ zwp zm_103 (0, [some (.ref a), some (.ref u0), some (.int v1), none, none], [], M, 0, 0) Q := (zcl_body zmt_at_103 (Nat.le_of_ble_eq_true rfl)).trans Iff.rfl
theorem e104 : zcl 104 [.ref a, .ref u0, .int v1, .int v2] M Q ↔ zwp zm_104 (0, [some (.ref a), some (.ref u0), some (.int v1), some (.int v2)], [], M, 0, 0) Q := (zcl_body zmt_at_104 (Nat.le_of_ble_eq_true rfl)).trans Iff.rfl
theorem e105 : zcl 105 [.ref a, .ref u0, .int v1] M Q ↔ zwp zm_105 (0, [some (.ref a), some (.ref u0), some (.int v1), none, none], [], M, 0, 0) Q := (zcl_body zmt_at_105 (Nat.le_of_ble_eq_true rfl)).trans Iff.rfl
theorem e106 : zcl 106 [.ref a, .ref u0, .int v1] M Q ↔ zwp zm_106 (0, [some (.ref a), some (.ref u0), some (.int v1), none, none], [], M, 0, 0) Q := (zcl_body zmt_at_106 (Nat.le_of_ble_eq_true rfl)).trans Iff.rfl
theorem e107 : zcl 107 [.ref a, .ref u0, .int v1, .int v2] M Q ↔ zwp zm_107 (0, [some (.ref a), some (.ref u0), some (.int v1), some (.int v2)], [], M, 0, 0) Q := (zcl_body zmt_at_107 (Nat.le_of_ble_eq_true rfl)).trans Iff.rfl
theorem e108 : zcl 108 [.ref a, .ref u0, .int v1, .int v2] M Q ↔ zwp zm_108 (0, [some (.ref a), some (.ref u0), some (.int v1), some (.int v2), none, none], [], M, 0, 0) Q := (zcl_body zmt_at_108 (Nat.le_of_ble_eq_true rfl)).trans Iff.rfl
theorem e109 : zcl 109 [.long w0, .long w1] M Q ↔ zwp zm_109 (0, [some (.long w0), none, some (.long w1), none], [], M, 0, 0) Q := (zcl_body zmt_at_109 (Nat.le_of_ble_eq_true rfl)).trans Iff.rfl
theorem e110 : zcl 110 [.ref a, .long w0, .ref u1] M Q ↔ zwp zm_110 (0, [some (.ref a), some (.long w0), none, some (.ref u1), none, none, none, none], [], M, 0, 0) Q := (zcl_body zmt_at_110 (Nat.le_of_ble_eq_true rfl)).trans Iff.rfl
theorem e111 : zcl 111 [.ref a, .long w0, .ref u1, .int v2] M Q ↔ zwp zm_111 (0, [some (.ref a), some (.long w0), none, some (.ref u1), some (.int v2), none, none, none, none], [], M, 0, 0) Q := (zcl_body zmt_at_111 (Nat.le_of_ble_eq_true rfl)).trans Iff.rfl
theorem e112 : zcl 112 [.ref a, .long w0, .ref u1] M Q ↔ zwp zm_112 (0, [some (.ref a), some (.long w0), none, some (.ref u1), none, none, none], [], M, 0, 0) Q := (zcl_body zmt_at_112 (Nat.le_of_ble_eq_true rfl)).trans Iff.rfl
theorem e113 : zcl 113 [.ref a, .int v0] M Q ↔ zwp zm_113 (0, [some (.ref a), some (.int v0), none], [], M, 0, 0) Q := (zcl_body zmt_at_113 (Nat.le_of_ble_eq_true rfl)).trans Iff.rfl
theorem e114 : zcl 114 [.ref a, .ref u0, .int v1] M Q ↔ zwp zm_114 (0, [some (.ref a), some (.ref u0), some (.int v1), none, none, none, none, none], [], M, 0, 0) Q := (zcl_body zmt_at_114 (Nat.le_of_ble_eq_true rfl)).trans Iff.rfl
theorem e115 : zcl 115 [.ref a, .int v0] M Q ↔ zwp zm_115 (0, [some (.ref a), some (.int v0), none], [], M, 0, 0) Q := (zcl_body zmt_at_115 (Nat.le_of_ble_eq_true rfl)).trans Iff.rfl
theorem e116 : zcl 116 [.ref u0, .ref u1] M Q ↔ zwp zm_116 (0, [some (.ref u0), some (.ref u1), none], [], M, 0, 0) Q := (zcl_body zmt_at_116 (Nat.le_of_ble_eq_true rfl)).trans Iff.rfl
theorem e117 : zcl 117 [.ref u0, .int v1] M Q ↔ zwp zm_117 (0, [some (.ref u0), some (.int v1), none], [], M, 0, 0) Q := (zcl_body zmt_at_117 (Nat.le_of_ble_eq_true rfl)).trans Iff.rfl
theorem e118 : zcl 118 [.ref a] M Q ↔ zwp zm_118 (0, [some (.ref a), none, none, none, none], [], M, 0, 0) Q := (zcl_body zmt_at_118 (Nat.le_of_ble_eq_true rfl)).trans Iff.rfl
theorem e119 : zcl 119 [.ref a, .int v0, .int v1, .int v2] M Q ↔ zwp zm_119 (0, [some (.ref a), some (.int v0), some (.int v1), some (.int v2)], [], M, 0, 0) Q := (zcl_body zmt_at_119 (Nat.le_of_ble_eq_true rfl)).trans Iff.rfl
theorem e120 : zcl 120 [.ref a] M Q ↔ zwp zm_120 (0, [some (.ref a), none, none, none, none], [], M, 0, 0) Q := (zcl_body zmt_at_120 (Nat.le_of_ble_eq_true rfl)).trans Iff.rfl
theorem e121 : zcl 121 [.ref a] M Q ↔ zwp zm_121 (0, [some (.ref a), none, none, none], [], M, 0, 0) Q := (zcl_body zmt_at_121 (Nat.le_of_ble_eq_true rfl)).trans Iff.rfl
theorem e122 : zcl 122 [.ref a] M Q ↔ zwp zm_122 (0, [some (.ref a), none, none], [], M, 0, 0) Q := (zcl_body zmt_at_122 (Nat.le_of_ble_eq_true rfl)).trans Iff.rfl
theorem e123 : zcl 123 [.ref a] M Q ↔ zwp zm_123 (0, [some (.ref a), none], [], M, 0, 0) Q := (zcl_body zmt_at_123 (Nat.le_of_ble_eq_true rfl)).trans Iff.rfl
theorem e124 : zcl 124 [.ref a] M Q ↔ zwp zm_124 (0, [some (.ref a), none, none, none, none, none, none], [], M, 0, 0) Q := (zcl_body zmt_at_124 (Nat.le_of_ble_eq_true rfl)).trans Iff.rfl
theorem e125 : zcl 125 [.ref a, .int v0] M Q ↔ zwp zm_125 (0, [some (.ref a), some (.int v0), none], [], M, 0, 0) Q := (zcl_body zmt_at_125 (Nat.le_of_ble_eq_true rfl)).trans Iff.rfl
theorem e126 : zcl 126 [.ref u0, .ref u1] M Q ↔ zwp zm_126 (0, [some (.ref u0), some (.ref u1), none], [], M, 0, 0) Q := (zcl_body zmt_at_126 (Nat.le_of_ble_eq_true rfl)).trans Iff.rfl
theorem e127 : zcl 127 [.ref a, .int v0, .ref u1, .int v2] M Q ↔ zwp zm_127 (0, [some (.ref a), some (.int v0), some (.ref u1), some (.int v2), none, none, none, none, none, none, none], [], M, 0, 0) Q := (zcl_body zmt_at_127 (Nat.le_of_ble_eq_true rfl)).trans Iff.rfl
theorem e128 : zcl 128 [.ref a, .int v0] M Q ↔ zwp zm_128 (0, [some (.ref a), some (.int v0), none, none, none, none, none, none, none, none, none], [], M, 0, 0) Q := (zcl_body zmt_at_128 (Nat.le_of_ble_eq_true rfl)).trans Iff.rfl
theorem e129 : zcl 129 [.ref a, .int v0, .int v1] M Q ↔ zwp zm_129 (0, [some (.ref a), some (.int v0), some (.int v1), none, none, none, none, none], [], M, 0, 0) Q := (zcl_body zmt_at_129 (Nat.le_of_ble_eq_true rfl)).trans Iff.rfl
theorem e130 : zcl 130 [.ref a, .int v0, .int v1] M Q ↔ zwp zm_130 (0, [some (.ref a), some (.int v0), some (.int v1), none, none, none, none, none, none, none, none], [], M, 0, 0) Q := (zcl_body zmt_at_130 (Nat.le_of_ble_eq_true rfl)).trans Iff.rfl
theorem e131 : zcl 131 [.ref a, .int v0, .int v1, .int v2, .int v3] M Q ↔ zwp zm_131 (0, [some (.ref a), some (.int v0), some (.int v1), some (.int v2), some (.int v3), none], [], M, 0, 0) Q := (zcl_body zmt_at_131 (Nat.le_of_ble_eq_true rfl)).trans Iff.rfl
theorem e132 : zcl 132 [.ref a, .int v0, .int v1, .int v2, .int v3] M Q ↔ zwp zm_132 (0, [some (.ref a), some (.int v0), some (.int v1), some (.int v2), some (.int v3), none], [], M, 0, 0) Q := (zcl_body zmt_at_132 (Nat.le_of_ble_eq_true rfl)).trans Iff.rfl
theorem e133 : zcl 133 [.ref a, .int v0, .int v1] M Q ↔ zwp zm_133 (0, [some (.ref a), some (.int v0), some (.int v1), none, none], [], M, 0, 0) Q := (zcl_body zmt_at_133 (Nat.le_of_ble_eq_true rfl)).trans Iff.rfl
theorem e134 : zcl 134 [.ref a] M Q ↔ zwp zm_134 (0, [some (.ref a), none, none, none, none, none, none, none, none, none, none], [], M, 0, 0) Q := (zcl_body zmt_at_134 (Nat.le_of_ble_eq_true rfl)).trans Iff.rfl
theorem e135 : zcl 135 [.ref a] M Q ↔ zwp zm_135 (0, [some (.ref a), none, none, none, none, none], [], M, 0, 0) Q := (zcl_body zmt_at_135 (Nat.le_of_ble_eq_true rfl)).trans Iff.rfl
theorem e136 : zcl 136 [.ref a] M Q ↔ zwp zm_136 (0, [some (.ref a), none, none, none, none, none, none], [], M, 0, 0) Q := (zcl_body zmt_at_136 (Nat.le_of_ble_eq_true rfl)).trans Iff.rfl
theorem e137 : zcl 137 [.ref a, .int v0] M Q ↔ zwp zm_137 (0, [some (.ref a), some (.int v0), none, none, none, none, none, none], [], M, 0, 0) Q := (zcl_body zmt_at_137 (Nat.le_of_ble_eq_true rfl)).trans Iff.rfl
theorem e138 : zcl 138 [.ref a] M Q ↔ zwp zm_138 (0, [some (.ref a), none, none, none, none, none], [], M, 0, 0) Q := (zcl_body zmt_at_138 (Nat.le_of_ble_eq_true rfl)).trans Iff.rfl
theorem e139 : zcl 139 [.ref a] M Q ↔ zwp zm_139 (0, [some (.ref a), none, none, none], [], M, 0, 0) Q := (zcl_body zmt_at_139 (Nat.le_of_ble_eq_true rfl)).trans Iff.rfl
theorem e140 : zcl 140 [.ref a] M Q ↔ zwp zm_140 (0, [some (.ref a), none], [], M, 0, 0) Q := (zcl_body zmt_at_140 (Nat.le_of_ble_eq_true rfl)).trans Iff.rfl
theorem e141 : zcl 141 [.ref a] M Q ↔ zwp zm_141 (0, [some (.ref a)], [], M, 0, 0) Q := (zcl_body zmt_at_141 (Nat.le_of_ble_eq_true rfl)).trans Iff.rfl
theorem e142 : zcl 142 [.int v0, .int v1] M Q ↔ zwp zm_142 (0, [some (.int v0), some (.int v1)], [], M, 0, 0) Q := (zcl_body zmt_at_142 (Nat.le_of_ble_eq_true rfl)).trans Iff.rfl
theorem e143 : zcl 143 [.ref u0, .int v1] M Q ↔ zwp zm_143 (0, [some (.ref u0), some (.int v1)], [], M, 0, 0) Q := (zcl_body zmt_at_143 (Nat.le_of_ble_eq_true rfl)).trans Iff.rfl
theorem e144 : zcl 144 [.ref a, .int v0, .int v1, .int v2] M Q ↔ zwp zm_144 (0, [some (.ref a), some (.int v0), some (.int v1), some (.int v2)], [], M, 0, 0) Q := (zcl_body zmt_at_144 (Nat.le_of_ble_eq_true rfl)).trans Iff.rfl
theorem e145 : zcl 145 [.ref a, .int v0, .int v1, .int v2] M Q ↔ zwp zm_145 (0, [some (.ref a), some (.int v0), some (.int v1), some (.int v2)], [], M, 0, 0) Q := (zcl_body zmt_at_145 (Nat.le_of_ble_eq_true rfl)).trans Iff.rfl
theorem e146 : zcl 146 [.ref a, .int v0, .int v1, .int v2] M Q ↔ zwp zm_146 (0, [some (.ref a), some (.int v0), some (.int v1), some (.int v2)], [], M, 0, 0) Q := (zcl_body zmt_at_146 (Nat.le_of_ble_eq_true rfl)).trans Iff.rfl
theorem e147 : zcl 147 [.ref a, .int v0, .int v1, .int v2] M Q ↔ zwp zm_147 (0, [some (.ref a), some (.int v0), some (.int v1), some (.int v2)], [], M, 0, 0) Q := (zcl_body zmt_at_147 (Nat.le_of_ble_eq_true rfl)).trans Iff.rfl
theorem e148 : zcl 148 [.ref a, .int v0, .int v1, .int v2] M Q ↔ zwp zm_148 (0, [some (.ref a), some (.int v0), some (.int v1), some (.int v2)], [], M, 0, 0) Q := (zcl_body zmt_at_148 (Nat.le_of_ble_eq_true rfl)).trans Iff.rfl
theorem e149 : zcl 149 [.ref a, .int v0, .int v1, .int v2] M Q ↔ zwp zm_149 (0, [some (.ref a), some (.int v0), some (.int v1), some (.int v2)], [], M, 0, 0) Q := (zcl_body zmt_at_149 (Nat.le_of_ble_eq_true rfl)).trans Iff.rfl
theorem e150 : zcl 150 [.ref a, .int v0, .int v1, .int v2] M Q ↔ zwp zm_150 (0, [some (.ref a), some (.int v0), some (.int v1), some (.int v2)], [], M, 0, 0) Q := (zcl_body zmt_at_150 (Nat.le_of_ble_eq_true rfl)).trans Iff.rfl
end ZEN
