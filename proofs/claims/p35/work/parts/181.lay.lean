/-! a row for each word's read and write: by program (wip/p35/gen/emit_lay2.py) -/
def aBx (p : Nat) : Nat := 18 + 78 * p
def aSA (p : Nat) : Nat := 19 + 78 * p
def aRA (p : Nat) : Nat := 20 + 78 * p
def aCA (p : Nat) : Nat := 21 + 78 * p
def aSh (p k : Nat) : Nat := 22 + 78 * p + k
def aRu (p k : Nat) : Nat := 30 + 78 * p + k
def aCo (p i : Nat) : Nat := 36 + 78 * p + i
def aLe (i : Nat) : Nat := if i = 60 then 7 else 330 + i
def aQu (i : Nat) : Nat := 390 + i
theorem zmem_ok {x y : zSt} {E : zEx} {a c n : Nat} (h1 : 1 ≤ a) (h2 : a ≤ 476) (hk : zdk a = (c, n)) : zok (zmem x y E) a c n = True := eq_true ⟨zmem_al h1 h2, (zmem_kd h1 h2).trans hk⟩
theorem zmem_ix {x y : zSt} {E : zEx} {a t n k : Nat} (h1 : 1 ≤ a) (h2 : a ≤ 476) (hk : zdk a = (t, n)) (h : k < n) (hn : n ≤ 1000) : zix (zmem x y E) t a (nI k) = true := by
  unfold zix
  rw [zmem_al h1 h2, zmem_kd h1 h2, hk, nI_clamp (by omega), decide_eq_true rfl, decide_eq_true (nI_pos' (by omega)), decide_eq_true h]
  rfl
theorem zmem_ia {x y : zSt} {E : zEx} {a t n k : Nat} (h1 : 1 ≤ a) (h2 : a ≤ 476) (hk : zdk a = (t, n)) (h : k < n) (hn : n ≤ 1000) : zia (zmem x y E) t a (nI k) = True := eq_true (zmem_ix h1 h2 hk h hn)
theorem zmem_ias {x y : zSt} {E : zEx} {a n k : Nat} (h1 : 1 ≤ a) (h2 : a ≤ 476) (hk : zdk a = (20, n)) (h : k < n) (hn : n ≤ 1000) : zias (zmem x y E) a (nI k) = True := eq_true (Or.inl (zmem_ix h1 h2 hk h hn))
theorem zmem_iar {x y : zSt} {E : zEx} {a t n k : Nat} (h1 : 1 ≤ a) (h2 : a ≤ 476) (hk : zdk a = (t, n)) (ht : zqk t = true) (h : k < n) (hn : n ≤ 1000) : ziar (zmem x y E) a (nI k) = True := by
  refine eq_true ?_
  unfold ziar
  rw [zmem_kd h1 h2, hk]
  exact ⟨ht, zmem_ix h1 h2 hk h hn⟩
theorem zmem_ias2 {x y : zSt} {E : zEx} {v a c m n k : Nat} (h1 : 1 ≤ a) (h2 : a ≤ 476) (hk : zdk a = (zup c, n)) (ht : zqk (zup c) = true) (h : k < n) (hn : n ≤ 1000) (v1 : 1 ≤ v) (v2 : v ≤ 476) (hv : zdk v = (c, m)) : zias2 (zmem x y E) v a (nI k) = True := by
  refine eq_true ?_
  unfold zias2
  rw [zmem_kd v1 v2, hv]
  exact ⟨zmem_al v1 v2, ht, zmem_ix h1 h2 hk h hn⟩
theorem zmem_arr {x y : zSt} {E : zEx} {a t n : Nat} (h1 : 1 ≤ a) (h2 : a ≤ 476) (hk : zdk a = (t, n)) (ht : t = 20 ∨ t = 23 ∨ zqk t = true) : zarr (zmem x y E) a = True := by
  refine eq_true (Or.inl ?_)
  rw [zmem_kd h1 h2, hk]
  exact ⟨zmem_al h1 h2, ht⟩
theorem zmem_len {x y : zSt} {E : zEx} {a t n : Nat} (h1 : 1 ≤ a) (h2 : a ≤ 476) (hk : zdk a = (t, n)) : zlen' (zmem x y E) a = n := by
  unfold zlen'
  rw [zmem_kd h1 h2, hk]
theorem zmem_ias3 {x y : zSt} {E : zEx} {v a t n k : Nat} (h1 : 1 ≤ a) (h2 : a ≤ 476) (hk : zdk a = (zup t, n)) (ht : zqk (zup t) = true) (h : k < n) (hn : n ≤ 1000) (hv : eY E v) (hq : (eK E v).1 = t) : zias2 (zmem x y E) v a (nI k) = True := by
  refine eq_true ?_
  unfold zias2
  rw [zmem_k, hq]
  refine ⟨?_, ht, zmem_ix h1 h2 hk h hn⟩
  show (decide (1 ≤ v) && decide (v ≤ 476 + E.1)) = true
  rw [decide_eq_true hv.1, decide_eq_true hv.2.1]; rfl
theorem nI_mul (a b : Nat) : nI a * nI b = nI (a * b) := (Int32.ofNat_mul a b).symm

theorem l_dm_ok {x y : zSt} {E : zEx}   : zok (zmem x y E) (2) 9 15 = True := zmem_ok (a := 2) (by decide +kernel : 1 ≤ 2 ∧ 2 ≤ 476 ∧ zdk 2 = (9, 15)).1 (by decide +kernel : 1 ≤ 2 ∧ 2 ≤ 476 ∧ zdk 2 = (9, 15)).2.1 (by decide +kernel : 1 ≤ 2 ∧ 2 ≤ 476 ∧ zdk 2 = (9, 15)).2.2
theorem l_dm_0 {x y : zSt} {E : zEx}   : zrd (zmem x y E) (2) 0 = .ref (3) := zmem_rdr (a := 2) (by decide +kernel : zin 2 0 ∧ zdc 2 0 = (2, 3, 0, 0)).1 (by decide +kernel : zin 2 0 ∧ zdc 2 0 = (2, 3, 0, 0)).2
theorem l_dm_1 {x y : zSt} {E : zEx}   : zrd (zmem x y E) (2) 1 = .ref (4) := zmem_rdr (a := 2) (by decide +kernel : zin 2 1 ∧ zdc 2 1 = (2, 4, 0, 0)).1 (by decide +kernel : zin 2 1 ∧ zdc 2 1 = (2, 4, 0, 0)).2
theorem l_dm_2 {x y : zSt} {E : zEx}   : zrd (zmem x y E) (2) 2 = .int (x 0 0 2) := zmem_rdi (a := 2) (by decide +kernel : zin 2 2 ∧ zdc 2 2 = (0, 0, 0, 2)).1 (by decide +kernel : zin 2 2 ∧ zdc 2 2 = (0, 0, 0, 2)).2
theorem l_dm_2p {x y : zSt} {E : zEx} {v : Int32}   : zput (zmem x y E) (2) 2 (.int v) = zmem (su x 0 (u2 (x 0) 0 2 v)) y E := zmem_pt (a := 2) (by decide +kernel : zin 2 2 ∧ zdc 2 2 = (0, 0, 0, 2)).1 (by decide +kernel : zin 2 2 ∧ zdc 2 2 = (0, 0, 0, 2)).2
theorem l_dm_3 {x y : zSt} {E : zEx}   : zrd (zmem x y E) (2) 3 = .ref (5) := zmem_rdr (a := 2) (by decide +kernel : zin 2 3 ∧ zdc 2 3 = (2, 5, 0, 0)).1 (by decide +kernel : zin 2 3 ∧ zdc 2 3 = (2, 5, 0, 0)).2
theorem l_dm_4 {x y : zSt} {E : zEx}   : zrd (zmem x y E) (2) 4 = .int (x 0 0 4) := zmem_rdi (a := 2) (by decide +kernel : zin 2 4 ∧ zdc 2 4 = (0, 0, 0, 4)).1 (by decide +kernel : zin 2 4 ∧ zdc 2 4 = (0, 0, 0, 4)).2
theorem l_dm_4p {x y : zSt} {E : zEx} {v : Int32}   : zput (zmem x y E) (2) 4 (.int v) = zmem (su x 0 (u2 (x 0) 0 4 v)) y E := zmem_pt (a := 2) (by decide +kernel : zin 2 4 ∧ zdc 2 4 = (0, 0, 0, 4)).1 (by decide +kernel : zin 2 4 ∧ zdc 2 4 = (0, 0, 0, 4)).2
theorem l_dm_5 {x y : zSt} {E : zEx}   : zrd (zmem x y E) (2) 5 = .ref (6) := zmem_rdr (a := 2) (by decide +kernel : zin 2 5 ∧ zdc 2 5 = (2, 6, 0, 0)).1 (by decide +kernel : zin 2 5 ∧ zdc 2 5 = (2, 6, 0, 0)).2
theorem l_dm_6 {x y : zSt} {E : zEx}   : zrd (zmem x y E) (2) 6 = .int (x 0 0 6) := zmem_rdi (a := 2) (by decide +kernel : zin 2 6 ∧ zdc 2 6 = (0, 0, 0, 6)).1 (by decide +kernel : zin 2 6 ∧ zdc 2 6 = (0, 0, 0, 6)).2
theorem l_dm_6p {x y : zSt} {E : zEx} {v : Int32}   : zput (zmem x y E) (2) 6 (.int v) = zmem (su x 0 (u2 (x 0) 0 6 v)) y E := zmem_pt (a := 2) (by decide +kernel : zin 2 6 ∧ zdc 2 6 = (0, 0, 0, 6)).1 (by decide +kernel : zin 2 6 ∧ zdc 2 6 = (0, 0, 0, 6)).2
theorem l_dm_7 {x y : zSt} {E : zEx}   : zrd (zmem x y E) (2) 7 = .int (x 0 0 7) := zmem_rdi (a := 2) (by decide +kernel : zin 2 7 ∧ zdc 2 7 = (0, 0, 0, 7)).1 (by decide +kernel : zin 2 7 ∧ zdc 2 7 = (0, 0, 0, 7)).2
theorem l_dm_7p {x y : zSt} {E : zEx} {v : Int32}   : zput (zmem x y E) (2) 7 (.int v) = zmem (su x 0 (u2 (x 0) 0 7 v)) y E := zmem_pt (a := 2) (by decide +kernel : zin 2 7 ∧ zdc 2 7 = (0, 0, 0, 7)).1 (by decide +kernel : zin 2 7 ∧ zdc 2 7 = (0, 0, 0, 7)).2
theorem l_dm_8 {x y : zSt} {E : zEx}   : zrd (zmem x y E) (2) 8 = .int (x 0 0 8) := zmem_rdi (a := 2) (by decide +kernel : zin 2 8 ∧ zdc 2 8 = (0, 0, 0, 8)).1 (by decide +kernel : zin 2 8 ∧ zdc 2 8 = (0, 0, 0, 8)).2
theorem l_dm_8p {x y : zSt} {E : zEx} {v : Int32}   : zput (zmem x y E) (2) 8 (.int v) = zmem (su x 0 (u2 (x 0) 0 8 v)) y E := zmem_pt (a := 2) (by decide +kernel : zin 2 8 ∧ zdc 2 8 = (0, 0, 0, 8)).1 (by decide +kernel : zin 2 8 ∧ zdc 2 8 = (0, 0, 0, 8)).2
theorem l_dm_9 {x y : zSt} {E : zEx}   : zrd (zmem x y E) (2) 9 = .int (x 0 0 9) := zmem_rdi (a := 2) (by decide +kernel : zin 2 9 ∧ zdc 2 9 = (0, 0, 0, 9)).1 (by decide +kernel : zin 2 9 ∧ zdc 2 9 = (0, 0, 0, 9)).2
theorem l_dm_9p {x y : zSt} {E : zEx} {v : Int32}   : zput (zmem x y E) (2) 9 (.int v) = zmem (su x 0 (u2 (x 0) 0 9 v)) y E := zmem_pt (a := 2) (by decide +kernel : zin 2 9 ∧ zdc 2 9 = (0, 0, 0, 9)).1 (by decide +kernel : zin 2 9 ∧ zdc 2 9 = (0, 0, 0, 9)).2
theorem l_dm_10 {x y : zSt} {E : zEx}   : zrd (zmem x y E) (2) 10 = .ref (7) := zmem_rdr (a := 2) (by decide +kernel : zin 2 10 ∧ zdc 2 10 = (2, 7, 0, 0)).1 (by decide +kernel : zin 2 10 ∧ zdc 2 10 = (2, 7, 0, 0)).2
theorem l_dm_11 {x y : zSt} {E : zEx}   : zrd (zmem x y E) (2) 11 = .ref (8) := zmem_rdr (a := 2) (by decide +kernel : zin 2 11 ∧ zdc 2 11 = (2, 8, 0, 0)).1 (by decide +kernel : zin 2 11 ∧ zdc 2 11 = (2, 8, 0, 0)).2
theorem l_dm_12 {x y : zSt} {E : zEx}   : zrd (zmem x y E) (2) 12 = .ref (10) := zmem_rdr (a := 2) (by decide +kernel : zin 2 12 ∧ zdc 2 12 = (2, 10, 0, 0)).1 (by decide +kernel : zin 2 12 ∧ zdc 2 12 = (2, 10, 0, 0)).2
theorem l_dm_13 {x y : zSt} {E : zEx}   : zrd (zmem x y E) (2) 13 = .ref (12) := zmem_rdr (a := 2) (by decide +kernel : zin 2 13 ∧ zdc 2 13 = (2, 12, 0, 0)).1 (by decide +kernel : zin 2 13 ∧ zdc 2 13 = (2, 12, 0, 0)).2
theorem l_dm_14 {x y : zSt} {E : zEx}   : zrd (zmem x y E) (2) 14 = .ref (17) := zmem_rdr (a := 2) (by decide +kernel : zin 2 14 ∧ zdc 2 14 = (2, 17, 0, 0)).1 (by decide +kernel : zin 2 14 ∧ zdc 2 14 = (2, 17, 0, 0)).2
theorem l_ou_ok {x y : zSt} {E : zEx}   : zok (zmem x y E) (8) 3 5 = True := zmem_ok (a := 8) (by decide +kernel : 1 ≤ 8 ∧ 8 ≤ 476 ∧ zdk 8 = (3, 5)).1 (by decide +kernel : 1 ≤ 8 ∧ 8 ≤ 476 ∧ zdk 8 = (3, 5)).2.1 (by decide +kernel : 1 ≤ 8 ∧ 8 ≤ 476 ∧ zdk 8 = (3, 5)).2.2
theorem l_ou_0 {x y : zSt} {E : zEx}   : zrd (zmem x y E) (8) 0 = .int (x 3 0 0) := zmem_rdi (a := 8) (by decide +kernel : zin 8 0 ∧ zdc 8 0 = (0, 3, 0, 0)).1 (by decide +kernel : zin 8 0 ∧ zdc 8 0 = (0, 3, 0, 0)).2
theorem l_ou_0p {x y : zSt} {E : zEx} {v : Int32}   : zput (zmem x y E) (8) 0 (.int v) = zmem (su x 3 (u2 (x 3) 0 0 v)) y E := zmem_pt (a := 8) (by decide +kernel : zin 8 0 ∧ zdc 8 0 = (0, 3, 0, 0)).1 (by decide +kernel : zin 8 0 ∧ zdc 8 0 = (0, 3, 0, 0)).2
theorem l_ou_1 {x y : zSt} {E : zEx}   : zrd (zmem x y E) (8) 1 = .int (x 3 0 1) := zmem_rdi (a := 8) (by decide +kernel : zin 8 1 ∧ zdc 8 1 = (0, 3, 0, 1)).1 (by decide +kernel : zin 8 1 ∧ zdc 8 1 = (0, 3, 0, 1)).2
theorem l_ou_1p {x y : zSt} {E : zEx} {v : Int32}   : zput (zmem x y E) (8) 1 (.int v) = zmem (su x 3 (u2 (x 3) 0 1 v)) y E := zmem_pt (a := 8) (by decide +kernel : zin 8 1 ∧ zdc 8 1 = (0, 3, 0, 1)).1 (by decide +kernel : zin 8 1 ∧ zdc 8 1 = (0, 3, 0, 1)).2
theorem l_ou_2 {x y : zSt} {E : zEx}   : zrd (zmem x y E) (8) 2 = .int (x 3 0 2) := zmem_rdi (a := 8) (by decide +kernel : zin 8 2 ∧ zdc 8 2 = (0, 3, 0, 2)).1 (by decide +kernel : zin 8 2 ∧ zdc 8 2 = (0, 3, 0, 2)).2
theorem l_ou_2p {x y : zSt} {E : zEx} {v : Int32}   : zput (zmem x y E) (8) 2 (.int v) = zmem (su x 3 (u2 (x 3) 0 2 v)) y E := zmem_pt (a := 8) (by decide +kernel : zin 8 2 ∧ zdc 8 2 = (0, 3, 0, 2)).1 (by decide +kernel : zin 8 2 ∧ zdc 8 2 = (0, 3, 0, 2)).2
theorem l_ou_3 {x y : zSt} {E : zEx}   : zrd (zmem x y E) (8) 3 = .ref (9) := zmem_rdr (a := 8) (by decide +kernel : zin 8 3 ∧ zdc 8 3 = (2, 9, 0, 0)).1 (by decide +kernel : zin 8 3 ∧ zdc 8 3 = (2, 9, 0, 0)).2
theorem l_ou_4 {x y : zSt} {E : zEx}   : zrd (zmem x y E) (8) 4 = .int (x 3 0 4) := zmem_rdi (a := 8) (by decide +kernel : zin 8 4 ∧ zdc 8 4 = (0, 3, 0, 4)).1 (by decide +kernel : zin 8 4 ∧ zdc 8 4 = (0, 3, 0, 4)).2
theorem l_ou_4p {x y : zSt} {E : zEx} {v : Int32}   : zput (zmem x y E) (8) 4 (.int v) = zmem (su x 3 (u2 (x 3) 0 4 v)) y E := zmem_pt (a := 8) (by decide +kernel : zin 8 4 ∧ zdc 8 4 = (0, 3, 0, 4)).1 (by decide +kernel : zin 8 4 ∧ zdc 8 4 = (0, 3, 0, 4)).2
theorem l_ro_ok {x y : zSt} {E : zEx}   : zok (zmem x y E) (10) 5 3 = True := zmem_ok (a := 10) (by decide +kernel : 1 ≤ 10 ∧ 10 ≤ 476 ∧ zdk 10 = (5, 3)).1 (by decide +kernel : 1 ≤ 10 ∧ 10 ≤ 476 ∧ zdk 10 = (5, 3)).2.1 (by decide +kernel : 1 ≤ 10 ∧ 10 ≤ 476 ∧ zdk 10 = (5, 3)).2.2
theorem l_ro_0 {x y : zSt} {E : zEx}   : zrd (zmem x y E) (10) 0 = .ref (11) := zmem_rdr (a := 10) (by decide +kernel : zin 10 0 ∧ zdc 10 0 = (2, 11, 0, 0)).1 (by decide +kernel : zin 10 0 ∧ zdc 10 0 = (2, 11, 0, 0)).2
theorem l_ro_1 {x y : zSt} {E : zEx}   : zrd (zmem x y E) (10) 1 = .int (x 5 0 1) := zmem_rdi (a := 10) (by decide +kernel : zin 10 1 ∧ zdc 10 1 = (0, 5, 0, 1)).1 (by decide +kernel : zin 10 1 ∧ zdc 10 1 = (0, 5, 0, 1)).2
theorem l_ro_1p {x y : zSt} {E : zEx} {v : Int32}   : zput (zmem x y E) (10) 1 (.int v) = zmem (su x 5 (u2 (x 5) 0 1 v)) y E := zmem_pt (a := 10) (by decide +kernel : zin 10 1 ∧ zdc 10 1 = (0, 5, 0, 1)).1 (by decide +kernel : zin 10 1 ∧ zdc 10 1 = (0, 5, 0, 1)).2
theorem l_ro_2 {x y : zSt} {E : zEx}   : zrd (zmem x y E) (10) 2 = .int (x 5 0 2) := zmem_rdi (a := 10) (by decide +kernel : zin 10 2 ∧ zdc 10 2 = (0, 5, 0, 2)).1 (by decide +kernel : zin 10 2 ∧ zdc 10 2 = (0, 5, 0, 2)).2
theorem l_ro_2p {x y : zSt} {E : zEx} {v : Int32}   : zput (zmem x y E) (10) 2 (.int v) = zmem (su x 5 (u2 (x 5) 0 2 v)) y E := zmem_pt (a := 10) (by decide +kernel : zin 10 2 ∧ zdc 10 2 = (0, 5, 0, 2)).1 (by decide +kernel : zin 10 2 ∧ zdc 10 2 = (0, 5, 0, 2)).2
theorem l_tm_ok {x y : zSt} {E : zEx}   : zok (zmem x y E) (12) 8 6 = True := zmem_ok (a := 12) (by decide +kernel : 1 ≤ 12 ∧ 12 ≤ 476 ∧ zdk 12 = (8, 6)).1 (by decide +kernel : 1 ≤ 12 ∧ 12 ≤ 476 ∧ zdk 12 = (8, 6)).2.1 (by decide +kernel : 1 ≤ 12 ∧ 12 ≤ 476 ∧ zdk 12 = (8, 6)).2.2
theorem l_tm_0 {x y : zSt} {E : zEx}   : zrd (zmem x y E) (12) 0 = .ref (13) := zmem_rdr (a := 12) (by decide +kernel : zin 12 0 ∧ zdc 12 0 = (2, 13, 0, 0)).1 (by decide +kernel : zin 12 0 ∧ zdc 12 0 = (2, 13, 0, 0)).2
theorem l_tm_1 {x y : zSt} {E : zEx}   : zrd (zmem x y E) (12) 1 = .ref (14) := zmem_rdr (a := 12) (by decide +kernel : zin 12 1 ∧ zdc 12 1 = (2, 14, 0, 0)).1 (by decide +kernel : zin 12 1 ∧ zdc 12 1 = (2, 14, 0, 0)).2
theorem l_tm_2 {x y : zSt} {E : zEx}   : zrd (zmem x y E) (12) 2 = .ref (15) := zmem_rdr (a := 12) (by decide +kernel : zin 12 2 ∧ zdc 12 2 = (2, 15, 0, 0)).1 (by decide +kernel : zin 12 2 ∧ zdc 12 2 = (2, 15, 0, 0)).2
theorem l_tm_3 {x y : zSt} {E : zEx}   : zrd (zmem x y E) (12) 3 = .ref (16) := zmem_rdr (a := 12) (by decide +kernel : zin 12 3 ∧ zdc 12 3 = (2, 16, 0, 0)).1 (by decide +kernel : zin 12 3 ∧ zdc 12 3 = (2, 16, 0, 0)).2
theorem l_tm_4 {x y : zSt} {E : zEx}   : zrd (zmem x y E) (12) 4 = .int (x 7 0 4) := zmem_rdi (a := 12) (by decide +kernel : zin 12 4 ∧ zdc 12 4 = (0, 7, 0, 4)).1 (by decide +kernel : zin 12 4 ∧ zdc 12 4 = (0, 7, 0, 4)).2
theorem l_tm_4p {x y : zSt} {E : zEx} {v : Int32}   : zput (zmem x y E) (12) 4 (.int v) = zmem (su x 7 (u2 (x 7) 0 4 v)) y E := zmem_pt (a := 12) (by decide +kernel : zin 12 4 ∧ zdc 12 4 = (0, 7, 0, 4)).1 (by decide +kernel : zin 12 4 ∧ zdc 12 4 = (0, 7, 0, 4)).2
theorem l_tm_5 {x y : zSt} {E : zEx}   : zrd (zmem x y E) (12) 5 = .int (x 7 0 5) := zmem_rdi (a := 12) (by decide +kernel : zin 12 5 ∧ zdc 12 5 = (0, 7, 0, 5)).1 (by decide +kernel : zin 12 5 ∧ zdc 12 5 = (0, 7, 0, 5)).2
theorem l_tm_5p {x y : zSt} {E : zEx} {v : Int32}   : zput (zmem x y E) (12) 5 (.int v) = zmem (su x 7 (u2 (x 7) 0 5 v)) y E := zmem_pt (a := 12) (by decide +kernel : zin 12 5 ∧ zdc 12 5 = (0, 7, 0, 5)).1 (by decide +kernel : zin 12 5 ∧ zdc 12 5 = (0, 7, 0, 5)).2
theorem f_bx : ∀ p < 4, 1 ≤ 18 + 78 * p ∧ 18 + 78 * p ≤ 476 ∧ zdk (18 + 78 * p) = (0, 6) := by decide +kernel
theorem l_bx_ok {x y : zSt} {E : zEx} {p : Nat} (hp : p < 4) : zok (zmem x y E) (aBx p) 0 6 = True := zmem_ok (a := 18 + 78 * p) (f_bx p hp).1 (f_bx p hp).2.1 (f_bx p hp).2.2
theorem f_bx_0 : ∀ p < 4, zin (18 + 78 * p) 0 ∧ zdc (18 + 78 * p) 0 = (2, 19 + 78 * p, 0, 0) := by decide +kernel
theorem l_bx_0 {x y : zSt} {E : zEx} {p : Nat} (hp : p < 4) : zrd (zmem x y E) (aBx p) 0 = .ref (aSA p) := zmem_rdr (a := 18 + 78 * p) (f_bx_0 p hp).1 (f_bx_0 p hp).2
theorem f_bx_1 : ∀ p < 4, zin (18 + 78 * p) 1 ∧ zdc (18 + 78 * p) 1 = (0, 13, p, 1) := by decide +kernel
theorem l_bx_1 {x y : zSt} {E : zEx} {p : Nat} (hp : p < 4) : zrd (zmem x y E) (aBx p) 1 = .int (x 13 p 1) := zmem_rdi (a := 18 + 78 * p) (f_bx_1 p hp).1 (f_bx_1 p hp).2
theorem l_bx_1p {x y : zSt} {E : zEx} {v : Int32} {p : Nat} (hp : p < 4) : zput (zmem x y E) (aBx p) 1 (.int v) = zmem (su x 13 (u2 (x 13) p 1 v)) y E := zmem_pt (a := 18 + 78 * p) (f_bx_1 p hp).1 (f_bx_1 p hp).2
theorem f_bx_2 : ∀ p < 4, zin (18 + 78 * p) 2 ∧ zdc (18 + 78 * p) 2 = (2, 20 + 78 * p, 0, 0) := by decide +kernel
theorem l_bx_2 {x y : zSt} {E : zEx} {p : Nat} (hp : p < 4) : zrd (zmem x y E) (aBx p) 2 = .ref (aRA p) := zmem_rdr (a := 18 + 78 * p) (f_bx_2 p hp).1 (f_bx_2 p hp).2
theorem f_bx_3 : ∀ p < 4, zin (18 + 78 * p) 3 ∧ zdc (18 + 78 * p) 3 = (0, 13, p, 3) := by decide +kernel
theorem l_bx_3 {x y : zSt} {E : zEx} {p : Nat} (hp : p < 4) : zrd (zmem x y E) (aBx p) 3 = .int (x 13 p 3) := zmem_rdi (a := 18 + 78 * p) (f_bx_3 p hp).1 (f_bx_3 p hp).2
theorem l_bx_3p {x y : zSt} {E : zEx} {v : Int32} {p : Nat} (hp : p < 4) : zput (zmem x y E) (aBx p) 3 (.int v) = zmem (su x 13 (u2 (x 13) p 3 v)) y E := zmem_pt (a := 18 + 78 * p) (f_bx_3 p hp).1 (f_bx_3 p hp).2
theorem f_bx_4 : ∀ p < 4, zin (18 + 78 * p) 4 ∧ zdc (18 + 78 * p) 4 = (2, 21 + 78 * p, 0, 0) := by decide +kernel
theorem l_bx_4 {x y : zSt} {E : zEx} {p : Nat} (hp : p < 4) : zrd (zmem x y E) (aBx p) 4 = .ref (aCA p) := zmem_rdr (a := 18 + 78 * p) (f_bx_4 p hp).1 (f_bx_4 p hp).2
theorem f_bx_5 : ∀ p < 4, zin (18 + 78 * p) 5 ∧ zdc (18 + 78 * p) 5 = (0, 13, p, 5) := by decide +kernel
theorem l_bx_5 {x y : zSt} {E : zEx} {p : Nat} (hp : p < 4) : zrd (zmem x y E) (aBx p) 5 = .int (x 13 p 5) := zmem_rdi (a := 18 + 78 * p) (f_bx_5 p hp).1 (f_bx_5 p hp).2
theorem l_bx_5p {x y : zSt} {E : zEx} {v : Int32} {p : Nat} (hp : p < 4) : zput (zmem x y E) (aBx p) 5 (.int v) = zmem (su x 13 (u2 (x 13) p 5 v)) y E := zmem_pt (a := 18 + 78 * p) (f_bx_5 p hp).1 (f_bx_5 p hp).2
theorem f_sh : ∀ p < 4, ∀ k < 8, 1 ≤ 22 + 78 * p + k ∧ 22 + 78 * p + k ≤ 476 ∧ zdk (22 + 78 * p + k) = (7, 3) := by decide +kernel
theorem l_sh_ok {x y : zSt} {E : zEx} {p : Nat} {k : Nat} (hp : p < 4) (hk : k < 8) : zok (zmem x y E) (aSh p k) 7 3 = True := zmem_ok (a := 22 + 78 * p + k) (f_sh p hp k hk).1 (f_sh p hp k hk).2.1 (f_sh p hp k hk).2.2
theorem f_sh_0 : ∀ p < 4, ∀ k < 8, zin (22 + 78 * p + k) 0 ∧ zdc (22 + 78 * p + k) 0 = (0, 14, p, k) := by decide +kernel
theorem l_sh_0 {x y : zSt} {E : zEx} {p : Nat} {k : Nat} (hp : p < 4) (hk : k < 8) : zrd (zmem x y E) (aSh p k) 0 = .int (x 14 p k) := zmem_rdi (a := 22 + 78 * p + k) (f_sh_0 p hp k hk).1 (f_sh_0 p hp k hk).2
theorem l_sh_0p {x y : zSt} {E : zEx} {v : Int32} {p : Nat} {k : Nat} (hp : p < 4) (hk : k < 8) : zput (zmem x y E) (aSh p k) 0 (.int v) = zmem (su x 14 (u2 (x 14) p k v)) y E := zmem_pt (a := 22 + 78 * p + k) (f_sh_0 p hp k hk).1 (f_sh_0 p hp k hk).2
theorem f_sh_1 : ∀ p < 4, ∀ k < 8, zin (22 + 78 * p + k) 1 ∧ zdc (22 + 78 * p + k) 1 = (0, 15, p, k) := by decide +kernel
theorem l_sh_1 {x y : zSt} {E : zEx} {p : Nat} {k : Nat} (hp : p < 4) (hk : k < 8) : zrd (zmem x y E) (aSh p k) 1 = .int (x 15 p k) := zmem_rdi (a := 22 + 78 * p + k) (f_sh_1 p hp k hk).1 (f_sh_1 p hp k hk).2
theorem l_sh_1p {x y : zSt} {E : zEx} {v : Int32} {p : Nat} {k : Nat} (hp : p < 4) (hk : k < 8) : zput (zmem x y E) (aSh p k) 1 (.int v) = zmem (su x 15 (u2 (x 15) p k v)) y E := zmem_pt (a := 22 + 78 * p + k) (f_sh_1 p hp k hk).1 (f_sh_1 p hp k hk).2
theorem f_sh_2 : ∀ p < 4, ∀ k < 8, zin (22 + 78 * p + k) 2 ∧ zdc (22 + 78 * p + k) 2 = (0, 16, p, k) := by decide +kernel
theorem l_sh_2 {x y : zSt} {E : zEx} {p : Nat} {k : Nat} (hp : p < 4) (hk : k < 8) : zrd (zmem x y E) (aSh p k) 2 = .int (x 16 p k) := zmem_rdi (a := 22 + 78 * p + k) (f_sh_2 p hp k hk).1 (f_sh_2 p hp k hk).2
theorem l_sh_2p {x y : zSt} {E : zEx} {v : Int32} {p : Nat} {k : Nat} (hp : p < 4) (hk : k < 8) : zput (zmem x y E) (aSh p k) 2 (.int v) = zmem (su x 16 (u2 (x 16) p k v)) y E := zmem_pt (a := 22 + 78 * p + k) (f_sh_2 p hp k hk).1 (f_sh_2 p hp k hk).2
theorem f_ru : ∀ p < 4, ∀ k < 6, 1 ≤ 30 + 78 * p + k ∧ 30 + 78 * p + k ≤ 476 ∧ zdk (30 + 78 * p + k) = (6, 6) := by decide +kernel
theorem l_ru_ok {x y : zSt} {E : zEx} {p : Nat} {k : Nat} (hp : p < 4) (hk : k < 6) : zok (zmem x y E) (aRu p k) 6 6 = True := zmem_ok (a := 30 + 78 * p + k) (f_ru p hp k hk).1 (f_ru p hp k hk).2.1 (f_ru p hp k hk).2.2
theorem f_ru_0 : ∀ p < 4, ∀ k < 6, zin (30 + 78 * p + k) 0 ∧ zdc (30 + 78 * p + k) 0 = (0, 18, p, k) := by decide +kernel
theorem l_ru_0 {x y : zSt} {E : zEx} {p : Nat} {k : Nat} (hp : p < 4) (hk : k < 6) : zrd (zmem x y E) (aRu p k) 0 = .int (x 18 p k) := zmem_rdi (a := 30 + 78 * p + k) (f_ru_0 p hp k hk).1 (f_ru_0 p hp k hk).2
theorem l_ru_0p {x y : zSt} {E : zEx} {v : Int32} {p : Nat} {k : Nat} (hp : p < 4) (hk : k < 6) : zput (zmem x y E) (aRu p k) 0 (.int v) = zmem (su x 18 (u2 (x 18) p k v)) y E := zmem_pt (a := 30 + 78 * p + k) (f_ru_0 p hp k hk).1 (f_ru_0 p hp k hk).2
theorem f_ru_1 : ∀ p < 4, ∀ k < 6, zin (30 + 78 * p + k) 1 ∧ zdc (30 + 78 * p + k) 1 = (0, 19, p, k) := by decide +kernel
theorem l_ru_1 {x y : zSt} {E : zEx} {p : Nat} {k : Nat} (hp : p < 4) (hk : k < 6) : zrd (zmem x y E) (aRu p k) 1 = .int (x 19 p k) := zmem_rdi (a := 30 + 78 * p + k) (f_ru_1 p hp k hk).1 (f_ru_1 p hp k hk).2
theorem l_ru_1p {x y : zSt} {E : zEx} {v : Int32} {p : Nat} {k : Nat} (hp : p < 4) (hk : k < 6) : zput (zmem x y E) (aRu p k) 1 (.int v) = zmem (su x 19 (u2 (x 19) p k v)) y E := zmem_pt (a := 30 + 78 * p + k) (f_ru_1 p hp k hk).1 (f_ru_1 p hp k hk).2
theorem f_ru_2 : ∀ p < 4, ∀ k < 6, zin (30 + 78 * p + k) 2 ∧ zdc (30 + 78 * p + k) 2 = (0, 20, p, k) := by decide +kernel
theorem l_ru_2 {x y : zSt} {E : zEx} {p : Nat} {k : Nat} (hp : p < 4) (hk : k < 6) : zrd (zmem x y E) (aRu p k) 2 = .int (x 20 p k) := zmem_rdi (a := 30 + 78 * p + k) (f_ru_2 p hp k hk).1 (f_ru_2 p hp k hk).2
theorem l_ru_2p {x y : zSt} {E : zEx} {v : Int32} {p : Nat} {k : Nat} (hp : p < 4) (hk : k < 6) : zput (zmem x y E) (aRu p k) 2 (.int v) = zmem (su x 20 (u2 (x 20) p k v)) y E := zmem_pt (a := 30 + 78 * p + k) (f_ru_2 p hp k hk).1 (f_ru_2 p hp k hk).2
theorem f_ru_3 : ∀ p < 4, ∀ k < 6, zin (30 + 78 * p + k) 3 ∧ zdc (30 + 78 * p + k) 3 = (0, 21, p, k) := by decide +kernel
theorem l_ru_3 {x y : zSt} {E : zEx} {p : Nat} {k : Nat} (hp : p < 4) (hk : k < 6) : zrd (zmem x y E) (aRu p k) 3 = .int (x 21 p k) := zmem_rdi (a := 30 + 78 * p + k) (f_ru_3 p hp k hk).1 (f_ru_3 p hp k hk).2
theorem l_ru_3p {x y : zSt} {E : zEx} {v : Int32} {p : Nat} {k : Nat} (hp : p < 4) (hk : k < 6) : zput (zmem x y E) (aRu p k) 3 (.int v) = zmem (su x 21 (u2 (x 21) p k v)) y E := zmem_pt (a := 30 + 78 * p + k) (f_ru_3 p hp k hk).1 (f_ru_3 p hp k hk).2
theorem f_ru_4 : ∀ p < 4, ∀ k < 6, zin (30 + 78 * p + k) 4 ∧ zdc (30 + 78 * p + k) 4 = (0, 22, p, k) := by decide +kernel
theorem l_ru_4 {x y : zSt} {E : zEx} {p : Nat} {k : Nat} (hp : p < 4) (hk : k < 6) : zrd (zmem x y E) (aRu p k) 4 = .int (x 22 p k) := zmem_rdi (a := 30 + 78 * p + k) (f_ru_4 p hp k hk).1 (f_ru_4 p hp k hk).2
theorem l_ru_4p {x y : zSt} {E : zEx} {v : Int32} {p : Nat} {k : Nat} (hp : p < 4) (hk : k < 6) : zput (zmem x y E) (aRu p k) 4 (.int v) = zmem (su x 22 (u2 (x 22) p k v)) y E := zmem_pt (a := 30 + 78 * p + k) (f_ru_4 p hp k hk).1 (f_ru_4 p hp k hk).2
theorem f_ru_5 : ∀ p < 4, ∀ k < 6, zin (30 + 78 * p + k) 5 ∧ zdc (30 + 78 * p + k) 5 = (0, 23, p, k) := by decide +kernel
theorem l_ru_5 {x y : zSt} {E : zEx} {p : Nat} {k : Nat} (hp : p < 4) (hk : k < 6) : zrd (zmem x y E) (aRu p k) 5 = .int (x 23 p k) := zmem_rdi (a := 30 + 78 * p + k) (f_ru_5 p hp k hk).1 (f_ru_5 p hp k hk).2
theorem l_ru_5p {x y : zSt} {E : zEx} {v : Int32} {p : Nat} {k : Nat} (hp : p < 4) (hk : k < 6) : zput (zmem x y E) (aRu p k) 5 (.int v) = zmem (su x 23 (u2 (x 23) p k v)) y E := zmem_pt (a := 30 + 78 * p + k) (f_ru_5 p hp k hk).1 (f_ru_5 p hp k hk).2
theorem f_co : ∀ p < 4, ∀ i < 60, 1 ≤ 36 + 78 * p + i ∧ 36 + 78 * p + i ≤ 476 ∧ zdk (36 + 78 * p + i) = (1, 6) := by decide +kernel
theorem l_co_ok {x y : zSt} {E : zEx} {p : Nat} {i : Nat} (hp : p < 4) (hi : i < 60) : zok (zmem x y E) (aCo p i) 1 6 = True := zmem_ok (a := 36 + 78 * p + i) (f_co p hp i hi).1 (f_co p hp i hi).2.1 (f_co p hp i hi).2.2
theorem f_co_0 : ∀ p < 4, ∀ i < 60, zin (36 + 78 * p + i) 0 ∧ zdc (36 + 78 * p + i) 0 = (0, 24, p, i) := by decide +kernel
theorem l_co_0 {x y : zSt} {E : zEx} {p : Nat} {i : Nat} (hp : p < 4) (hi : i < 60) : zrd (zmem x y E) (aCo p i) 0 = .int (x 24 p i) := zmem_rdi (a := 36 + 78 * p + i) (f_co_0 p hp i hi).1 (f_co_0 p hp i hi).2
theorem l_co_0p {x y : zSt} {E : zEx} {v : Int32} {p : Nat} {i : Nat} (hp : p < 4) (hi : i < 60) : zput (zmem x y E) (aCo p i) 0 (.int v) = zmem (su x 24 (u2 (x 24) p i v)) y E := zmem_pt (a := 36 + 78 * p + i) (f_co_0 p hp i hi).1 (f_co_0 p hp i hi).2
theorem f_co_1 : ∀ p < 4, ∀ i < 60, zin (36 + 78 * p + i) 1 ∧ zdc (36 + 78 * p + i) 1 = (0, 25, p, i) := by decide +kernel
theorem l_co_1 {x y : zSt} {E : zEx} {p : Nat} {i : Nat} (hp : p < 4) (hi : i < 60) : zrd (zmem x y E) (aCo p i) 1 = .int (x 25 p i) := zmem_rdi (a := 36 + 78 * p + i) (f_co_1 p hp i hi).1 (f_co_1 p hp i hi).2
theorem l_co_1p {x y : zSt} {E : zEx} {v : Int32} {p : Nat} {i : Nat} (hp : p < 4) (hi : i < 60) : zput (zmem x y E) (aCo p i) 1 (.int v) = zmem (su x 25 (u2 (x 25) p i v)) y E := zmem_pt (a := 36 + 78 * p + i) (f_co_1 p hp i hi).1 (f_co_1 p hp i hi).2
theorem f_co_2 : ∀ p < 4, ∀ i < 60, zin (36 + 78 * p + i) 2 ∧ zdc (36 + 78 * p + i) 2 = (0, 26, p, i) := by decide +kernel
theorem l_co_2 {x y : zSt} {E : zEx} {p : Nat} {i : Nat} (hp : p < 4) (hi : i < 60) : zrd (zmem x y E) (aCo p i) 2 = .int (x 26 p i) := zmem_rdi (a := 36 + 78 * p + i) (f_co_2 p hp i hi).1 (f_co_2 p hp i hi).2
theorem l_co_2p {x y : zSt} {E : zEx} {v : Int32} {p : Nat} {i : Nat} (hp : p < 4) (hi : i < 60) : zput (zmem x y E) (aCo p i) 2 (.int v) = zmem (su x 26 (u2 (x 26) p i v)) y E := zmem_pt (a := 36 + 78 * p + i) (f_co_2 p hp i hi).1 (f_co_2 p hp i hi).2
theorem f_co_3 : ∀ p < 4, ∀ i < 60, zin (36 + 78 * p + i) 3 ∧ zdc (36 + 78 * p + i) 3 = (0, 27, p, i) := by decide +kernel
theorem l_co_3 {x y : zSt} {E : zEx} {p : Nat} {i : Nat} (hp : p < 4) (hi : i < 60) : zrd (zmem x y E) (aCo p i) 3 = .int (x 27 p i) := zmem_rdi (a := 36 + 78 * p + i) (f_co_3 p hp i hi).1 (f_co_3 p hp i hi).2
theorem l_co_3p {x y : zSt} {E : zEx} {v : Int32} {p : Nat} {i : Nat} (hp : p < 4) (hi : i < 60) : zput (zmem x y E) (aCo p i) 3 (.int v) = zmem (su x 27 (u2 (x 27) p i v)) y E := zmem_pt (a := 36 + 78 * p + i) (f_co_3 p hp i hi).1 (f_co_3 p hp i hi).2
theorem f_co_4 : ∀ p < 4, ∀ i < 60, zin (36 + 78 * p + i) 4 ∧ zdc (36 + 78 * p + i) 4 = (0, 28, p, i) := by decide +kernel
theorem l_co_4 {x y : zSt} {E : zEx} {p : Nat} {i : Nat} (hp : p < 4) (hi : i < 60) : zrd (zmem x y E) (aCo p i) 4 = .int (x 28 p i) := zmem_rdi (a := 36 + 78 * p + i) (f_co_4 p hp i hi).1 (f_co_4 p hp i hi).2
theorem l_co_4p {x y : zSt} {E : zEx} {v : Int32} {p : Nat} {i : Nat} (hp : p < 4) (hi : i < 60) : zput (zmem x y E) (aCo p i) 4 (.int v) = zmem (su x 28 (u2 (x 28) p i v)) y E := zmem_pt (a := 36 + 78 * p + i) (f_co_4 p hp i hi).1 (f_co_4 p hp i hi).2
theorem f_co_5 : ∀ p < 4, ∀ i < 60, zin (36 + 78 * p + i) 5 ∧ zdc (36 + 78 * p + i) 5 = (0, 29, p, i) := by decide +kernel
theorem l_co_5 {x y : zSt} {E : zEx} {p : Nat} {i : Nat} (hp : p < 4) (hi : i < 60) : zrd (zmem x y E) (aCo p i) 5 = .int (x 29 p i) := zmem_rdi (a := 36 + 78 * p + i) (f_co_5 p hp i hi).1 (f_co_5 p hp i hi).2
theorem l_co_5p {x y : zSt} {E : zEx} {v : Int32} {p : Nat} {i : Nat} (hp : p < 4) (hi : i < 60) : zput (zmem x y E) (aCo p i) 5 (.int v) = zmem (su x 29 (u2 (x 29) p i v)) y E := zmem_pt (a := 36 + 78 * p + i) (f_co_5 p hp i hi).1 (f_co_5 p hp i hi).2
theorem f_le : ∀ i < 61, 1 ≤ (if i = 60 then 7 else 330 + i) ∧ (if i = 60 then 7 else 330 + i) ≤ 476 ∧ zdk ((if i = 60 then 7 else 330 + i)) = (2, 6) := by decide +kernel
theorem l_le_ok {x y : zSt} {E : zEx} {i : Nat} (hi : i < 61) : zok (zmem x y E) (aLe i) 2 6 = True := zmem_ok (a := (if i = 60 then 7 else 330 + i)) (f_le i hi).1 (f_le i hi).2.1 (f_le i hi).2.2
theorem f_le_0 : ∀ i < 61, zin ((if i = 60 then 7 else 330 + i)) 0 ∧ zdc ((if i = 60 then 7 else 330 + i)) 0 = (0, 30, 0, i) := by decide +kernel
theorem l_le_0 {x y : zSt} {E : zEx} {i : Nat} (hi : i < 61) : zrd (zmem x y E) (aLe i) 0 = .int (x 30 0 i) := zmem_rdi (a := (if i = 60 then 7 else 330 + i)) (f_le_0 i hi).1 (f_le_0 i hi).2
theorem l_le_0p {x y : zSt} {E : zEx} {v : Int32} {i : Nat} (hi : i < 61) : zput (zmem x y E) (aLe i) 0 (.int v) = zmem (su x 30 (u2 (x 30) 0 i v)) y E := zmem_pt (a := (if i = 60 then 7 else 330 + i)) (f_le_0 i hi).1 (f_le_0 i hi).2
theorem f_le_1 : ∀ i < 61, zin ((if i = 60 then 7 else 330 + i)) 1 ∧ zdc ((if i = 60 then 7 else 330 + i)) 1 = (0, 31, 0, i) := by decide +kernel
theorem l_le_1 {x y : zSt} {E : zEx} {i : Nat} (hi : i < 61) : zrd (zmem x y E) (aLe i) 1 = .int (x 31 0 i) := zmem_rdi (a := (if i = 60 then 7 else 330 + i)) (f_le_1 i hi).1 (f_le_1 i hi).2
theorem l_le_1p {x y : zSt} {E : zEx} {v : Int32} {i : Nat} (hi : i < 61) : zput (zmem x y E) (aLe i) 1 (.int v) = zmem (su x 31 (u2 (x 31) 0 i v)) y E := zmem_pt (a := (if i = 60 then 7 else 330 + i)) (f_le_1 i hi).1 (f_le_1 i hi).2
theorem f_le_2 : ∀ i < 61, zin ((if i = 60 then 7 else 330 + i)) 2 ∧ zdc ((if i = 60 then 7 else 330 + i)) 2 = (0, 32, 0, i) := by decide +kernel
theorem l_le_2 {x y : zSt} {E : zEx} {i : Nat} (hi : i < 61) : zrd (zmem x y E) (aLe i) 2 = .int (x 32 0 i) := zmem_rdi (a := (if i = 60 then 7 else 330 + i)) (f_le_2 i hi).1 (f_le_2 i hi).2
theorem l_le_2p {x y : zSt} {E : zEx} {v : Int32} {i : Nat} (hi : i < 61) : zput (zmem x y E) (aLe i) 2 (.int v) = zmem (su x 32 (u2 (x 32) 0 i v)) y E := zmem_pt (a := (if i = 60 then 7 else 330 + i)) (f_le_2 i hi).1 (f_le_2 i hi).2
theorem f_le_3 : ∀ i < 61, zin ((if i = 60 then 7 else 330 + i)) 3 ∧ zdc ((if i = 60 then 7 else 330 + i)) 3 = (0, 33, 0, i) := by decide +kernel
theorem l_le_3 {x y : zSt} {E : zEx} {i : Nat} (hi : i < 61) : zrd (zmem x y E) (aLe i) 3 = .int (x 33 0 i) := zmem_rdi (a := (if i = 60 then 7 else 330 + i)) (f_le_3 i hi).1 (f_le_3 i hi).2
theorem l_le_3p {x y : zSt} {E : zEx} {v : Int32} {i : Nat} (hi : i < 61) : zput (zmem x y E) (aLe i) 3 (.int v) = zmem (su x 33 (u2 (x 33) 0 i v)) y E := zmem_pt (a := (if i = 60 then 7 else 330 + i)) (f_le_3 i hi).1 (f_le_3 i hi).2
theorem f_le_4 : ∀ i < 61, zin ((if i = 60 then 7 else 330 + i)) 4 ∧ zdc ((if i = 60 then 7 else 330 + i)) 4 = (0, 34, 0, i) := by decide +kernel
theorem l_le_4 {x y : zSt} {E : zEx} {i : Nat} (hi : i < 61) : zrd (zmem x y E) (aLe i) 4 = .int (x 34 0 i) := zmem_rdi (a := (if i = 60 then 7 else 330 + i)) (f_le_4 i hi).1 (f_le_4 i hi).2
theorem l_le_4p {x y : zSt} {E : zEx} {v : Int32} {i : Nat} (hi : i < 61) : zput (zmem x y E) (aLe i) 4 (.int v) = zmem (su x 34 (u2 (x 34) 0 i v)) y E := zmem_pt (a := (if i = 60 then 7 else 330 + i)) (f_le_4 i hi).1 (f_le_4 i hi).2
theorem f_le_5 : ∀ i < 61, zin ((if i = 60 then 7 else 330 + i)) 5 ∧ zdc ((if i = 60 then 7 else 330 + i)) 5 = (0, 35, 0, i) := by decide +kernel
theorem l_le_5 {x y : zSt} {E : zEx} {i : Nat} (hi : i < 61) : zrd (zmem x y E) (aLe i) 5 = .int (x 35 0 i) := zmem_rdi (a := (if i = 60 then 7 else 330 + i)) (f_le_5 i hi).1 (f_le_5 i hi).2
theorem l_le_5p {x y : zSt} {E : zEx} {v : Int32} {i : Nat} (hi : i < 61) : zput (zmem x y E) (aLe i) 5 (.int v) = zmem (su x 35 (u2 (x 35) 0 i v)) y E := zmem_pt (a := (if i = 60 then 7 else 330 + i)) (f_le_5 i hi).1 (f_le_5 i hi).2
theorem f_qu : ∀ i < 20, 1 ≤ 390 + i ∧ 390 + i ≤ 476 ∧ zdk (390 + i) = (4, 3) := by decide +kernel
theorem l_qu_ok {x y : zSt} {E : zEx} {i : Nat} (hi : i < 20) : zok (zmem x y E) (aQu i) 4 3 = True := zmem_ok (a := 390 + i) (f_qu i hi).1 (f_qu i hi).2.1 (f_qu i hi).2.2
theorem f_qu_0 : ∀ i < 20, zin (390 + i) 0 ∧ zdc (390 + i) 0 = (0, 36, 0, i) := by decide +kernel
theorem l_qu_0 {x y : zSt} {E : zEx} {i : Nat} (hi : i < 20) : zrd (zmem x y E) (aQu i) 0 = .int (x 36 0 i) := zmem_rdi (a := 390 + i) (f_qu_0 i hi).1 (f_qu_0 i hi).2
theorem l_qu_0p {x y : zSt} {E : zEx} {v : Int32} {i : Nat} (hi : i < 20) : zput (zmem x y E) (aQu i) 0 (.int v) = zmem (su x 36 (u2 (x 36) 0 i v)) y E := zmem_pt (a := 390 + i) (f_qu_0 i hi).1 (f_qu_0 i hi).2
theorem f_qu_1 : ∀ i < 20, zin (390 + i) 1 ∧ zdc (390 + i) 1 = (0, 37, 0, i) := by decide +kernel
theorem l_qu_1 {x y : zSt} {E : zEx} {i : Nat} (hi : i < 20) : zrd (zmem x y E) (aQu i) 1 = .int (x 37 0 i) := zmem_rdi (a := 390 + i) (f_qu_1 i hi).1 (f_qu_1 i hi).2
theorem l_qu_1p {x y : zSt} {E : zEx} {v : Int32} {i : Nat} (hi : i < 20) : zput (zmem x y E) (aQu i) 1 (.int v) = zmem (su x 37 (u2 (x 37) 0 i v)) y E := zmem_pt (a := 390 + i) (f_qu_1 i hi).1 (f_qu_1 i hi).2
theorem f_qu_2 : ∀ i < 20, zin (390 + i) 2 ∧ zdc (390 + i) 2 = (0, 38, 0, i) := by decide +kernel
theorem l_qu_2 {x y : zSt} {E : zEx} {i : Nat} (hi : i < 20) : zrd (zmem x y E) (aQu i) 2 = .int (x 38 0 i) := zmem_rdi (a := 390 + i) (f_qu_2 i hi).1 (f_qu_2 i hi).2
theorem l_qu_2p {x y : zSt} {E : zEx} {v : Int32} {i : Nat} (hi : i < 20) : zput (zmem x y E) (aQu i) 2 (.int v) = zmem (su x 38 (u2 (x 38) 0 i v)) y E := zmem_pt (a := 390 + i) (f_qu_2 i hi).1 (f_qu_2 i hi).2
theorem l_po_ok {x y : zSt} {E : zEx}   : zok (zmem x y E) (1) 10 18 = True := zmem_ok (a := 1) (by decide +kernel : 1 ≤ 1 ∧ 1 ≤ 476 ∧ zdk 1 = (10, 18)).1 (by decide +kernel : 1 ≤ 1 ∧ 1 ≤ 476 ∧ zdk 1 = (10, 18)).2.1 (by decide +kernel : 1 ≤ 1 ∧ 1 ≤ 476 ∧ zdk 1 = (10, 18)).2.2
theorem l_po_0 {x y : zSt} {E : zEx}   : zrd (zmem x y E) (1) 0 = .ref (2) := zmem_rdr (a := 1) (by decide +kernel : zin 1 0 ∧ zdc 1 0 = (2, 2, 0, 0)).1 (by decide +kernel : zin 1 0 ∧ zdc 1 0 = (2, 2, 0, 0)).2
theorem l_po_1 {x y : zSt} {E : zEx}   : zrd (zmem x y E) (1) 1 = .ref (0) := zmem_rdr (a := 1) (by decide +kernel : zin 1 1 ∧ zdc 1 1 = (2, 0, 0, 0)).1 (by decide +kernel : zin 1 1 ∧ zdc 1 1 = (2, 0, 0, 0)).2
theorem l_po_2 {x y : zSt} {E : zEx}   : zrd (zmem x y E) (1) 2 = .int (y 2 0 0) := zmem_rdy (a := 1) (by decide +kernel : zin 1 2 ∧ zdc 1 2 = (1, 2, 0, 0)).1 (by decide +kernel : zin 1 2 ∧ zdc 1 2 = (1, 2, 0, 0)).2
theorem l_po_2p {x y : zSt} {E : zEx} {v : Int32}   : zput (zmem x y E) (1) 2 (.int v) = zmem x (su y 2 (u2 (y 2) 0 0 v)) E := zmem_py (a := 1) (by decide +kernel : zin 1 2 ∧ zdc 1 2 = (1, 2, 0, 0)).1 (by decide +kernel : zin 1 2 ∧ zdc 1 2 = (1, 2, 0, 0)).2
theorem l_po_3 {x y : zSt} {E : zEx}   : zrd (zmem x y E) (1) 3 = .int (y 0 0 6) := zmem_rdy (a := 1) (by decide +kernel : zin 1 3 ∧ zdc 1 3 = (1, 0, 0, 6)).1 (by decide +kernel : zin 1 3 ∧ zdc 1 3 = (1, 0, 0, 6)).2
theorem l_po_3p {x y : zSt} {E : zEx} {v : Int32}   : zput (zmem x y E) (1) 3 (.int v) = zmem x (su y 0 (u2 (y 0) 0 6 v)) E := zmem_py (a := 1) (by decide +kernel : zin 1 3 ∧ zdc 1 3 = (1, 0, 0, 6)).1 (by decide +kernel : zin 1 3 ∧ zdc 1 3 = (1, 0, 0, 6)).2
theorem l_po_4 {x y : zSt} {E : zEx}   : zrd (zmem x y E) (1) 4 = .int (y 0 0 7) := zmem_rdy (a := 1) (by decide +kernel : zin 1 4 ∧ zdc 1 4 = (1, 0, 0, 7)).1 (by decide +kernel : zin 1 4 ∧ zdc 1 4 = (1, 0, 0, 7)).2
theorem l_po_4p {x y : zSt} {E : zEx} {v : Int32}   : zput (zmem x y E) (1) 4 (.int v) = zmem x (su y 0 (u2 (y 0) 0 7 v)) E := zmem_py (a := 1) (by decide +kernel : zin 1 4 ∧ zdc 1 4 = (1, 0, 0, 7)).1 (by decide +kernel : zin 1 4 ∧ zdc 1 4 = (1, 0, 0, 7)).2
theorem l_po_5 {x y : zSt} {E : zEx}   : zrd (zmem x y E) (1) 5 = .int (y 0 0 8) := zmem_rdy (a := 1) (by decide +kernel : zin 1 5 ∧ zdc 1 5 = (1, 0, 0, 8)).1 (by decide +kernel : zin 1 5 ∧ zdc 1 5 = (1, 0, 0, 8)).2
theorem l_po_5p {x y : zSt} {E : zEx} {v : Int32}   : zput (zmem x y E) (1) 5 (.int v) = zmem x (su y 0 (u2 (y 0) 0 8 v)) E := zmem_py (a := 1) (by decide +kernel : zin 1 5 ∧ zdc 1 5 = (1, 0, 0, 8)).1 (by decide +kernel : zin 1 5 ∧ zdc 1 5 = (1, 0, 0, 8)).2
theorem l_po_6 {x y : zSt} {E : zEx}   : zrd (zmem x y E) (1) 6 = .int (y 0 0 9) := zmem_rdy (a := 1) (by decide +kernel : zin 1 6 ∧ zdc 1 6 = (1, 0, 0, 9)).1 (by decide +kernel : zin 1 6 ∧ zdc 1 6 = (1, 0, 0, 9)).2
theorem l_po_6p {x y : zSt} {E : zEx} {v : Int32}   : zput (zmem x y E) (1) 6 (.int v) = zmem x (su y 0 (u2 (y 0) 0 9 v)) E := zmem_py (a := 1) (by decide +kernel : zin 1 6 ∧ zdc 1 6 = (1, 0, 0, 9)).1 (by decide +kernel : zin 1 6 ∧ zdc 1 6 = (1, 0, 0, 9)).2
theorem l_po_7 {x y : zSt} {E : zEx}   : zrd (zmem x y E) (1) 7 = .ref (410) := zmem_rdr (a := 1) (by decide +kernel : zin 1 7 ∧ zdc 1 7 = (2, 410, 0, 0)).1 (by decide +kernel : zin 1 7 ∧ zdc 1 7 = (2, 410, 0, 0)).2
theorem l_po_8 {x y : zSt} {E : zEx}   : zrd (zmem x y E) (1) 8 = .ref (415) := zmem_rdr (a := 1) (by decide +kernel : zin 1 8 ∧ zdc 1 8 = (2, 415, 0, 0)).1 (by decide +kernel : zin 1 8 ∧ zdc 1 8 = (2, 415, 0, 0)).2
theorem l_po_9 {x y : zSt} {E : zEx}   : zrd (zmem x y E) (1) 9 = .ref (420) := zmem_rdr (a := 1) (by decide +kernel : zin 1 9 ∧ zdc 1 9 = (2, 420, 0, 0)).1 (by decide +kernel : zin 1 9 ∧ zdc 1 9 = (2, 420, 0, 0)).2
theorem l_po_10 {x y : zSt} {E : zEx}   : zrd (zmem x y E) (1) 10 = .ref (425) := zmem_rdr (a := 1) (by decide +kernel : zin 1 10 ∧ zdc 1 10 = (2, 425, 0, 0)).1 (by decide +kernel : zin 1 10 ∧ zdc 1 10 = (2, 425, 0, 0)).2
theorem l_po_11 {x y : zSt} {E : zEx}   : zrd (zmem x y E) (1) 11 = .ref (426) := zmem_rdr (a := 1) (by decide +kernel : zin 1 11 ∧ zdc 1 11 = (2, 426, 0, 0)).1 (by decide +kernel : zin 1 11 ∧ zdc 1 11 = (2, 426, 0, 0)).2
theorem l_po_12 {x y : zSt} {E : zEx}   : zrd (zmem x y E) (1) 12 = .ref (427) := zmem_rdr (a := 1) (by decide +kernel : zin 1 12 ∧ zdc 1 12 = (2, 427, 0, 0)).1 (by decide +kernel : zin 1 12 ∧ zdc 1 12 = (2, 427, 0, 0)).2
theorem l_po_13 {x y : zSt} {E : zEx}   : zrd (zmem x y E) (1) 13 = .ref (E.2.2.2 4 0 0) := zmem_rdv (a := 1) (by decide +kernel : zin 1 13 ∧ zdc 1 13 = (4, 4, 0, 0)).1 (by decide +kernel : zin 1 13 ∧ zdc 1 13 = (4, 4, 0, 0)).2
theorem l_po_13p {x y : zSt} {E : zEx} {v : Nat}   : zput (zmem x y E) (1) 13 (.ref v) = zmem x y (eR E 4 0 0 v) := zmem_pv (a := 1) (by decide +kernel : zin 1 13 ∧ zdc 1 13 = (4, 4, 0, 0)).1 (by decide +kernel : zin 1 13 ∧ zdc 1 13 = (4, 4, 0, 0)).2
theorem l_po_14 {x y : zSt} {E : zEx}   : zrd (zmem x y E) (1) 14 = .ref (433) := zmem_rdr (a := 1) (by decide +kernel : zin 1 14 ∧ zdc 1 14 = (2, 433, 0, 0)).1 (by decide +kernel : zin 1 14 ∧ zdc 1 14 = (2, 433, 0, 0)).2
theorem l_po_15 {x y : zSt} {E : zEx}   : zrd (zmem x y E) (1) 15 = .ref (470) := zmem_rdr (a := 1) (by decide +kernel : zin 1 15 ∧ zdc 1 15 = (2, 470, 0, 0)).1 (by decide +kernel : zin 1 15 ∧ zdc 1 15 = (2, 470, 0, 0)).2
theorem l_po_16 {x y : zSt} {E : zEx}   : zrd (zmem x y E) (1) 16 = .ref (475) := zmem_rdr (a := 1) (by decide +kernel : zin 1 16 ∧ zdc 1 16 = (2, 475, 0, 0)).1 (by decide +kernel : zin 1 16 ∧ zdc 1 16 = (2, 475, 0, 0)).2
theorem l_po_17 {x y : zSt} {E : zEx}   : zrd (zmem x y E) (1) 17 = .ref (E.2.2.2 5 0 0) := zmem_rdv (a := 1) (by decide +kernel : zin 1 17 ∧ zdc 1 17 = (4, 5, 0, 0)).1 (by decide +kernel : zin 1 17 ∧ zdc 1 17 = (4, 5, 0, 0)).2
theorem l_po_17p {x y : zSt} {E : zEx} {v : Nat}   : zput (zmem x y E) (1) 17 (.ref v) = zmem x y (eR E 5 0 0 v) := zmem_pv (a := 1) (by decide +kernel : zin 1 17 ∧ zdc 1 17 = (4, 5, 0, 0)).1 (by decide +kernel : zin 1 17 ∧ zdc 1 17 = (4, 5, 0, 0)).2
theorem l_bxa_ar {x y : zSt} {E : zEx}   : zarr (zmem x y E) (3) = True := zmem_arr (a := 3) (by decide +kernel : 1 ≤ 3 ∧ 3 ≤ 476 ∧ zdk 3 = (30, 4)).1 (by decide +kernel : 1 ≤ 3 ∧ 3 ≤ 476 ∧ zdk 3 = (30, 4)).2.1 (by decide +kernel : 1 ≤ 3 ∧ 3 ≤ 476 ∧ zdk 3 = (30, 4)).2.2 (by decide)
theorem l_bxa_ln {x y : zSt} {E : zEx}   : zlen' (zmem x y E) (3) = 4 := zmem_len (a := 3) (by decide +kernel : 1 ≤ 3 ∧ 3 ≤ 476 ∧ zdk 3 = (30, 4)).1 (by decide +kernel : 1 ≤ 3 ∧ 3 ≤ 476 ∧ zdk 3 = (30, 4)).2.1 (by decide +kernel : 1 ≤ 3 ∧ 3 ≤ 476 ∧ zdk 3 = (30, 4)).2.2
theorem l_bxa_ia {x y : zSt} {E : zEx}   {w : Nat} (hw : w < 4) : ziar (zmem x y E) (3) (nI w) = True := zmem_iar (a := 3) (by decide +kernel : 1 ≤ 3 ∧ 3 ≤ 476 ∧ zdk 3 = (30, 4)).1 (by decide +kernel : 1 ≤ 3 ∧ 3 ≤ 476 ∧ zdk 3 = (30, 4)).2.1 (by decide +kernel : 1 ≤ 3 ∧ 3 ≤ 476 ∧ zdk 3 = (30, 4)).2.2 (by decide) hw (by decide)
theorem f_bxa_e : ∀ p < 4, zin (3) (p) ∧ zdc (3) (p) = (2, 18 + 78 * p, 0, 0) := by decide +kernel
theorem l_bxa_e {x y : zSt} {E : zEx} {p : Nat} (hp : p < 4) : zrd (zmem x y E) (3) (p) = .ref (aBx p) := zmem_rdr (a := 3) (f_bxa_e p hp).1 (f_bxa_e p hp).2
theorem l_lea_ar {x y : zSt} {E : zEx}   : zarr (zmem x y E) (4) = True := zmem_arr (a := 4) (by decide +kernel : 1 ≤ 4 ∧ 4 ≤ 476 ∧ zdk 4 = (32, 60)).1 (by decide +kernel : 1 ≤ 4 ∧ 4 ≤ 476 ∧ zdk 4 = (32, 60)).2.1 (by decide +kernel : 1 ≤ 4 ∧ 4 ≤ 476 ∧ zdk 4 = (32, 60)).2.2 (by decide)
theorem l_lea_ln {x y : zSt} {E : zEx}   : zlen' (zmem x y E) (4) = 60 := zmem_len (a := 4) (by decide +kernel : 1 ≤ 4 ∧ 4 ≤ 476 ∧ zdk 4 = (32, 60)).1 (by decide +kernel : 1 ≤ 4 ∧ 4 ≤ 476 ∧ zdk 4 = (32, 60)).2.1 (by decide +kernel : 1 ≤ 4 ∧ 4 ≤ 476 ∧ zdk 4 = (32, 60)).2.2
theorem l_lea_ia {x y : zSt} {E : zEx}   {w : Nat} (hw : w < 60) : ziar (zmem x y E) (4) (nI w) = True := zmem_iar (a := 4) (by decide +kernel : 1 ≤ 4 ∧ 4 ≤ 476 ∧ zdk 4 = (32, 60)).1 (by decide +kernel : 1 ≤ 4 ∧ 4 ≤ 476 ∧ zdk 4 = (32, 60)).2.1 (by decide +kernel : 1 ≤ 4 ∧ 4 ≤ 476 ∧ zdk 4 = (32, 60)).2.2 (by decide) hw (by decide)
theorem f_lea_e : ∀ i < 60, zin (4) (i) ∧ zdc (4) (i) = (2, 330 + i, 0, 0) := by decide +kernel
theorem l_lea_e {x y : zSt} {E : zEx} {i : Nat} (hi : i < 60) : zrd (zmem x y E) (4) (i) = .ref (aLe i) := (zmem_rdr (a := 4) (f_lea_e i hi).1 (f_lea_e i hi).2).trans (congrArg Value.ref (by unfold aLe; rw [if_neg (by omega)]))
theorem l_qua_ar {x y : zSt} {E : zEx}   : zarr (zmem x y E) (5) = True := zmem_arr (a := 5) (by decide +kernel : 1 ≤ 5 ∧ 5 ≤ 476 ∧ zdk 5 = (34, 20)).1 (by decide +kernel : 1 ≤ 5 ∧ 5 ≤ 476 ∧ zdk 5 = (34, 20)).2.1 (by decide +kernel : 1 ≤ 5 ∧ 5 ≤ 476 ∧ zdk 5 = (34, 20)).2.2 (by decide)
theorem l_qua_ln {x y : zSt} {E : zEx}   : zlen' (zmem x y E) (5) = 20 := zmem_len (a := 5) (by decide +kernel : 1 ≤ 5 ∧ 5 ≤ 476 ∧ zdk 5 = (34, 20)).1 (by decide +kernel : 1 ≤ 5 ∧ 5 ≤ 476 ∧ zdk 5 = (34, 20)).2.1 (by decide +kernel : 1 ≤ 5 ∧ 5 ≤ 476 ∧ zdk 5 = (34, 20)).2.2
theorem l_qua_ia {x y : zSt} {E : zEx}   {w : Nat} (hw : w < 20) : ziar (zmem x y E) (5) (nI w) = True := zmem_iar (a := 5) (by decide +kernel : 1 ≤ 5 ∧ 5 ≤ 476 ∧ zdk 5 = (34, 20)).1 (by decide +kernel : 1 ≤ 5 ∧ 5 ≤ 476 ∧ zdk 5 = (34, 20)).2.1 (by decide +kernel : 1 ≤ 5 ∧ 5 ≤ 476 ∧ zdk 5 = (34, 20)).2.2 (by decide) hw (by decide)
theorem f_qua_e : ∀ i < 20, zin (5) (i) ∧ zdc (5) (i) = (2, 390 + i, 0, 0) := by decide +kernel
theorem l_qua_e {x y : zSt} {E : zEx} {i : Nat} (hi : i < 20) : zrd (zmem x y E) (5) (i) = .ref (aQu i) := zmem_rdr (a := 5) (f_qua_e i hi).1 (f_qua_e i hi).2
theorem l_bo_ar {x y : zSt} {E : zEx}   : zarr (zmem x y E) (6) = True := zmem_arr (a := 6) (by decide +kernel : 1 ≤ 6 ∧ 6 ≤ 476 ∧ zdk 6 = (20, 10)).1 (by decide +kernel : 1 ≤ 6 ∧ 6 ≤ 476 ∧ zdk 6 = (20, 10)).2.1 (by decide +kernel : 1 ≤ 6 ∧ 6 ≤ 476 ∧ zdk 6 = (20, 10)).2.2 (by decide)
theorem l_bo_ln {x y : zSt} {E : zEx}   : zlen' (zmem x y E) (6) = 10 := zmem_len (a := 6) (by decide +kernel : 1 ≤ 6 ∧ 6 ≤ 476 ∧ zdk 6 = (20, 10)).1 (by decide +kernel : 1 ≤ 6 ∧ 6 ≤ 476 ∧ zdk 6 = (20, 10)).2.1 (by decide +kernel : 1 ≤ 6 ∧ 6 ≤ 476 ∧ zdk 6 = (20, 10)).2.2
theorem l_bo_ia {x y : zSt} {E : zEx}   {w : Nat} (hw : w < 10) : zia (zmem x y E) 20 (6) (nI w) = True := zmem_ia (a := 6) (by decide +kernel : 1 ≤ 6 ∧ 6 ≤ 476 ∧ zdk 6 = (20, 10)).1 (by decide +kernel : 1 ≤ 6 ∧ 6 ≤ 476 ∧ zdk 6 = (20, 10)).2.1 (by decide +kernel : 1 ≤ 6 ∧ 6 ≤ 476 ∧ zdk 6 = (20, 10)).2.2 hw (by decide)
theorem l_bo_is {x y : zSt} {E : zEx}   {w : Nat} (hw : w < 10) : zias (zmem x y E) (6) (nI w) = True := zmem_ias (a := 6) (by decide +kernel : 1 ≤ 6 ∧ 6 ≤ 476 ∧ zdk 6 = (20, 10)).1 (by decide +kernel : 1 ≤ 6 ∧ 6 ≤ 476 ∧ zdk 6 = (20, 10)).2.1 (by decide +kernel : 1 ≤ 6 ∧ 6 ≤ 476 ∧ zdk 6 = (20, 10)).2.2 hw (by decide)
theorem f_bo_e : ∀ i < 10, zin (6) (i) ∧ zdc (6) (i) = (0, 1, 0, i) := by decide +kernel
theorem l_bo_e {x y : zSt} {E : zEx} {i : Nat} (hi : i < 10) : zrd (zmem x y E) (6) (i) = .int (x 1 0 i) := zmem_rdi (a := 6) (f_bo_e i hi).1 (f_bo_e i hi).2
theorem l_bo_ep {x y : zSt} {E : zEx} {v : Int32} {i : Nat} (hi : i < 10) : zput (zmem x y E) (6) (i) (.int v) = zmem (su x 1 (u2 (x 1) 0 i v)) y E := zmem_pt (a := 6) (f_bo_e i hi).1 (f_bo_e i hi).2
theorem l_go_ar {x y : zSt} {E : zEx}   : zarr (zmem x y E) (9) = True := zmem_arr (a := 9) (by decide +kernel : 1 ≤ 9 ∧ 9 ≤ 476 ∧ zdk 9 = (20, 6)).1 (by decide +kernel : 1 ≤ 9 ∧ 9 ≤ 476 ∧ zdk 9 = (20, 6)).2.1 (by decide +kernel : 1 ≤ 9 ∧ 9 ≤ 476 ∧ zdk 9 = (20, 6)).2.2 (by decide)
theorem l_go_ln {x y : zSt} {E : zEx}   : zlen' (zmem x y E) (9) = 6 := zmem_len (a := 9) (by decide +kernel : 1 ≤ 9 ∧ 9 ≤ 476 ∧ zdk 9 = (20, 6)).1 (by decide +kernel : 1 ≤ 9 ∧ 9 ≤ 476 ∧ zdk 9 = (20, 6)).2.1 (by decide +kernel : 1 ≤ 9 ∧ 9 ≤ 476 ∧ zdk 9 = (20, 6)).2.2
theorem l_go_ia {x y : zSt} {E : zEx}   {w : Nat} (hw : w < 6) : zia (zmem x y E) 20 (9) (nI w) = True := zmem_ia (a := 9) (by decide +kernel : 1 ≤ 9 ∧ 9 ≤ 476 ∧ zdk 9 = (20, 6)).1 (by decide +kernel : 1 ≤ 9 ∧ 9 ≤ 476 ∧ zdk 9 = (20, 6)).2.1 (by decide +kernel : 1 ≤ 9 ∧ 9 ≤ 476 ∧ zdk 9 = (20, 6)).2.2 hw (by decide)
theorem l_go_is {x y : zSt} {E : zEx}   {w : Nat} (hw : w < 6) : zias (zmem x y E) (9) (nI w) = True := zmem_ias (a := 9) (by decide +kernel : 1 ≤ 9 ∧ 9 ≤ 476 ∧ zdk 9 = (20, 6)).1 (by decide +kernel : 1 ≤ 9 ∧ 9 ≤ 476 ∧ zdk 9 = (20, 6)).2.1 (by decide +kernel : 1 ≤ 9 ∧ 9 ≤ 476 ∧ zdk 9 = (20, 6)).2.2 hw (by decide)
theorem f_go_e : ∀ i < 6, zin (9) (i) ∧ zdc (9) (i) = (0, 4, 0, i) := by decide +kernel
theorem l_go_e {x y : zSt} {E : zEx} {i : Nat} (hi : i < 6) : zrd (zmem x y E) (9) (i) = .int (x 4 0 i) := zmem_rdi (a := 9) (f_go_e i hi).1 (f_go_e i hi).2
theorem l_go_ep {x y : zSt} {E : zEx} {v : Int32} {i : Nat} (hi : i < 6) : zput (zmem x y E) (9) (i) (.int v) = zmem (su x 4 (u2 (x 4) 0 i v)) y E := zmem_pt (a := 9) (f_go_e i hi).1 (f_go_e i hi).2
theorem l_pe_ar {x y : zSt} {E : zEx}   : zarr (zmem x y E) (11) = True := zmem_arr (a := 11) (by decide +kernel : 1 ≤ 11 ∧ 11 ≤ 476 ∧ zdk 11 = (20, 4)).1 (by decide +kernel : 1 ≤ 11 ∧ 11 ≤ 476 ∧ zdk 11 = (20, 4)).2.1 (by decide +kernel : 1 ≤ 11 ∧ 11 ≤ 476 ∧ zdk 11 = (20, 4)).2.2 (by decide)
theorem l_pe_ln {x y : zSt} {E : zEx}   : zlen' (zmem x y E) (11) = 4 := zmem_len (a := 11) (by decide +kernel : 1 ≤ 11 ∧ 11 ≤ 476 ∧ zdk 11 = (20, 4)).1 (by decide +kernel : 1 ≤ 11 ∧ 11 ≤ 476 ∧ zdk 11 = (20, 4)).2.1 (by decide +kernel : 1 ≤ 11 ∧ 11 ≤ 476 ∧ zdk 11 = (20, 4)).2.2
theorem l_pe_ia {x y : zSt} {E : zEx}   {w : Nat} (hw : w < 4) : zia (zmem x y E) 20 (11) (nI w) = True := zmem_ia (a := 11) (by decide +kernel : 1 ≤ 11 ∧ 11 ≤ 476 ∧ zdk 11 = (20, 4)).1 (by decide +kernel : 1 ≤ 11 ∧ 11 ≤ 476 ∧ zdk 11 = (20, 4)).2.1 (by decide +kernel : 1 ≤ 11 ∧ 11 ≤ 476 ∧ zdk 11 = (20, 4)).2.2 hw (by decide)
theorem l_pe_is {x y : zSt} {E : zEx}   {w : Nat} (hw : w < 4) : zias (zmem x y E) (11) (nI w) = True := zmem_ias (a := 11) (by decide +kernel : 1 ≤ 11 ∧ 11 ≤ 476 ∧ zdk 11 = (20, 4)).1 (by decide +kernel : 1 ≤ 11 ∧ 11 ≤ 476 ∧ zdk 11 = (20, 4)).2.1 (by decide +kernel : 1 ≤ 11 ∧ 11 ≤ 476 ∧ zdk 11 = (20, 4)).2.2 hw (by decide)
theorem f_pe_e : ∀ i < 4, zin (11) (i) ∧ zdc (11) (i) = (0, 6, 0, i) := by decide +kernel
theorem l_pe_e {x y : zSt} {E : zEx} {i : Nat} (hi : i < 4) : zrd (zmem x y E) (11) (i) = .int (x 6 0 i) := zmem_rdi (a := 11) (f_pe_e i hi).1 (f_pe_e i hi).2
theorem l_pe_ep {x y : zSt} {E : zEx} {v : Int32} {i : Nat} (hi : i < 4) : zput (zmem x y E) (11) (i) (.int v) = zmem (su x 6 (u2 (x 6) 0 i v)) y E := zmem_pt (a := 11) (f_pe_e i hi).1 (f_pe_e i hi).2
theorem l_rt_ar {x y : zSt} {E : zEx}   : zarr (zmem x y E) (13) = True := zmem_arr (a := 13) (by decide +kernel : 1 ≤ 13 ∧ 13 ≤ 476 ∧ zdk 13 = (20, 60)).1 (by decide +kernel : 1 ≤ 13 ∧ 13 ≤ 476 ∧ zdk 13 = (20, 60)).2.1 (by decide +kernel : 1 ≤ 13 ∧ 13 ≤ 476 ∧ zdk 13 = (20, 60)).2.2 (by decide)
theorem l_rt_ln {x y : zSt} {E : zEx}   : zlen' (zmem x y E) (13) = 60 := zmem_len (a := 13) (by decide +kernel : 1 ≤ 13 ∧ 13 ≤ 476 ∧ zdk 13 = (20, 60)).1 (by decide +kernel : 1 ≤ 13 ∧ 13 ≤ 476 ∧ zdk 13 = (20, 60)).2.1 (by decide +kernel : 1 ≤ 13 ∧ 13 ≤ 476 ∧ zdk 13 = (20, 60)).2.2
theorem l_rt_ia {x y : zSt} {E : zEx}   {w : Nat} (hw : w < 60) : zia (zmem x y E) 20 (13) (nI w) = True := zmem_ia (a := 13) (by decide +kernel : 1 ≤ 13 ∧ 13 ≤ 476 ∧ zdk 13 = (20, 60)).1 (by decide +kernel : 1 ≤ 13 ∧ 13 ≤ 476 ∧ zdk 13 = (20, 60)).2.1 (by decide +kernel : 1 ≤ 13 ∧ 13 ≤ 476 ∧ zdk 13 = (20, 60)).2.2 hw (by decide)
theorem l_rt_is {x y : zSt} {E : zEx}   {w : Nat} (hw : w < 60) : zias (zmem x y E) (13) (nI w) = True := zmem_ias (a := 13) (by decide +kernel : 1 ≤ 13 ∧ 13 ≤ 476 ∧ zdk 13 = (20, 60)).1 (by decide +kernel : 1 ≤ 13 ∧ 13 ≤ 476 ∧ zdk 13 = (20, 60)).2.1 (by decide +kernel : 1 ≤ 13 ∧ 13 ≤ 476 ∧ zdk 13 = (20, 60)).2.2 hw (by decide)
theorem f_rt_e : ∀ i < 60, zin (13) (i) ∧ zdc (13) (i) = (0, 8, 0, i) := by decide +kernel
theorem l_rt_e {x y : zSt} {E : zEx} {i : Nat} (hi : i < 60) : zrd (zmem x y E) (13) (i) = .int (x 8 0 i) := zmem_rdi (a := 13) (f_rt_e i hi).1 (f_rt_e i hi).2
theorem l_rt_ep {x y : zSt} {E : zEx} {v : Int32} {i : Nat} (hi : i < 60) : zput (zmem x y E) (13) (i) (.int v) = zmem (su x 8 (u2 (x 8) 0 i v)) y E := zmem_pt (a := 13) (f_rt_e i hi).1 (f_rt_e i hi).2
theorem l_cc_ar {x y : zSt} {E : zEx}   : zarr (zmem x y E) (14) = True := zmem_arr (a := 14) (by decide +kernel : 1 ≤ 14 ∧ 14 ≤ 476 ∧ zdk 14 = (20, 60)).1 (by decide +kernel : 1 ≤ 14 ∧ 14 ≤ 476 ∧ zdk 14 = (20, 60)).2.1 (by decide +kernel : 1 ≤ 14 ∧ 14 ≤ 476 ∧ zdk 14 = (20, 60)).2.2 (by decide)
theorem l_cc_ln {x y : zSt} {E : zEx}   : zlen' (zmem x y E) (14) = 60 := zmem_len (a := 14) (by decide +kernel : 1 ≤ 14 ∧ 14 ≤ 476 ∧ zdk 14 = (20, 60)).1 (by decide +kernel : 1 ≤ 14 ∧ 14 ≤ 476 ∧ zdk 14 = (20, 60)).2.1 (by decide +kernel : 1 ≤ 14 ∧ 14 ≤ 476 ∧ zdk 14 = (20, 60)).2.2
theorem l_cc_ia {x y : zSt} {E : zEx}   {w : Nat} (hw : w < 60) : zia (zmem x y E) 20 (14) (nI w) = True := zmem_ia (a := 14) (by decide +kernel : 1 ≤ 14 ∧ 14 ≤ 476 ∧ zdk 14 = (20, 60)).1 (by decide +kernel : 1 ≤ 14 ∧ 14 ≤ 476 ∧ zdk 14 = (20, 60)).2.1 (by decide +kernel : 1 ≤ 14 ∧ 14 ≤ 476 ∧ zdk 14 = (20, 60)).2.2 hw (by decide)
theorem l_cc_is {x y : zSt} {E : zEx}   {w : Nat} (hw : w < 60) : zias (zmem x y E) (14) (nI w) = True := zmem_ias (a := 14) (by decide +kernel : 1 ≤ 14 ∧ 14 ≤ 476 ∧ zdk 14 = (20, 60)).1 (by decide +kernel : 1 ≤ 14 ∧ 14 ≤ 476 ∧ zdk 14 = (20, 60)).2.1 (by decide +kernel : 1 ≤ 14 ∧ 14 ≤ 476 ∧ zdk 14 = (20, 60)).2.2 hw (by decide)
theorem f_cc_e : ∀ i < 60, zin (14) (i) ∧ zdc (14) (i) = (0, 9, 0, i) := by decide +kernel
theorem l_cc_e {x y : zSt} {E : zEx} {i : Nat} (hi : i < 60) : zrd (zmem x y E) (14) (i) = .int (x 9 0 i) := zmem_rdi (a := 14) (f_cc_e i hi).1 (f_cc_e i hi).2
theorem l_cc_ep {x y : zSt} {E : zEx} {v : Int32} {i : Nat} (hi : i < 60) : zput (zmem x y E) (14) (i) (.int v) = zmem (su x 9 (u2 (x 9) 0 i v)) y E := zmem_pt (a := 14) (f_cc_e i hi).1 (f_cc_e i hi).2
theorem l_ns_ar {x y : zSt} {E : zEx}   : zarr (zmem x y E) (15) = True := zmem_arr (a := 15) (by decide +kernel : 1 ≤ 15 ∧ 15 ≤ 476 ∧ zdk 15 = (20, 60)).1 (by decide +kernel : 1 ≤ 15 ∧ 15 ≤ 476 ∧ zdk 15 = (20, 60)).2.1 (by decide +kernel : 1 ≤ 15 ∧ 15 ≤ 476 ∧ zdk 15 = (20, 60)).2.2 (by decide)
theorem l_ns_ln {x y : zSt} {E : zEx}   : zlen' (zmem x y E) (15) = 60 := zmem_len (a := 15) (by decide +kernel : 1 ≤ 15 ∧ 15 ≤ 476 ∧ zdk 15 = (20, 60)).1 (by decide +kernel : 1 ≤ 15 ∧ 15 ≤ 476 ∧ zdk 15 = (20, 60)).2.1 (by decide +kernel : 1 ≤ 15 ∧ 15 ≤ 476 ∧ zdk 15 = (20, 60)).2.2
theorem l_ns_ia {x y : zSt} {E : zEx}   {w : Nat} (hw : w < 60) : zia (zmem x y E) 20 (15) (nI w) = True := zmem_ia (a := 15) (by decide +kernel : 1 ≤ 15 ∧ 15 ≤ 476 ∧ zdk 15 = (20, 60)).1 (by decide +kernel : 1 ≤ 15 ∧ 15 ≤ 476 ∧ zdk 15 = (20, 60)).2.1 (by decide +kernel : 1 ≤ 15 ∧ 15 ≤ 476 ∧ zdk 15 = (20, 60)).2.2 hw (by decide)
theorem l_ns_is {x y : zSt} {E : zEx}   {w : Nat} (hw : w < 60) : zias (zmem x y E) (15) (nI w) = True := zmem_ias (a := 15) (by decide +kernel : 1 ≤ 15 ∧ 15 ≤ 476 ∧ zdk 15 = (20, 60)).1 (by decide +kernel : 1 ≤ 15 ∧ 15 ≤ 476 ∧ zdk 15 = (20, 60)).2.1 (by decide +kernel : 1 ≤ 15 ∧ 15 ≤ 476 ∧ zdk 15 = (20, 60)).2.2 hw (by decide)
theorem f_ns_e : ∀ i < 60, zin (15) (i) ∧ zdc (15) (i) = (0, 10, 0, i) := by decide +kernel
theorem l_ns_e {x y : zSt} {E : zEx} {i : Nat} (hi : i < 60) : zrd (zmem x y E) (15) (i) = .int (x 10 0 i) := zmem_rdi (a := 15) (f_ns_e i hi).1 (f_ns_e i hi).2
theorem l_ns_ep {x y : zSt} {E : zEx} {v : Int32} {i : Nat} (hi : i < 60) : zput (zmem x y E) (15) (i) (.int v) = zmem (su x 10 (u2 (x 10) 0 i v)) y E := zmem_pt (a := 15) (f_ns_e i hi).1 (f_ns_e i hi).2
theorem l_rc_ar {x y : zSt} {E : zEx}   : zarr (zmem x y E) (16) = True := zmem_arr (a := 16) (by decide +kernel : 1 ≤ 16 ∧ 16 ≤ 476 ∧ zdk 16 = (20, 60)).1 (by decide +kernel : 1 ≤ 16 ∧ 16 ≤ 476 ∧ zdk 16 = (20, 60)).2.1 (by decide +kernel : 1 ≤ 16 ∧ 16 ≤ 476 ∧ zdk 16 = (20, 60)).2.2 (by decide)
theorem l_rc_ln {x y : zSt} {E : zEx}   : zlen' (zmem x y E) (16) = 60 := zmem_len (a := 16) (by decide +kernel : 1 ≤ 16 ∧ 16 ≤ 476 ∧ zdk 16 = (20, 60)).1 (by decide +kernel : 1 ≤ 16 ∧ 16 ≤ 476 ∧ zdk 16 = (20, 60)).2.1 (by decide +kernel : 1 ≤ 16 ∧ 16 ≤ 476 ∧ zdk 16 = (20, 60)).2.2
theorem l_rc_ia {x y : zSt} {E : zEx}   {w : Nat} (hw : w < 60) : zia (zmem x y E) 20 (16) (nI w) = True := zmem_ia (a := 16) (by decide +kernel : 1 ≤ 16 ∧ 16 ≤ 476 ∧ zdk 16 = (20, 60)).1 (by decide +kernel : 1 ≤ 16 ∧ 16 ≤ 476 ∧ zdk 16 = (20, 60)).2.1 (by decide +kernel : 1 ≤ 16 ∧ 16 ≤ 476 ∧ zdk 16 = (20, 60)).2.2 hw (by decide)
theorem l_rc_is {x y : zSt} {E : zEx}   {w : Nat} (hw : w < 60) : zias (zmem x y E) (16) (nI w) = True := zmem_ias (a := 16) (by decide +kernel : 1 ≤ 16 ∧ 16 ≤ 476 ∧ zdk 16 = (20, 60)).1 (by decide +kernel : 1 ≤ 16 ∧ 16 ≤ 476 ∧ zdk 16 = (20, 60)).2.1 (by decide +kernel : 1 ≤ 16 ∧ 16 ≤ 476 ∧ zdk 16 = (20, 60)).2.2 hw (by decide)
theorem f_rc_e : ∀ i < 60, zin (16) (i) ∧ zdc (16) (i) = (0, 11, 0, i) := by decide +kernel
theorem l_rc_e {x y : zSt} {E : zEx} {i : Nat} (hi : i < 60) : zrd (zmem x y E) (16) (i) = .int (x 11 0 i) := zmem_rdi (a := 16) (f_rc_e i hi).1 (f_rc_e i hi).2
theorem l_rc_ep {x y : zSt} {E : zEx} {v : Int32} {i : Nat} (hi : i < 60) : zput (zmem x y E) (16) (i) (.int v) = zmem (su x 11 (u2 (x 11) 0 i v)) y E := zmem_pt (a := 16) (f_rc_e i hi).1 (f_rc_e i hi).2
theorem l_fc_ar {x y : zSt} {E : zEx}   : zarr (zmem x y E) (17) = True := zmem_arr (a := 17) (by decide +kernel : 1 ≤ 17 ∧ 17 ≤ 476 ∧ zdk 17 = (20, 20)).1 (by decide +kernel : 1 ≤ 17 ∧ 17 ≤ 476 ∧ zdk 17 = (20, 20)).2.1 (by decide +kernel : 1 ≤ 17 ∧ 17 ≤ 476 ∧ zdk 17 = (20, 20)).2.2 (by decide)
theorem l_fc_ln {x y : zSt} {E : zEx}   : zlen' (zmem x y E) (17) = 20 := zmem_len (a := 17) (by decide +kernel : 1 ≤ 17 ∧ 17 ≤ 476 ∧ zdk 17 = (20, 20)).1 (by decide +kernel : 1 ≤ 17 ∧ 17 ≤ 476 ∧ zdk 17 = (20, 20)).2.1 (by decide +kernel : 1 ≤ 17 ∧ 17 ≤ 476 ∧ zdk 17 = (20, 20)).2.2
theorem l_fc_ia {x y : zSt} {E : zEx}   {w : Nat} (hw : w < 20) : zia (zmem x y E) 20 (17) (nI w) = True := zmem_ia (a := 17) (by decide +kernel : 1 ≤ 17 ∧ 17 ≤ 476 ∧ zdk 17 = (20, 20)).1 (by decide +kernel : 1 ≤ 17 ∧ 17 ≤ 476 ∧ zdk 17 = (20, 20)).2.1 (by decide +kernel : 1 ≤ 17 ∧ 17 ≤ 476 ∧ zdk 17 = (20, 20)).2.2 hw (by decide)
theorem l_fc_is {x y : zSt} {E : zEx}   {w : Nat} (hw : w < 20) : zias (zmem x y E) (17) (nI w) = True := zmem_ias (a := 17) (by decide +kernel : 1 ≤ 17 ∧ 17 ≤ 476 ∧ zdk 17 = (20, 20)).1 (by decide +kernel : 1 ≤ 17 ∧ 17 ≤ 476 ∧ zdk 17 = (20, 20)).2.1 (by decide +kernel : 1 ≤ 17 ∧ 17 ≤ 476 ∧ zdk 17 = (20, 20)).2.2 hw (by decide)
theorem f_fc_e : ∀ i < 20, zin (17) (i) ∧ zdc (17) (i) = (0, 12, 0, i) := by decide +kernel
theorem l_fc_e {x y : zSt} {E : zEx} {i : Nat} (hi : i < 20) : zrd (zmem x y E) (17) (i) = .int (x 12 0 i) := zmem_rdi (a := 17) (f_fc_e i hi).1 (f_fc_e i hi).2
theorem l_fc_ep {x y : zSt} {E : zEx} {v : Int32} {i : Nat} (hi : i < 20) : zput (zmem x y E) (17) (i) (.int v) = zmem (su x 12 (u2 (x 12) 0 i v)) y E := zmem_pt (a := 17) (f_fc_e i hi).1 (f_fc_e i hi).2
theorem f_sha : ∀ p < 4, 1 ≤ 19 + 78 * p ∧ 19 + 78 * p ≤ 476 ∧ zdk (19 + 78 * p) = (37, 8) := by decide +kernel
theorem l_sha_ar {x y : zSt} {E : zEx} {p : Nat} (hp : p < 4) : zarr (zmem x y E) (aSA p) = True := zmem_arr (a := 19 + 78 * p) (f_sha p hp).1 (f_sha p hp).2.1 (f_sha p hp).2.2 (by decide)
theorem l_sha_ln {x y : zSt} {E : zEx} {p : Nat} (hp : p < 4) : zlen' (zmem x y E) (aSA p) = 8 := zmem_len (a := 19 + 78 * p) (f_sha p hp).1 (f_sha p hp).2.1 (f_sha p hp).2.2
theorem l_sha_ia {x y : zSt} {E : zEx} {p : Nat} (hp : p < 4) {w : Nat} (hw : w < 8) : ziar (zmem x y E) (aSA p) (nI w) = True := zmem_iar (a := 19 + 78 * p) (f_sha p hp).1 (f_sha p hp).2.1 (f_sha p hp).2.2 (by decide) hw (by decide)
theorem f_sha_e : ∀ p < 4, ∀ k < 8, zin (19 + 78 * p) (k) ∧ zdc (19 + 78 * p) (k) = (2, 22 + 78 * p + k, 0, 0) := by decide +kernel
theorem l_sha_e {x y : zSt} {E : zEx} {p : Nat} {k : Nat} (hp : p < 4) (hk : k < 8) : zrd (zmem x y E) (aSA p) (k) = .ref (aSh p k) := zmem_rdr (a := 19 + 78 * p) (f_sha_e p hp k hk).1 (f_sha_e p hp k hk).2
theorem f_rua : ∀ p < 4, 1 ≤ 20 + 78 * p ∧ 20 + 78 * p ≤ 476 ∧ zdk (20 + 78 * p) = (36, 6) := by decide +kernel
theorem l_rua_ar {x y : zSt} {E : zEx} {p : Nat} (hp : p < 4) : zarr (zmem x y E) (aRA p) = True := zmem_arr (a := 20 + 78 * p) (f_rua p hp).1 (f_rua p hp).2.1 (f_rua p hp).2.2 (by decide)
theorem l_rua_ln {x y : zSt} {E : zEx} {p : Nat} (hp : p < 4) : zlen' (zmem x y E) (aRA p) = 6 := zmem_len (a := 20 + 78 * p) (f_rua p hp).1 (f_rua p hp).2.1 (f_rua p hp).2.2
theorem l_rua_ia {x y : zSt} {E : zEx} {p : Nat} (hp : p < 4) {w : Nat} (hw : w < 6) : ziar (zmem x y E) (aRA p) (nI w) = True := zmem_iar (a := 20 + 78 * p) (f_rua p hp).1 (f_rua p hp).2.1 (f_rua p hp).2.2 (by decide) hw (by decide)
theorem f_rua_e : ∀ p < 4, ∀ r < 6, zin (20 + 78 * p) (r) ∧ zdc (20 + 78 * p) (r) = (3, 17, p, r) := by decide +kernel
theorem l_rua_e {x y : zSt} {E : zEx} {p : Nat} {r : Nat} (hp : p < 4) (hr : r < 6) : zrd (zmem x y E) (aRA p) (r) = .ref (aRu p (x 17 p r).toNatClampNeg) := zmem_rd3 (a := 20 + 78 * p) (f_rua_e p hp r hr).1 (f_rua_e p hp r hr).2
theorem l_rua_ep {x y : zSt} {E : zEx} {v : Nat} {p : Nat} {r : Nat} (hp : p < 4) (hr : r < 6) (hv : v < 6) : zput (zmem x y E) (aRA p) (r) (.ref (aRu p v)) = zmem (su x 17 (u2 (x 17) p r (nI v))) y E := zmem_p3 (a := 20 + 78 * p) (f_rua_e p hp r hr).1 (f_rua_e p hp r hr).2 (by omega)
theorem l_rua_e2 {x y : zSt} {E : zEx} {v : Nat} {p : Nat} {r : Nat} (hp : p < 4) (hr : r < 6) (hv : v < 6) : zias2 (zmem x y E) (aRu p v) (aRA p) (nI (r)) = True := zmem_ias2 (a := 20 + 78 * p) (v := 30 + 78 * p + v) (c := 6) (f_rua p hp).1 (f_rua p hp).2.1 (f_rua p hp).2.2 (by decide) hr (by decide) (f_ru p hp v hv).1 (f_ru p hp v hv).2.1 (f_ru p hp v hv).2.2
theorem f_coa : ∀ p < 4, 1 ≤ 21 + 78 * p ∧ 21 + 78 * p ≤ 476 ∧ zdk (21 + 78 * p) = (31, 60) := by decide +kernel
theorem l_coa_ar {x y : zSt} {E : zEx} {p : Nat} (hp : p < 4) : zarr (zmem x y E) (aCA p) = True := zmem_arr (a := 21 + 78 * p) (f_coa p hp).1 (f_coa p hp).2.1 (f_coa p hp).2.2 (by decide)
theorem l_coa_ln {x y : zSt} {E : zEx} {p : Nat} (hp : p < 4) : zlen' (zmem x y E) (aCA p) = 60 := zmem_len (a := 21 + 78 * p) (f_coa p hp).1 (f_coa p hp).2.1 (f_coa p hp).2.2
theorem l_coa_ia {x y : zSt} {E : zEx} {p : Nat} (hp : p < 4) {w : Nat} (hw : w < 60) : ziar (zmem x y E) (aCA p) (nI w) = True := zmem_iar (a := 21 + 78 * p) (f_coa p hp).1 (f_coa p hp).2.1 (f_coa p hp).2.2 (by decide) hw (by decide)
theorem f_coa_e : ∀ p < 4, ∀ i < 60, zin (21 + 78 * p) (i) ∧ zdc (21 + 78 * p) (i) = (2, 36 + 78 * p + i, 0, 0) := by decide +kernel
theorem l_coa_e {x y : zSt} {E : zEx} {p : Nat} {i : Nat} (hp : p < 4) (hi : i < 60) : zrd (zmem x y E) (aCA p) (i) = .ref (aCo p i) := zmem_rdr (a := 21 + 78 * p) (f_coa_e p hp i hi).1 (f_coa_e p hp i hi).2
theorem l_pa_ar {x y : zSt} {E : zEx}   : zarr (zmem x y E) (410) = True := zmem_arr (a := 410) (by decide +kernel : 1 ≤ 410 ∧ 410 ≤ 476 ∧ zdk 410 = (40, 4)).1 (by decide +kernel : 1 ≤ 410 ∧ 410 ≤ 476 ∧ zdk 410 = (40, 4)).2.1 (by decide +kernel : 1 ≤ 410 ∧ 410 ≤ 476 ∧ zdk 410 = (40, 4)).2.2 (by decide)
theorem l_pa_ln {x y : zSt} {E : zEx}   : zlen' (zmem x y E) (410) = 4 := zmem_len (a := 410) (by decide +kernel : 1 ≤ 410 ∧ 410 ≤ 476 ∧ zdk 410 = (40, 4)).1 (by decide +kernel : 1 ≤ 410 ∧ 410 ≤ 476 ∧ zdk 410 = (40, 4)).2.1 (by decide +kernel : 1 ≤ 410 ∧ 410 ≤ 476 ∧ zdk 410 = (40, 4)).2.2
theorem l_pa_ia {x y : zSt} {E : zEx}   {w : Nat} (hw : w < 4) : ziar (zmem x y E) (410) (nI w) = True := zmem_iar (a := 410) (by decide +kernel : 1 ≤ 410 ∧ 410 ≤ 476 ∧ zdk 410 = (40, 4)).1 (by decide +kernel : 1 ≤ 410 ∧ 410 ≤ 476 ∧ zdk 410 = (40, 4)).2.1 (by decide +kernel : 1 ≤ 410 ∧ 410 ≤ 476 ∧ zdk 410 = (40, 4)).2.2 (by decide) hw (by decide)
theorem f_pa_e : ∀ p < 4, zin (410) (p) ∧ zdc (410) (p) = (4, 1, p, 0) := by decide +kernel
theorem l_pa_e {x y : zSt} {E : zEx} {p : Nat} (hp : p < 4) : zrd (zmem x y E) (410) (p) = .ref (E.2.2.2 1 p 0) := zmem_rdv (a := 410) (f_pa_e p hp).1 (f_pa_e p hp).2
theorem l_pa_ep {x y : zSt} {E : zEx} {v : Nat} {p : Nat} (hp : p < 4) : zput (zmem x y E) (410) (p) (.ref v) = zmem x y (eR E 1 p 0 v) := zmem_pv (a := 410) (f_pa_e p hp).1 (f_pa_e p hp).2
theorem l_pa_e3 {x y : zSt} {E : zEx} {v : Nat} {p : Nat} (hp : p < 4) (hv : eY E v) (hq : (eK E v).1 = 20) : zias2 (zmem x y E) v (410) (nI (p)) = True := zmem_ias3 (a := 410) (t := 20) (by decide +kernel : 1 ≤ 410 ∧ 410 ≤ 476 ∧ zdk 410 = (40, 4)).1 (by decide +kernel : 1 ≤ 410 ∧ 410 ≤ 476 ∧ zdk 410 = (40, 4)).2.1 (by decide +kernel : 1 ≤ 410 ∧ 410 ≤ 476 ∧ zdk 410 = (40, 4)).2.2 (by decide) hp (by decide) hv hq
theorem l_aga_ar {x y : zSt} {E : zEx}   : zarr (zmem x y E) (415) = True := zmem_arr (a := 415) (by decide +kernel : 1 ≤ 415 ∧ 415 ≤ 476 ∧ zdk 415 = (40, 4)).1 (by decide +kernel : 1 ≤ 415 ∧ 415 ≤ 476 ∧ zdk 415 = (40, 4)).2.1 (by decide +kernel : 1 ≤ 415 ∧ 415 ≤ 476 ∧ zdk 415 = (40, 4)).2.2 (by decide)
theorem l_aga_ln {x y : zSt} {E : zEx}   : zlen' (zmem x y E) (415) = 4 := zmem_len (a := 415) (by decide +kernel : 1 ≤ 415 ∧ 415 ≤ 476 ∧ zdk 415 = (40, 4)).1 (by decide +kernel : 1 ≤ 415 ∧ 415 ≤ 476 ∧ zdk 415 = (40, 4)).2.1 (by decide +kernel : 1 ≤ 415 ∧ 415 ≤ 476 ∧ zdk 415 = (40, 4)).2.2
theorem l_aga_ia {x y : zSt} {E : zEx}   {w : Nat} (hw : w < 4) : ziar (zmem x y E) (415) (nI w) = True := zmem_iar (a := 415) (by decide +kernel : 1 ≤ 415 ∧ 415 ≤ 476 ∧ zdk 415 = (40, 4)).1 (by decide +kernel : 1 ≤ 415 ∧ 415 ≤ 476 ∧ zdk 415 = (40, 4)).2.1 (by decide +kernel : 1 ≤ 415 ∧ 415 ≤ 476 ∧ zdk 415 = (40, 4)).2.2 (by decide) hw (by decide)
theorem f_aga_e : ∀ p < 4, zin (415) (p) ∧ zdc (415) (p) = (2, 416 + p, 0, 0) := by decide +kernel
theorem l_aga_e {x y : zSt} {E : zEx} {p : Nat} (hp : p < 4) : zrd (zmem x y E) (415) (p) = .ref (416 + p) := zmem_rdr (a := 415) (f_aga_e p hp).1 (f_aga_e p hp).2
theorem f_ag : ∀ p < 4, 1 ≤ 416 + p ∧ 416 + p ≤ 476 ∧ zdk (416 + p) = (20, 8) := by decide +kernel
theorem l_ag_ar {x y : zSt} {E : zEx} {p : Nat} (hp : p < 4) : zarr (zmem x y E) (416 + p) = True := zmem_arr (a := 416 + p) (f_ag p hp).1 (f_ag p hp).2.1 (f_ag p hp).2.2 (by decide)
theorem l_ag_ln {x y : zSt} {E : zEx} {p : Nat} (hp : p < 4) : zlen' (zmem x y E) (416 + p) = 8 := zmem_len (a := 416 + p) (f_ag p hp).1 (f_ag p hp).2.1 (f_ag p hp).2.2
theorem l_ag_ia {x y : zSt} {E : zEx} {p : Nat} (hp : p < 4) {w : Nat} (hw : w < 8) : zia (zmem x y E) 20 (416 + p) (nI w) = True := zmem_ia (a := 416 + p) (f_ag p hp).1 (f_ag p hp).2.1 (f_ag p hp).2.2 hw (by decide)
theorem l_ag_is {x y : zSt} {E : zEx} {p : Nat} (hp : p < 4) {w : Nat} (hw : w < 8) : zias (zmem x y E) (416 + p) (nI w) = True := zmem_ias (a := 416 + p) (f_ag p hp).1 (f_ag p hp).2.1 (f_ag p hp).2.2 hw (by decide)
theorem f_ag_e : ∀ p < 4, ∀ k < 8, zin (416 + p) (k) ∧ zdc (416 + p) (k) = (1, 15, p, k) := by decide +kernel
theorem l_ag_e {x y : zSt} {E : zEx} {p : Nat} {k : Nat} (hp : p < 4) (hk : k < 8) : zrd (zmem x y E) (416 + p) (k) = .int (y 15 p k) := zmem_rdy (a := 416 + p) (f_ag_e p hp k hk).1 (f_ag_e p hp k hk).2
theorem l_ag_ep {x y : zSt} {E : zEx} {v : Int32} {p : Nat} {k : Nat} (hp : p < 4) (hk : k < 8) : zput (zmem x y E) (416 + p) (k) (.int v) = zmem x (su y 15 (u2 (y 15) p k v)) E := zmem_py (a := 416 + p) (f_ag_e p hp k hk).1 (f_ag_e p hp k hk).2
theorem l_nxa_ar {x y : zSt} {E : zEx}   : zarr (zmem x y E) (420) = True := zmem_arr (a := 420) (by decide +kernel : 1 ≤ 420 ∧ 420 ≤ 476 ∧ zdk 420 = (40, 4)).1 (by decide +kernel : 1 ≤ 420 ∧ 420 ≤ 476 ∧ zdk 420 = (40, 4)).2.1 (by decide +kernel : 1 ≤ 420 ∧ 420 ≤ 476 ∧ zdk 420 = (40, 4)).2.2 (by decide)
theorem l_nxa_ln {x y : zSt} {E : zEx}   : zlen' (zmem x y E) (420) = 4 := zmem_len (a := 420) (by decide +kernel : 1 ≤ 420 ∧ 420 ≤ 476 ∧ zdk 420 = (40, 4)).1 (by decide +kernel : 1 ≤ 420 ∧ 420 ≤ 476 ∧ zdk 420 = (40, 4)).2.1 (by decide +kernel : 1 ≤ 420 ∧ 420 ≤ 476 ∧ zdk 420 = (40, 4)).2.2
theorem l_nxa_ia {x y : zSt} {E : zEx}   {w : Nat} (hw : w < 4) : ziar (zmem x y E) (420) (nI w) = True := zmem_iar (a := 420) (by decide +kernel : 1 ≤ 420 ∧ 420 ≤ 476 ∧ zdk 420 = (40, 4)).1 (by decide +kernel : 1 ≤ 420 ∧ 420 ≤ 476 ∧ zdk 420 = (40, 4)).2.1 (by decide +kernel : 1 ≤ 420 ∧ 420 ≤ 476 ∧ zdk 420 = (40, 4)).2.2 (by decide) hw (by decide)
theorem f_nxa_e : ∀ p < 4, zin (420) (p) ∧ zdc (420) (p) = (2, 421 + p, 0, 0) := by decide +kernel
theorem l_nxa_e {x y : zSt} {E : zEx} {p : Nat} (hp : p < 4) : zrd (zmem x y E) (420) (p) = .ref (421 + p) := zmem_rdr (a := 420) (f_nxa_e p hp).1 (f_nxa_e p hp).2
theorem f_nx : ∀ p < 4, 1 ≤ 421 + p ∧ 421 + p ≤ 476 ∧ zdk (421 + p) = (20, 8) := by decide +kernel
theorem l_nx_ar {x y : zSt} {E : zEx} {p : Nat} (hp : p < 4) : zarr (zmem x y E) (421 + p) = True := zmem_arr (a := 421 + p) (f_nx p hp).1 (f_nx p hp).2.1 (f_nx p hp).2.2 (by decide)
theorem l_nx_ln {x y : zSt} {E : zEx} {p : Nat} (hp : p < 4) : zlen' (zmem x y E) (421 + p) = 8 := zmem_len (a := 421 + p) (f_nx p hp).1 (f_nx p hp).2.1 (f_nx p hp).2.2
theorem l_nx_ia {x y : zSt} {E : zEx} {p : Nat} (hp : p < 4) {w : Nat} (hw : w < 8) : zia (zmem x y E) 20 (421 + p) (nI w) = True := zmem_ia (a := 421 + p) (f_nx p hp).1 (f_nx p hp).2.1 (f_nx p hp).2.2 hw (by decide)
theorem l_nx_is {x y : zSt} {E : zEx} {p : Nat} (hp : p < 4) {w : Nat} (hw : w < 8) : zias (zmem x y E) (421 + p) (nI w) = True := zmem_ias (a := 421 + p) (f_nx p hp).1 (f_nx p hp).2.1 (f_nx p hp).2.2 hw (by decide)
theorem f_nx_e : ∀ p < 4, ∀ k < 8, zin (421 + p) (k) ∧ zdc (421 + p) (k) = (1, 16, p, k) := by decide +kernel
theorem l_nx_e {x y : zSt} {E : zEx} {p : Nat} {k : Nat} (hp : p < 4) (hk : k < 8) : zrd (zmem x y E) (421 + p) (k) = .int (y 16 p k) := zmem_rdy (a := 421 + p) (f_nx_e p hp k hk).1 (f_nx_e p hp k hk).2
theorem l_nx_ep {x y : zSt} {E : zEx} {v : Int32} {p : Nat} {k : Nat} (hp : p < 4) (hk : k < 8) : zput (zmem x y E) (421 + p) (k) (.int v) = zmem x (su y 16 (u2 (y 16) p k v)) E := zmem_py (a := 421 + p) (f_nx_e p hp k hk).1 (f_nx_e p hp k hk).2
theorem l_qt_ar {x y : zSt} {E : zEx}   : zarr (zmem x y E) (425) = True := zmem_arr (a := 425) (by decide +kernel : 1 ≤ 425 ∧ 425 ≤ 476 ∧ zdk 425 = (20, 4)).1 (by decide +kernel : 1 ≤ 425 ∧ 425 ≤ 476 ∧ zdk 425 = (20, 4)).2.1 (by decide +kernel : 1 ≤ 425 ∧ 425 ≤ 476 ∧ zdk 425 = (20, 4)).2.2 (by decide)
theorem l_qt_ln {x y : zSt} {E : zEx}   : zlen' (zmem x y E) (425) = 4 := zmem_len (a := 425) (by decide +kernel : 1 ≤ 425 ∧ 425 ≤ 476 ∧ zdk 425 = (20, 4)).1 (by decide +kernel : 1 ≤ 425 ∧ 425 ≤ 476 ∧ zdk 425 = (20, 4)).2.1 (by decide +kernel : 1 ≤ 425 ∧ 425 ≤ 476 ∧ zdk 425 = (20, 4)).2.2
theorem l_qt_ia {x y : zSt} {E : zEx}   {w : Nat} (hw : w < 4) : zia (zmem x y E) 20 (425) (nI w) = True := zmem_ia (a := 425) (by decide +kernel : 1 ≤ 425 ∧ 425 ≤ 476 ∧ zdk 425 = (20, 4)).1 (by decide +kernel : 1 ≤ 425 ∧ 425 ≤ 476 ∧ zdk 425 = (20, 4)).2.1 (by decide +kernel : 1 ≤ 425 ∧ 425 ≤ 476 ∧ zdk 425 = (20, 4)).2.2 hw (by decide)
theorem l_qt_is {x y : zSt} {E : zEx}   {w : Nat} (hw : w < 4) : zias (zmem x y E) (425) (nI w) = True := zmem_ias (a := 425) (by decide +kernel : 1 ≤ 425 ∧ 425 ≤ 476 ∧ zdk 425 = (20, 4)).1 (by decide +kernel : 1 ≤ 425 ∧ 425 ≤ 476 ∧ zdk 425 = (20, 4)).2.1 (by decide +kernel : 1 ≤ 425 ∧ 425 ≤ 476 ∧ zdk 425 = (20, 4)).2.2 hw (by decide)
theorem f_qt_e : ∀ p < 4, zin (425) (p) ∧ zdc (425) (p) = (1, 13, p, 5) := by decide +kernel
theorem l_qt_e {x y : zSt} {E : zEx} {p : Nat} (hp : p < 4) : zrd (zmem x y E) (425) (p) = .int (y 13 p 5) := zmem_rdy (a := 425) (f_qt_e p hp).1 (f_qt_e p hp).2
theorem l_qt_ep {x y : zSt} {E : zEx} {v : Int32} {p : Nat} (hp : p < 4) : zput (zmem x y E) (425) (p) (.int v) = zmem x (su y 13 (u2 (y 13) p 5 v)) E := zmem_py (a := 425) (f_qt_e p hp).1 (f_qt_e p hp).2
theorem l_bn_ar {x y : zSt} {E : zEx}   : zarr (zmem x y E) (426) = True := zmem_arr (a := 426) (by decide +kernel : 1 ≤ 426 ∧ 426 ≤ 476 ∧ zdk 426 = (20, 10)).1 (by decide +kernel : 1 ≤ 426 ∧ 426 ≤ 476 ∧ zdk 426 = (20, 10)).2.1 (by decide +kernel : 1 ≤ 426 ∧ 426 ≤ 476 ∧ zdk 426 = (20, 10)).2.2 (by decide)
theorem l_bn_ln {x y : zSt} {E : zEx}   : zlen' (zmem x y E) (426) = 10 := zmem_len (a := 426) (by decide +kernel : 1 ≤ 426 ∧ 426 ≤ 476 ∧ zdk 426 = (20, 10)).1 (by decide +kernel : 1 ≤ 426 ∧ 426 ≤ 476 ∧ zdk 426 = (20, 10)).2.1 (by decide +kernel : 1 ≤ 426 ∧ 426 ≤ 476 ∧ zdk 426 = (20, 10)).2.2
theorem l_bn_ia {x y : zSt} {E : zEx}   {w : Nat} (hw : w < 10) : zia (zmem x y E) 20 (426) (nI w) = True := zmem_ia (a := 426) (by decide +kernel : 1 ≤ 426 ∧ 426 ≤ 476 ∧ zdk 426 = (20, 10)).1 (by decide +kernel : 1 ≤ 426 ∧ 426 ≤ 476 ∧ zdk 426 = (20, 10)).2.1 (by decide +kernel : 1 ≤ 426 ∧ 426 ≤ 476 ∧ zdk 426 = (20, 10)).2.2 hw (by decide)
theorem l_bn_is {x y : zSt} {E : zEx}   {w : Nat} (hw : w < 10) : zias (zmem x y E) (426) (nI w) = True := zmem_ias (a := 426) (by decide +kernel : 1 ≤ 426 ∧ 426 ≤ 476 ∧ zdk 426 = (20, 10)).1 (by decide +kernel : 1 ≤ 426 ∧ 426 ≤ 476 ∧ zdk 426 = (20, 10)).2.1 (by decide +kernel : 1 ≤ 426 ∧ 426 ≤ 476 ∧ zdk 426 = (20, 10)).2.2 hw (by decide)
theorem f_bn_e : ∀ i < 10, zin (426) (i) ∧ zdc (426) (i) = (1, 1, 0, i) := by decide +kernel
theorem l_bn_e {x y : zSt} {E : zEx} {i : Nat} (hi : i < 10) : zrd (zmem x y E) (426) (i) = .int (y 1 0 i) := zmem_rdy (a := 426) (f_bn_e i hi).1 (f_bn_e i hi).2
theorem l_bn_ep {x y : zSt} {E : zEx} {v : Int32} {i : Nat} (hi : i < 10) : zput (zmem x y E) (426) (i) (.int v) = zmem x (su y 1 (u2 (y 1) 0 i v)) E := zmem_py (a := 426) (f_bn_e i hi).1 (f_bn_e i hi).2
theorem l_rl_ar {x y : zSt} {E : zEx}   : zarr (zmem x y E) (427) = True := zmem_arr (a := 427) (by decide +kernel : 1 ≤ 427 ∧ 427 ≤ 476 ∧ zdk 427 = (41, 4)).1 (by decide +kernel : 1 ≤ 427 ∧ 427 ≤ 476 ∧ zdk 427 = (41, 4)).2.1 (by decide +kernel : 1 ≤ 427 ∧ 427 ≤ 476 ∧ zdk 427 = (41, 4)).2.2 (by decide)
theorem l_rl_ln {x y : zSt} {E : zEx}   : zlen' (zmem x y E) (427) = 4 := zmem_len (a := 427) (by decide +kernel : 1 ≤ 427 ∧ 427 ≤ 476 ∧ zdk 427 = (41, 4)).1 (by decide +kernel : 1 ≤ 427 ∧ 427 ≤ 476 ∧ zdk 427 = (41, 4)).2.1 (by decide +kernel : 1 ≤ 427 ∧ 427 ≤ 476 ∧ zdk 427 = (41, 4)).2.2
theorem l_rl_ia {x y : zSt} {E : zEx}   {w : Nat} (hw : w < 4) : ziar (zmem x y E) (427) (nI w) = True := zmem_iar (a := 427) (by decide +kernel : 1 ≤ 427 ∧ 427 ≤ 476 ∧ zdk 427 = (41, 4)).1 (by decide +kernel : 1 ≤ 427 ∧ 427 ≤ 476 ∧ zdk 427 = (41, 4)).2.1 (by decide +kernel : 1 ≤ 427 ∧ 427 ≤ 476 ∧ zdk 427 = (41, 4)).2.2 (by decide) hw (by decide)
theorem f_rl_e : ∀ p < 4, zin (427) (p) ∧ zdc (427) (p) = (4, 2, p, 0) := by decide +kernel
theorem l_rl_e {x y : zSt} {E : zEx} {p : Nat} (hp : p < 4) : zrd (zmem x y E) (427) (p) = .ref (E.2.2.2 2 p 0) := zmem_rdv (a := 427) (f_rl_e p hp).1 (f_rl_e p hp).2
theorem l_rl_ep {x y : zSt} {E : zEx} {v : Nat} {p : Nat} (hp : p < 4) : zput (zmem x y E) (427) (p) (.ref v) = zmem x y (eR E 2 p 0 v) := zmem_pv (a := 427) (f_rl_e p hp).1 (f_rl_e p hp).2
theorem l_rl_e3 {x y : zSt} {E : zEx} {v : Nat} {p : Nat} (hp : p < 4) (hv : eY E v) (hq : (eK E v).1 = 40) : zias2 (zmem x y E) v (427) (nI (p)) = True := zmem_ias3 (a := 427) (t := 40) (by decide +kernel : 1 ≤ 427 ∧ 427 ≤ 476 ∧ zdk 427 = (41, 4)).1 (by decide +kernel : 1 ≤ 427 ∧ 427 ≤ 476 ∧ zdk 427 = (41, 4)).2.1 (by decide +kernel : 1 ≤ 427 ∧ 427 ≤ 476 ∧ zdk 427 = (41, 4)).2.2 (by decide) hp (by decide) hv hq
theorem l_bxo_ar {x y : zSt} {E : zEx}   : zarr (zmem x y E) (433) = True := zmem_arr (a := 433) (by decide +kernel : 1 ≤ 433 ∧ 433 ≤ 476 ∧ zdk 433 = (42, 4)).1 (by decide +kernel : 1 ≤ 433 ∧ 433 ≤ 476 ∧ zdk 433 = (42, 4)).2.1 (by decide +kernel : 1 ≤ 433 ∧ 433 ≤ 476 ∧ zdk 433 = (42, 4)).2.2 (by decide)
theorem l_bxo_ln {x y : zSt} {E : zEx}   : zlen' (zmem x y E) (433) = 4 := zmem_len (a := 433) (by decide +kernel : 1 ≤ 433 ∧ 433 ≤ 476 ∧ zdk 433 = (42, 4)).1 (by decide +kernel : 1 ≤ 433 ∧ 433 ≤ 476 ∧ zdk 433 = (42, 4)).2.1 (by decide +kernel : 1 ≤ 433 ∧ 433 ≤ 476 ∧ zdk 433 = (42, 4)).2.2
theorem l_bxo_ia {x y : zSt} {E : zEx}   {w : Nat} (hw : w < 4) : ziar (zmem x y E) (433) (nI w) = True := zmem_iar (a := 433) (by decide +kernel : 1 ≤ 433 ∧ 433 ≤ 476 ∧ zdk 433 = (42, 4)).1 (by decide +kernel : 1 ≤ 433 ∧ 433 ≤ 476 ∧ zdk 433 = (42, 4)).2.1 (by decide +kernel : 1 ≤ 433 ∧ 433 ≤ 476 ∧ zdk 433 = (42, 4)).2.2 (by decide) hw (by decide)
theorem f_bxo_e : ∀ p < 4, zin (433) (p) ∧ zdc (433) (p) = (2, 434 + 9 * p, 0, 0) := by decide +kernel
theorem l_bxo_e {x y : zSt} {E : zEx} {p : Nat} (hp : p < 4) : zrd (zmem x y E) (433) (p) = .ref (434 + 9 * p) := zmem_rdr (a := 433) (f_bxo_e p hp).1 (f_bxo_e p hp).2
theorem f_bxi : ∀ p < 4, 1 ≤ 434 + 9 * p ∧ 434 + 9 * p ≤ 476 ∧ zdk (434 + 9 * p) = (41, 8) := by decide +kernel
theorem l_bxi_ar {x y : zSt} {E : zEx} {p : Nat} (hp : p < 4) : zarr (zmem x y E) (434 + 9 * p) = True := zmem_arr (a := 434 + 9 * p) (f_bxi p hp).1 (f_bxi p hp).2.1 (f_bxi p hp).2.2 (by decide)
theorem l_bxi_ln {x y : zSt} {E : zEx} {p : Nat} (hp : p < 4) : zlen' (zmem x y E) (434 + 9 * p) = 8 := zmem_len (a := 434 + 9 * p) (f_bxi p hp).1 (f_bxi p hp).2.1 (f_bxi p hp).2.2
theorem l_bxi_ia {x y : zSt} {E : zEx} {p : Nat} (hp : p < 4) {w : Nat} (hw : w < 8) : ziar (zmem x y E) (434 + 9 * p) (nI w) = True := zmem_iar (a := 434 + 9 * p) (f_bxi p hp).1 (f_bxi p hp).2.1 (f_bxi p hp).2.2 (by decide) hw (by decide)
theorem f_bxi_e : ∀ p < 4, ∀ k < 8, zin (434 + 9 * p) (k) ∧ zdc (434 + 9 * p) (k) = (4, 3, p, k) := by decide +kernel
theorem l_bxi_e {x y : zSt} {E : zEx} {p : Nat} {k : Nat} (hp : p < 4) (hk : k < 8) : zrd (zmem x y E) (434 + 9 * p) (k) = .ref (E.2.2.2 3 p k) := zmem_rdv (a := 434 + 9 * p) (f_bxi_e p hp k hk).1 (f_bxi_e p hp k hk).2
theorem l_bxi_ep {x y : zSt} {E : zEx} {v : Nat} {p : Nat} {k : Nat} (hp : p < 4) (hk : k < 8) : zput (zmem x y E) (434 + 9 * p) (k) (.ref v) = zmem x y (eR E 3 p k v) := zmem_pv (a := 434 + 9 * p) (f_bxi_e p hp k hk).1 (f_bxi_e p hp k hk).2
theorem l_bxi_e3 {x y : zSt} {E : zEx} {v : Nat} {p : Nat} {k : Nat} (hp : p < 4) (hk : k < 8) (hv : eY E v) (hq : (eK E v).1 = 40) : zias2 (zmem x y E) v (434 + 9 * p) (nI (k)) = True := zmem_ias3 (a := 434 + 9 * p) (t := 40) (f_bxi p hp).1 (f_bxi p hp).2.1 (f_bxi p hp).2.2 (by decide) hk (by decide) hv hq
theorem l_gta_ar {x y : zSt} {E : zEx}   : zarr (zmem x y E) (470) = True := zmem_arr (a := 470) (by decide +kernel : 1 ≤ 470 ∧ 470 ≤ 476 ∧ zdk 470 = (43, 4)).1 (by decide +kernel : 1 ≤ 470 ∧ 470 ≤ 476 ∧ zdk 470 = (43, 4)).2.1 (by decide +kernel : 1 ≤ 470 ∧ 470 ≤ 476 ∧ zdk 470 = (43, 4)).2.2 (by decide)
theorem l_gta_ln {x y : zSt} {E : zEx}   : zlen' (zmem x y E) (470) = 4 := zmem_len (a := 470) (by decide +kernel : 1 ≤ 470 ∧ 470 ≤ 476 ∧ zdk 470 = (43, 4)).1 (by decide +kernel : 1 ≤ 470 ∧ 470 ≤ 476 ∧ zdk 470 = (43, 4)).2.1 (by decide +kernel : 1 ≤ 470 ∧ 470 ≤ 476 ∧ zdk 470 = (43, 4)).2.2
theorem l_gta_ia {x y : zSt} {E : zEx}   {w : Nat} (hw : w < 4) : ziar (zmem x y E) (470) (nI w) = True := zmem_iar (a := 470) (by decide +kernel : 1 ≤ 470 ∧ 470 ≤ 476 ∧ zdk 470 = (43, 4)).1 (by decide +kernel : 1 ≤ 470 ∧ 470 ≤ 476 ∧ zdk 470 = (43, 4)).2.1 (by decide +kernel : 1 ≤ 470 ∧ 470 ≤ 476 ∧ zdk 470 = (43, 4)).2.2 (by decide) hw (by decide)
theorem f_gta_e : ∀ p < 4, zin (470) (p) ∧ zdc (470) (p) = (2, 471 + p, 0, 0) := by decide +kernel
theorem l_gta_e {x y : zSt} {E : zEx} {p : Nat} (hp : p < 4) : zrd (zmem x y E) (470) (p) = .ref (471 + p) := zmem_rdr (a := 470) (f_gta_e p hp).1 (f_gta_e p hp).2
theorem f_gt : ∀ p < 4, 1 ≤ 471 + p ∧ 471 + p ≤ 476 ∧ zdk (471 + p) = (23, 61) := by decide +kernel
theorem l_gt_ar {x y : zSt} {E : zEx} {p : Nat} (hp : p < 4) : zarr (zmem x y E) (471 + p) = True := zmem_arr (a := 471 + p) (f_gt p hp).1 (f_gt p hp).2.1 (f_gt p hp).2.2 (by decide)
theorem l_gt_ln {x y : zSt} {E : zEx} {p : Nat} (hp : p < 4) : zlen' (zmem x y E) (471 + p) = 61 := zmem_len (a := 471 + p) (f_gt p hp).1 (f_gt p hp).2.1 (f_gt p hp).2.2
theorem l_gt_ia {x y : zSt} {E : zEx} {p : Nat} (hp : p < 4) {w : Nat} (hw : w < 61) : zia (zmem x y E) 23 (471 + p) (nI w) = True := zmem_ia (a := 471 + p) (f_gt p hp).1 (f_gt p hp).2.1 (f_gt p hp).2.2 hw (by decide)
theorem f_gt_e : ∀ p < 4, ∀ i < 61, zin (471 + p) (i) ∧ zdc (471 + p) (i) = (1, 24, p, i) := by decide +kernel
theorem l_gt_e {x y : zSt} {E : zEx} {p : Nat} {i : Nat} (hp : p < 4) (hi : i < 61) : zrd (zmem x y E) (471 + p) (i) = .int (y 24 p i) := zmem_rdy (a := 471 + p) (f_gt_e p hp i hi).1 (f_gt_e p hp i hi).2
theorem l_gt_ep {x y : zSt} {E : zEx} {v : Int32} {p : Nat} {i : Nat} (hp : p < 4) (hi : i < 61) : zput (zmem x y E) (471 + p) (i) (.int v) = zmem x (su y 24 (u2 (y 24) p i v)) E := zmem_py (a := 471 + p) (f_gt_e p hp i hi).1 (f_gt_e p hp i hi).2
