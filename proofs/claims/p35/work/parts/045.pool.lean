/-! the pool's entries, the classes' words and the methods' words stand in the tables -/
def zG : List Cond := lw_tbl.filter goodWord
theorem zG_of {i : Nat} {w : Cond} (h : lw_tbl[i]? = some w) (g : goodWord w = true) : w ∈ zG := List.mem_filter.mpr ⟨List.mem_of_getElem? h, g⟩
theorem zlk_mem {α : Type} : ∀ {l : List (Nat × α)} {k : Nat} {v : α}, zlk l k = some v → (k, v) ∈ l
  | [], _, _, h => by cases h
  | q :: l, k, v, h => by
    simp only [zlk] at h
    split at h
    · next e =>
      cases h
      rw [e]
      exact List.mem_cons_self
    · exact List.mem_cons_of_mem _ (zlk_mem h)
def zyn (x : Nat) : MethodName := match zmt[x]? with
  | some J => zk_y J
  | none => ⟨"", "", ""⟩
def zhost (c : Nat) : String := if c < 10 then "DovecoteMail" else "DovecoteMailLaw"
def zpchk (c ix : Nat) (e : zP) : Bool := match e with
  | (0, x, j, p) => decide (j < zN x) && (decide (x < 11) && (decide (lw_tbl[p]? = some (.fieldLink (zcn c) ix (zcn x) (zT x j).2.1 (zT x j).2.2.1)) && decide ((zT x j).1 = zcn x)))
  | (1, x, y, p) => if y < 3 ∨ y = 6 then decide (lw_tbl[p]? = some (.methodLink (zcn c) (ix % 100000) (zyn x))) else decide (lw_tbl[p]? = some (.methodLinkNest (zcn c) (ix % 100000) (zyn x) (zhost c)))
  | (2, x, _, p) => decide (x < 20) && decide (lw_tbl[p]? = some (.classLink (zcn c) ix (zcn x)))
  | (3, _, _, p) => decide (lw_tbl[p]? = some (.methodLink (zcn c) ix Jvm.Lib.objectInit))
  | (4, 0, _, p) => decide (lw_tbl[p]? = some (.methodLink (zcn c) ix Jvm.Lib.Math.abs.name))
  | (5, _, _, p) => decide (lw_tbl[p]? = some (.methodLink (zcn c) ix arraycopyName))
  | (6, v, _, p) => decide (lw_tbl[p]? = some (.constantLong (zcn c) ix (Int64.ofNat v)))
  | (7, v, _, p) => decide (lw_tbl[p]? = some (.constant (zcn c) ix (Int32.ofNat v)))
  | (8, k, _, p) => decide (lw_tbl[p]? = some (.classLink (zcn c) ix (if k = 20 then "[I" else if k = 40 then "[[I" else if k = 41 then "[[[I" else if k = 42 then "[[[[I" else "[[Z")))
  | _ => false
set_option maxRecDepth 100000 in
theorem zpl_ok_0 : zpl_0.all (fun q => zpchk 0 q.1 q.2) = true := by decide +kernel
set_option maxRecDepth 100000 in
theorem zpl_ok_1 : zpl_1.all (fun q => zpchk 1 q.1 q.2) = true := by decide +kernel
set_option maxRecDepth 100000 in
theorem zpl_ok_2 : zpl_2.all (fun q => zpchk 2 q.1 q.2) = true := by decide +kernel
set_option maxRecDepth 100000 in
theorem zpl_ok_3 : zpl_3.all (fun q => zpchk 3 q.1 q.2) = true := by decide +kernel
set_option maxRecDepth 100000 in
theorem zpl_ok_4 : zpl_4.all (fun q => zpchk 4 q.1 q.2) = true := by decide +kernel
set_option maxRecDepth 100000 in
theorem zpl_ok_5 : zpl_5.all (fun q => zpchk 5 q.1 q.2) = true := by decide +kernel
set_option maxRecDepth 100000 in
theorem zpl_ok_6 : zpl_6.all (fun q => zpchk 6 q.1 q.2) = true := by decide +kernel
set_option maxRecDepth 100000 in
theorem zpl_ok_7 : zpl_7.all (fun q => zpchk 7 q.1 q.2) = true := by decide +kernel
set_option maxRecDepth 100000 in
theorem zpl_ok_8 : zpl_8.all (fun q => zpchk 8 q.1 q.2) = true := by decide +kernel
set_option maxRecDepth 100000 in
theorem zpl_ok_9 : zpl_9.all (fun q => zpchk 9 q.1 q.2) = true := by decide +kernel
set_option maxRecDepth 100000 in
theorem zpl_ok_10 : zpl_10.all (fun q => zpchk 10 q.1 q.2) = true := by decide +kernel
set_option maxRecDepth 100000 in
theorem zpl_ok_11 : zpl_11.all (fun q => zpchk 11 q.1 q.2) = true := by decide +kernel
theorem zpool_ok {c ix : Nat} {e : zP} (h : zpool c ix = some e) : zpchk c ix e = true := by
  have hm := zlk_mem h
  match c, hm with
  | 0, hm => exact List.all_eq_true.mp zpl_ok_0 _ hm
  | 1, hm => exact List.all_eq_true.mp zpl_ok_1 _ hm
  | 2, hm => exact List.all_eq_true.mp zpl_ok_2 _ hm
  | 3, hm => exact List.all_eq_true.mp zpl_ok_3 _ hm
  | 4, hm => exact List.all_eq_true.mp zpl_ok_4 _ hm
  | 5, hm => exact List.all_eq_true.mp zpl_ok_5 _ hm
  | 6, hm => exact List.all_eq_true.mp zpl_ok_6 _ hm
  | 7, hm => exact List.all_eq_true.mp zpl_ok_7 _ hm
  | 8, hm => exact List.all_eq_true.mp zpl_ok_8 _ hm
  | 9, hm => exact List.all_eq_true.mp zpl_ok_9 _ hm
  | 10, hm => exact List.all_eq_true.mp zpl_ok_10 _ hm
  | 11, hm => exact List.all_eq_true.mp zpl_ok_11 _ hm
  | c + 12, hm => exact absurd hm (by simp [zpls])
theorem zw_none {c ix : Nat} : True := trivial
def zlaychk (c : Nat) : Bool := decide ((u_ws (zcn c) (zT c) (zN c)) = (zplays.getD c []).filterMap (fun i => lw_tbl[i]?)) && (u_ws (zcn c) (zT c) (zN c)).all goodWord
def zclchk (c : Nat) : Bool := decide (lw_tbl[zpini.getD c 0]? = some (.initialized (zcn c))) && (decide (lw_tbl[zpins.getD c 0]? = some (.instantiable (zcn c) (zN c))) && (List.range (zN c)).all (fun k => decide (parseFieldDescriptor (zT c k).2.2.1 = some (zty c k)) && ((List.range (zN c)).all (fun j => decide (j = k ∨ (zT c j).2.1 ≠ (zT c k).2.1)))))
set_option maxRecDepth 100000 in
theorem zlay_ok_0 : zlaychk 0 = true := by decide +kernel
set_option maxRecDepth 100000 in
theorem zcl_ok_0 : zclchk 0 = true := by decide +kernel
set_option maxRecDepth 100000 in
theorem zlay_ok_1 : zlaychk 1 = true := by decide +kernel
set_option maxRecDepth 100000 in
theorem zcl_ok_1 : zclchk 1 = true := by decide +kernel
set_option maxRecDepth 100000 in
theorem zlay_ok_2 : zlaychk 2 = true := by decide +kernel
set_option maxRecDepth 100000 in
theorem zcl_ok_2 : zclchk 2 = true := by decide +kernel
set_option maxRecDepth 100000 in
theorem zlay_ok_3 : zlaychk 3 = true := by decide +kernel
set_option maxRecDepth 100000 in
theorem zcl_ok_3 : zclchk 3 = true := by decide +kernel
set_option maxRecDepth 100000 in
theorem zlay_ok_4 : zlaychk 4 = true := by decide +kernel
set_option maxRecDepth 100000 in
theorem zcl_ok_4 : zclchk 4 = true := by decide +kernel
set_option maxRecDepth 100000 in
theorem zlay_ok_5 : zlaychk 5 = true := by decide +kernel
set_option maxRecDepth 100000 in
theorem zcl_ok_5 : zclchk 5 = true := by decide +kernel
set_option maxRecDepth 100000 in
theorem zlay_ok_6 : zlaychk 6 = true := by decide +kernel
set_option maxRecDepth 100000 in
theorem zcl_ok_6 : zclchk 6 = true := by decide +kernel
set_option maxRecDepth 100000 in
theorem zlay_ok_7 : zlaychk 7 = true := by decide +kernel
set_option maxRecDepth 100000 in
theorem zcl_ok_7 : zclchk 7 = true := by decide +kernel
set_option maxRecDepth 100000 in
theorem zlay_ok_8 : zlaychk 8 = true := by decide +kernel
set_option maxRecDepth 100000 in
theorem zcl_ok_8 : zclchk 8 = true := by decide +kernel
set_option maxRecDepth 100000 in
theorem zlay_ok_9 : zlaychk 9 = true := by decide +kernel
set_option maxRecDepth 100000 in
theorem zcl_ok_9 : zclchk 9 = true := by decide +kernel
set_option maxRecDepth 100000 in
theorem zlay_ok_10 : zlaychk 10 = true := by decide +kernel
set_option maxRecDepth 100000 in
theorem zcl_ok_10 : zclchk 10 = true := by decide +kernel
theorem zlay_ok {c : Nat} (h : c < 11) : zlaychk c = true := by
  match c, h with
  | 0, _ => exact zlay_ok_0
  | 1, _ => exact zlay_ok_1
  | 2, _ => exact zlay_ok_2
  | 3, _ => exact zlay_ok_3
  | 4, _ => exact zlay_ok_4
  | 5, _ => exact zlay_ok_5
  | 6, _ => exact zlay_ok_6
  | 7, _ => exact zlay_ok_7
  | 8, _ => exact zlay_ok_8
  | 9, _ => exact zlay_ok_9
  | 10, _ => exact zlay_ok_10
  | c + 11, h => exact absurd h (by omega)
theorem zcl_ok {c : Nat} (h : c < 11) : zclchk c = true := by
  match c, h with
  | 0, _ => exact zcl_ok_0
  | 1, _ => exact zcl_ok_1
  | 2, _ => exact zcl_ok_2
  | 3, _ => exact zcl_ok_3
  | 4, _ => exact zcl_ok_4
  | 5, _ => exact zcl_ok_5
  | 6, _ => exact zcl_ok_6
  | 7, _ => exact zcl_ok_7
  | 8, _ => exact zcl_ok_8
  | 9, _ => exact zcl_ok_9
  | 10, _ => exact zcl_ok_10
  | c + 11, h => exact absurd h (by omega)
theorem zlay_in {c : Nat} (h : c < 11) : ∀ w ∈ u_ws (zcn c) (zT c) (zN c), w ∈ zG := by
  have h1 := zlay_ok h
  simp only [zlaychk, Bool.and_eq_true, decide_eq_true_eq] at h1
  intro w hw
  have g := List.all_eq_true.mp h1.2 w hw
  rw [h1.1] at hw
  obtain ⟨i, -, hi⟩ := List.mem_filterMap.mp hw
  exact zG_of hi g
theorem zcl_ini {c : Nat} (h : c < 11) : Cond.initialized (zcn c) ∈ zG := by
  have h1 := zcl_ok h
  simp only [zclchk, Bool.and_eq_true, decide_eq_true_eq] at h1
  exact zG_of h1.1 rfl
theorem zcl_ins {c : Nat} (h : c < 11) : Cond.instantiable (zcn c) (zN c) ∈ zG := by
  have h1 := zcl_ok h
  simp only [zclchk, Bool.and_eq_true, decide_eq_true_eq] at h1
  exact zG_of h1.2.1 rfl
theorem zcl_ty {c : Nat} (h : c < 11) : ∀ k, k < zN c → parseFieldDescriptor (zT c k).2.2.1 = some (zty c k) := by
  have h1 := zcl_ok h
  simp only [zclchk, Bool.and_eq_true, decide_eq_true_eq] at h1
  intro k hk
  have h2 := List.all_eq_true.mp h1.2.2 k (List.mem_range.mpr hk)
  simp only [Bool.and_eq_true, decide_eq_true_eq] at h2
  exact h2.1
theorem zcl_nm {c : Nat} (h : c < 11) : ∀ a, a < zN c → ∀ b, b < zN c → a ≠ b → (zT c a).2.1 ≠ (zT c b).2.1 := by
  have h1 := zcl_ok h
  simp only [zclchk, Bool.and_eq_true, decide_eq_true_eq] at h1
  intro a ha b hb hne
  have h2 := List.all_eq_true.mp h1.2.2 b (List.mem_range.mpr hb)
  simp only [Bool.and_eq_true, decide_eq_true_eq] at h2
  have h3 := List.all_eq_true.mp h2.2 a (List.mem_range.mpr ha)
  simp only [decide_eq_true_eq] at h3
  rcases h3 with h3 | h3
  · exact absurd h3 hne
  · exact h3
theorem zC_get {c : Nat} (h : c < 11) : zC[c]? = some (zcn c, zT c, zN c) := by
  unfold zC
  rw [List.getElem?_map, List.getElem?_range h]
  rfl
