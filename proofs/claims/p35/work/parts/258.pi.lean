/-! what holds between the acts; the acts that touch no row (source: wip/p35/src/258.pi.txt, by expand3.py) -/
/-- copies neither gone nor in the bin -/
def nbq (x : zSt) (z : Nat) : Bool := !(x 25 (z / 60) (z % 60) == -1) && !(x 25 (z / 60) (z % 60) == nI 1)
def nb (x : zSt) : Nat := ((List.range 240).filter (nbq x)).length
def iX (x : zSt) (k : Nat) : Prop := ∃ (S : Nat) (st : Nat → Nat → Nat), x 0 0 9 = nI S ∧ S + nb x ≤ 8 * k ∧ ∀ p i, p < 4 → i < 60 → (x 25 p i = -1 ∧ x 26 p i = 0 ∧ x 27 p i = 0 ∧ x 28 p i = 0) ∨ (¬ x 25 p i = -1 ∧ x 24 p i = nI 1 ∧ x 28 p i = nI (st p i) ∧ 1 ≤ st p i ∧ st p i ≤ S ∧ ∀ q j, q < 4 → j < 60 → ¬ x 25 q j = -1 → st q j = st p i → q = p ∧ j = i)
theorem nb_eq {x x' : zSt} (h : x' 25 = x 25) : nb x' = nb x := by
  unfold nb
  have : nbq x' = nbq x := funext fun z => by unfold nbq; rw [h]
  rw [this]
theorem iX_eq {x x' : zSt} {k k' : Nat} (hk : k ≤ k') (h0 : x' 0 0 9 = x 0 0 9) (h : ∀ c, 24 ≤ c → c ≤ 28 → x' c = x c) (r : iX x k) : iX x' k' := by
  obtain ⟨S, st, a, b, c⟩ := r
  refine ⟨S, st, h0.trans a, by rw [nb_eq (h 25 (by omega) (by omega))]; omega, ?_⟩
  rw [h 24 (by omega) (by omega), h 25 (by omega) (by omega), h 26 (by omega) (by omega), h 27 (by omega) (by omega), h 28 (by omega) (by omega)]
  exact c
/-- the lists of the boxes -/
def BL (bl : Nat → Nat → List Nat) (n : Nat) (y : zSt) : Prop := ∀ p f, p < 4 → f < 8 → (∀ i, i ∈ bl p f ↔ i < n ∧ y 25 p i = nI f) ∧ List.Pairwise (fun i j => y 26 p i < y 26 p j) (bl p f)
theorem BL_eq {bl : Nat → Nat → List Nat} {n : Nat} {y y' : zSt} (h5 : y' 25 = y 25) (h6 : y' 26 = y 26) (r : BL bl n y) : BL bl n y' := by
  unfold BL
  rw [h5, h6]
  exact r
/-- draws that were made -/
def yD (y : zSt) (d : Nat) : zSt := su y 2 (u2 (y 2) 0 0 (nI d))
theorem yD_rd {y : zSt} {d c : Nat} (h : ¬ c = 2) : yD y d c = y c := if_neg h
theorem yD_su {y : zSt} {d c : Nat} {f : Nat → Nat → Int32} (h : ¬ c = 2) : su (yD y d) c f = yD (su y c f) d := by
  funext e
  show (if e = c then f else if e = 2 then _ else y e) = (if e = 2 then u2 ((if (2 : Nat) = c then f else y 2)) 0 0 (nI d) else if e = c then f else y e)
  by_cases e2 : e = 2
  · subst e2
    rw [if_neg (by omega), if_pos rfl, if_pos rfl, if_neg (by omega)]
  · rw [if_neg e2, if_neg e2]
theorem yD_yD {y : zSt} {d e : Nat} : yD (yD y d) e = yD y e := by
  funext c
  show (if c = 2 then u2 (yD y d 2) 0 0 (nI e) else if c = 2 then _ else y c) = (if c = 2 then u2 (y 2) 0 0 (nI e) else y c)
  by_cases h : c = 2
  · rw [if_pos h, if_pos h]
    funext p i
    show (if p = 0 ∧ i = 0 then nI e else (if p = 0 ∧ i = 0 then nI d else y 2 p i)) = (if p = 0 ∧ i = 0 then nI e else y 2 p i)
    by_cases h' : p = 0 ∧ i = 0
    · rw [if_pos h', if_pos h']
    · rw [if_neg h', if_neg h', if_neg h']
  · rw [if_neg h, if_neg h, if_neg h]
theorem yD_id {y : zSt} {d : Nat} (h : y 2 0 0 = nI d) : yD y d = y := by
  funext c
  show (if c = 2 then u2 (y 2) 0 0 (nI d) else y c) = y c
  by_cases e : c = 2
  · subst e
    rw [if_pos rfl]
    funext p i
    show (if p = 0 ∧ i = 0 then nI d else y 2 p i) = y 2 p i
    by_cases h' : p = 0 ∧ i = 0
    · rw [if_pos h', h'.1, h'.2, h]
    · rw [if_neg h']
  · rw [if_neg e]
theorem yD_0 {y : zSt} {d : Nat} : yD y d 2 0 0 = nI d := by
  show (if (0 : Nat) = 0 ∧ (0 : Nat) = 0 then nI d else y 2 0 0) = _
  rw [if_pos ⟨rfl, rfl⟩]
theorem cD {E : zEx} {L d n : Nat} {xs : Nat → Int32} (h : vS E L xs) (hd : d < 10000000) (h0 : 0 < n) (hn : n < 1000) : ∃ r, r < n ∧ ∀ (x y : zSt) (Q : zO → zM → Prop), (zcl 115 [.ref 1, .int (nI n)] (zmem x (yD y d) E) Q ↔ Q (.inl (some (.int (nI r)))) (zmem x (yD y (d + 1)) E)) := by
  obtain ⟨r, hr, e⟩ := c115 (dr := d) h hd h0 hn
  refine ⟨r, hr, fun x y Q => ?_⟩
  rw [e x (yD y d) Q yD_0]
  have : su (yD y d) 2 (u2 (yD y d 2) 0 0 (nI (d + 1))) = yD y (d + 1) := yD_yD
  rw [this]
/-- what rules ask, what words are sent -/
def pX (y : zSt) (n : Nat) (nr : Nat → Nat) : Prop := (∀ p r, p < 4 → r < nr p → (∃ k, k < 5 ∧ y 18 p r = nI k) ∧ (y 18 p r = nI 2 → ∃ a, a < 8 ∧ y 19 p r = nI a)) ∧ (∀ i, i < n → ∃ w, w < 256 ∧ y 32 0 i = nI w) ∧ (∀ p i, p < 4 → n ≤ i → i < 60 → y 24 p i = nI 0) ∧ ∀ p, p < 4 → y 14 p 0 = -1 ∧ y 14 p 1 = -1
/-- between the acts: k of them at most, s messages at most -/
def pI (k s : Nat) (x y : zSt) (E : zEx) : Prop := ∃ (d b n qn t w l : Nat) (fc nr : Nat → Nat) (G : pG) (bl : Nat → Nat → List Nat) (L : Nat) (xs : Nat → Int32), cG n qn t w l fc nr b x y ∧ PS E y G bl fc nr n L xs ∧ BL bl n y ∧ y 2 0 0 = nI d ∧ (d ≤ 200 + 40 * k ∧ n ≤ s ∧ t ≤ 21 * k ∧ b ≤ 2000 * (k + 1) ∧ pX y n nr) ∧ iX x k
def pO (k s : Nat) (o : zO) (M : zM) : Prop := o = .inl (some (.int (nI 1))) ∧ ∃ x y E, M = zmem x y E ∧ pI k s x y E
theorem nI_true {a : Nat} : (nI a = nI a) = True := eq_self _
theorem cG_yD {n qn t w l : Nat} {fc nr : Nat → Nat} {b d : Nat} {x y : zSt} (h : cG n qn t w l fc nr b x y) : cG n qn t w l fc nr b x (yD y d) := by
  obtain ⟨hSc, hBx, hRu, hLe, hQs, hRl⟩ := id h
  refine ⟨hSc, hBx, hRu, hLe, hQs, fun c hc => ?_, fun c i h1 h2 h3 => ?_, fun p r hp hr => ?_⟩
  · rw [yD_rd (by unfold iSh at hc; omega)]
    exact hRl.1 c hc
  · rw [yD_rd (by omega)]
    exact hRl.2.1 c i h1 h2 h3
  · unfold iRr
    rw [yD_rd (by omega), yD_rd (by omega), yD_rd (by omega), yD_rd (by omega), yD_rd (by omega)]
    exact hRl.2.2 p r hp hr
theorem su_get {y : zSt} {c : Nat} {g : Nat → Nat → Int32} : su y c g c = g := if_pos rfl
theorem u2_get {p i : Nat} {v : Int32} {g : Nat → Nat → Int32} : u2 g p i v p i = v := if_pos ⟨rfl, rfl⟩
theorem pI_mk {k s : Nat} {x y : zSt} {E : zEx} {d b n qn t w l : Nat} {fc nr : Nat → Nat} {G : pG} {bl : Nat → Nat → List Nat} {L : Nat} {xs : Nat → Int32} (hG : cG n qn t w l fc nr b x y) (hP : PS E y G bl fc nr n L xs) (hB : BL bl n y) (hd : d ≤ 200 + 40 * k) (hn : n ≤ s) (hpx : pX y n nr) (ht : t ≤ 21 * k) (hb : b ≤ 2000 * (k + 1)) (hX : iX x k) : pI k s x (yD y d) E :=
  ⟨d, b, n, qn, t, w, l, fc, nr, G, bl, L, xs, cG_yD hG, hP.mY (fun c _ _ h2 _ _ _ _ _ => yD_rd h2), BL_eq (yD_rd (by omega)) (yD_rd (by omega)) hB, yD_0, ⟨hd, hn, ht, hb, hpx⟩, hX⟩
section ZA
variable {E : zEx} {x y : zSt} {k s : Nat}
theorem t121 (h : pI k s x y E) (hk : k ≤ 100) : zcl 121 [.ref 1] (zmem x y E) (pO (k + 1) s) := by
  obtain ⟨d, b, n, qn, t, w, l, fc, nr, G, bl, L, xs, hG, hP, hB, hy, ⟨hd, hn, ht, hb, hpx⟩, hX⟩ := h
  have hS := hP.2.2.2.2.2
  rw [← yD_id hy]
  obtain ⟨p, hp, e1⟩ := cD (d := d) (n := 4) hS (by omega) (by omega) (by omega)
  obtain ⟨hpa, hpt, hp8⟩ := hP.2.1 p hp
  have hf2 := (hG.2.1 p hp).2.1
  obtain ⟨f, hf, e2⟩ := cD (d := d + 1) (n := fc p) hS (by omega) (by omega) (by omega)
  obtain ⟨u, hu, e3⟩ := cD (d := d + 2) (n := 3) hS (by omega) (by omega) (by omega)
  obtain ⟨v, hv, e4⟩ := cD (d := d + 3) (n := 25) hS (by omega) (by omega) (by omega)
  have har := fun x y => hpa.ar (x := x) (y := y)
  have hln := fun x y => hpa.ln (x := x) (y := y)
  have e15 : y 15 = x 15 := iRl_sh hG.2.2.2.2.2 (iSh_a (by omega) (by omega))
  have hK0 := fun (Q : zO → zM → Prop) (Y : zSt) (F : zEx) => a43 (a := 0) (Q := Q) (Y := Y) (E := F) hG hp hf (by omega)
  have hK1 := fun (Q : zO → zM → Prop) (Y : zSt) (F : zEx) => a43 (a := 1 + v) (Q := Q) (Y := Y) (E := F) hG hp hf (by omega)
  rw [e121]
  simp (disch := omega) only [p121_0, p121_1, p121_2, p121_5, p121_6, p121_7, p121_8, p121_11, p121_12, p121_13, p121_14, p121_17, p121_18, p121_19, p121_22, p121_23, p121_24, p121_25, p121_26, p121_27, p121_28, p121_31, p121_32, p121_33, p121_34, p121_35, p121_36, p121_39, p121_42, p121_43, p121_46, p121_47, p121_48, p121_50, p121_53, p121_54, p121_55, p121_56, p121_59, p121_60, p121_61, p121_62, p121_65, p121_66, p121_67, p121_68, p121_69, p121_72, p121_73, p121_76, p121_77, p121_80, p121_81, e1, e2, e3, e4, har, hln, yD_rd, yD_su, su_get, u2_get, hK0, hK1, e15, l_dm_ok, l_dm_0, l_dm_1, l_dm_2, l_dm_2p, l_dm_3, l_dm_4, l_dm_4p, l_dm_5, l_dm_6, l_dm_6p, l_dm_7, l_dm_7p, l_dm_8, l_dm_8p, l_dm_9, l_dm_9p, l_dm_10, l_dm_11, l_dm_12, l_dm_13, l_dm_14, l_po_ok, l_po_0, l_po_1, l_po_2, l_po_2p, l_po_3, l_po_3p, l_po_4, l_po_4p, l_po_5, l_po_5p, l_po_6, l_po_6p, l_po_7, l_po_8, l_po_9, l_po_10, l_po_11, l_po_12, l_po_13, l_po_13p, l_po_14, l_po_15, l_po_16, l_po_17, l_po_17p, l_bxa_ar, l_bxa_ln, l_bxa_ia, l_bxa_e, l_lea_ar, l_lea_ln, l_lea_ia, l_lea_e, l_qua_ar, l_qua_ln, l_qua_ia, l_qua_e, l_bo_ar, l_bo_ln, l_bo_ia, l_bo_is, l_bo_e, l_bo_ep, l_fc_ar, l_fc_ln, l_fc_ia, l_fc_is, l_fc_e, l_fc_ep, l_pa_ar, l_pa_ln, l_pa_ia, l_pa_e, l_pa_ep, l_pa_e3, l_aga_ar, l_aga_ln, l_aga_ia, l_aga_e, l_ag_ar, l_ag_ln, l_ag_ia, l_ag_is, l_ag_e, l_ag_ep, l_nxa_ar, l_nxa_ln, l_nxa_ia, l_nxa_e, l_nx_ar, l_nx_ln, l_nx_ia, l_nx_is, l_nx_e, l_nx_ep, l_qt_ar, l_qt_ln, l_qt_ia, l_qt_is, l_qt_e, l_qt_ep, l_bn_ar, l_bn_ln, l_bn_ia, l_bn_is, l_bn_e, l_bn_ep, l_rl_ar, l_rl_ln, l_rl_ia, l_rl_e, l_rl_ep, l_rl_e3, l_bxo_ar, l_bxo_ln, l_bxo_ia, l_bxo_e, l_bxi_ar, l_bxi_ln, l_bxi_ia, l_bxi_e, l_bxi_ep, l_bxi_e3, l_gta_ar, l_gta_ln, l_gta_ia, l_gta_e, l_gt_ar, l_gt_ln, l_gt_ia, l_gt_e, l_gt_ep, zvi_int, zvl_long, zvd_double, zvr_ref, zisI_int, zisR_ref, zgI_int, zgR_ref, zkl_int, zkl_ref, zkl_none, zkl_long, zkl_double, zct_nil, zct_int, zct_ref, zct_long, zct_double, zbk_some, zbk_none, zbk_exc, nI_clamp, nI_add, nI_mul, true_and, and_true, Nat.reduceAdd, Nat.reduceMul, Nat.reduceLeDiff, Nat.reducePow, ↓reduceIte, Nat.zero_add, Nat.add_zero, Nat.reduceLT, Nat.reduceEqDiff, Nat.le_refl, zn10, zn01, zfitB0, zfitB1, znarB0, znarB1, Nat.lt_irrefl, ↓zvi_eq, ↓zvr_eq]
  have key : ∀ (a e : Nat), a ≤ 200 → e ≤ d + 4 → pO (k + 1) s (.inl (some (.int (nI 1)))) (zmem (su x 15 (u2 (x 15) p f (nI a))) (yD (su y 15 (u2 (x 15) p f (nI a))) e) E) := by
    intro a e ha he
    have g := g43 (f := f) (a := a) hG hp ha
    rw [e15] at g
    refine ⟨rfl, _, _, _, rfl, pI_mk g (hP.mY (fun c _ _ _ _ h15 _ _ _ => if_neg h15)) (BL_eq (if_neg (by omega)) (if_neg (by omega)) hB) (by omega) hn hpx (by omega) (by omega) (iX_eq (x := x) (by omega) rfl (fun c h1 h2 => if_neg (by omega)) hX)⟩
  split
  · exact key 0 _ (by omega) (by omega)
  · exact key (1 + v) _ (by omega) (by omega)
theorem t122 (h : pI k s x y E) (hk : k ≤ 100) : zcl 122 [.ref 1] (zmem x y E) (pO (k + 1) s) := by
  obtain ⟨d, b, n, qn, t, w, l, fc, nr, G, bl, L, xs, hG, hP, hB, hy, ⟨hd, hn, ht, hb, hpx⟩, hX⟩ := h
  have hS := hP.2.2.2.2.2
  rw [← yD_id hy]
  obtain ⟨p, hp, e1⟩ := cD (d := d) (n := 4) hS (by omega) (by omega) (by omega)
  obtain ⟨f, hf, e2⟩ := cD (d := d + 1) (n := 150) hS (by omega) (by omega) (by omega)
  have e13 : y 13 = x 13 := iRl_sh hG.2.2.2.2.2 (iSh_a (by omega) (by omega))
  have hK1 := fun (Q : zO → zM → Prop) (Y : zSt) (F : zEx) => a44 (x := x) (a := 20 + f) (Q := Q) (Y := Y) (E := F) hp (by omega) (by omega)
  rw [e122]
  simp (disch := omega) only [p122_0, p122_1, p122_2, p122_5, p122_6, p122_7, p122_10, p122_11, p122_12, p122_13, p122_14, p122_17, p122_18, p122_20, p122_21, p122_24, p122_27, p122_28, p122_29, p122_30, p122_33, p122_34, p122_35, p122_38, p122_39, p122_40, p122_43, p122_44, p122_47, p122_48, p122_51, p122_52, e1, e2, yD_rd, yD_su, su_get, u2_get, hK1, e13, l_dm_ok, l_dm_0, l_dm_1, l_dm_2, l_dm_2p, l_dm_3, l_dm_4, l_dm_4p, l_dm_5, l_dm_6, l_dm_6p, l_dm_7, l_dm_7p, l_dm_8, l_dm_8p, l_dm_9, l_dm_9p, l_dm_10, l_dm_11, l_dm_12, l_dm_13, l_dm_14, l_po_ok, l_po_0, l_po_1, l_po_2, l_po_2p, l_po_3, l_po_3p, l_po_4, l_po_4p, l_po_5, l_po_5p, l_po_6, l_po_6p, l_po_7, l_po_8, l_po_9, l_po_10, l_po_11, l_po_12, l_po_13, l_po_13p, l_po_14, l_po_15, l_po_16, l_po_17, l_po_17p, l_bxa_ar, l_bxa_ln, l_bxa_ia, l_bxa_e, l_lea_ar, l_lea_ln, l_lea_ia, l_lea_e, l_qua_ar, l_qua_ln, l_qua_ia, l_qua_e, l_bo_ar, l_bo_ln, l_bo_ia, l_bo_is, l_bo_e, l_bo_ep, l_fc_ar, l_fc_ln, l_fc_ia, l_fc_is, l_fc_e, l_fc_ep, l_pa_ar, l_pa_ln, l_pa_ia, l_pa_e, l_pa_ep, l_pa_e3, l_aga_ar, l_aga_ln, l_aga_ia, l_aga_e, l_ag_ar, l_ag_ln, l_ag_ia, l_ag_is, l_ag_e, l_ag_ep, l_nxa_ar, l_nxa_ln, l_nxa_ia, l_nxa_e, l_nx_ar, l_nx_ln, l_nx_ia, l_nx_is, l_nx_e, l_nx_ep, l_qt_ar, l_qt_ln, l_qt_ia, l_qt_is, l_qt_e, l_qt_ep, l_bn_ar, l_bn_ln, l_bn_ia, l_bn_is, l_bn_e, l_bn_ep, l_rl_ar, l_rl_ln, l_rl_ia, l_rl_e, l_rl_ep, l_rl_e3, l_bxo_ar, l_bxo_ln, l_bxo_ia, l_bxo_e, l_bxi_ar, l_bxi_ln, l_bxi_ia, l_bxi_e, l_bxi_ep, l_bxi_e3, l_gta_ar, l_gta_ln, l_gta_ia, l_gta_e, l_gt_ar, l_gt_ln, l_gt_ia, l_gt_e, l_gt_ep, zvi_int, zvl_long, zvd_double, zvr_ref, zisI_int, zisR_ref, zgI_int, zgR_ref, zkl_int, zkl_ref, zkl_none, zkl_long, zkl_double, zct_nil, zct_int, zct_ref, zct_long, zct_double, zbk_some, zbk_none, zbk_exc, nI_clamp, nI_add, nI_mul, true_and, and_true, Nat.reduceAdd, Nat.reduceMul, Nat.reduceLeDiff, Nat.reducePow, ↓reduceIte, Nat.zero_add, Nat.add_zero, Nat.reduceLT, Nat.reduceEqDiff, Nat.le_refl, zn10, zn01, zfitB0, zfitB1, znarB0, znarB1, Nat.lt_irrefl, ↓zvi_eq, ↓zvr_eq]
  have g := g44 (a := nI (20 + f)) hG hp
  rw [e13] at g
  exact ⟨rfl, _, _, _, rfl, pI_mk g (hP.mY (fun c _ _ _ h13 _ _ _ _ => if_neg h13)) (BL_eq (if_neg (by omega)) (if_neg (by omega)) hB) (by omega) hn hpx (by omega) (by omega) (iX_eq (x := x) (by omega) rfl (fun c h1 h2 => if_neg (by omega)) hX)⟩
theorem t123 (h : pI k s x y E) (hk : k ≤ 100) : zcl 123 [.ref 1] (zmem x y E) (pO (k + 1) s) := by
  obtain ⟨d, b, n, qn, t, w, l, fc, nr, G, bl, L, xs, hG, hP, hB, hy, ⟨hd, hn, ht, hb, hpx⟩, hX⟩ := h
  have hS := hP.2.2.2.2.2
  rw [← yD_id hy]
  obtain ⟨v, hv, e1⟩ := cD (d := d) (n := 15) hS (by omega) (by omega) (by omega)
  obtain ⟨a, ha, e2⟩ := cD (d := d + 1) (n := 15) hS (by omega) (by omega) (by omega)
  have e0 : y 0 = x 0 := iRl_sh hG.2.2.2.2.2 iSh_0
  have hK1 := fun (Q : zO → zM → Prop) (Y : zSt) (F : zEx) => a45 (x := x) (v := 1 + v) (a := a) (Q := Q) (Y := Y) (E := F) (by omega) (by omega) (by omega)
  rw [e123]
  simp (disch := omega) only [p123_0, p123_1, p123_4, p123_5, p123_6, p123_7, p123_8, p123_10, p123_13, p123_14, p123_17, p123_18, p123_19, p123_21, p123_24, p123_27, p123_28, p123_31, p123_32, p123_35, p123_36, p123_39, p123_42, p123_43, p123_46, p123_47, p123_50, p123_51, e1, e2, yD_rd, yD_su, su_get, u2_eq, hK1, e0, true_and, and_true, l_dm_ok, l_dm_0, l_dm_1, l_dm_2, l_dm_2p, l_dm_3, l_dm_4, l_dm_4p, l_dm_5, l_dm_6, l_dm_6p, l_dm_7, l_dm_7p, l_dm_8, l_dm_8p, l_dm_9, l_dm_9p, l_dm_10, l_dm_11, l_dm_12, l_dm_13, l_dm_14, l_po_ok, l_po_0, l_po_1, l_po_2, l_po_2p, l_po_3, l_po_3p, l_po_4, l_po_4p, l_po_5, l_po_5p, l_po_6, l_po_6p, l_po_7, l_po_8, l_po_9, l_po_10, l_po_11, l_po_12, l_po_13, l_po_13p, l_po_14, l_po_15, l_po_16, l_po_17, l_po_17p, l_bxa_ar, l_bxa_ln, l_bxa_ia, l_bxa_e, l_lea_ar, l_lea_ln, l_lea_ia, l_lea_e, l_qua_ar, l_qua_ln, l_qua_ia, l_qua_e, l_bo_ar, l_bo_ln, l_bo_ia, l_bo_is, l_bo_e, l_bo_ep, l_fc_ar, l_fc_ln, l_fc_ia, l_fc_is, l_fc_e, l_fc_ep, l_pa_ar, l_pa_ln, l_pa_ia, l_pa_e, l_pa_ep, l_pa_e3, l_aga_ar, l_aga_ln, l_aga_ia, l_aga_e, l_ag_ar, l_ag_ln, l_ag_ia, l_ag_is, l_ag_e, l_ag_ep, l_nxa_ar, l_nxa_ln, l_nxa_ia, l_nxa_e, l_nx_ar, l_nx_ln, l_nx_ia, l_nx_is, l_nx_e, l_nx_ep, l_qt_ar, l_qt_ln, l_qt_ia, l_qt_is, l_qt_e, l_qt_ep, l_bn_ar, l_bn_ln, l_bn_ia, l_bn_is, l_bn_e, l_bn_ep, l_rl_ar, l_rl_ln, l_rl_ia, l_rl_e, l_rl_ep, l_rl_e3, l_bxo_ar, l_bxo_ln, l_bxo_ia, l_bxo_e, l_bxi_ar, l_bxi_ln, l_bxi_ia, l_bxi_e, l_bxi_ep, l_bxi_e3, l_gta_ar, l_gta_ln, l_gta_ia, l_gta_e, l_gt_ar, l_gt_ln, l_gt_ia, l_gt_e, l_gt_ep, zvi_int, zvl_long, zvd_double, zvr_ref, zisI_int, zisR_ref, zgI_int, zgR_ref, zkl_int, zkl_ref, zkl_none, zkl_long, zkl_double, zct_nil, zct_int, zct_ref, zct_long, zct_double, zbk_some, zbk_none, zbk_exc, nI_clamp, nI_add, nI_mul, true_and, and_true, Nat.reduceAdd, Nat.reduceMul, Nat.reduceLeDiff, Nat.reducePow, ↓reduceIte, Nat.zero_add, Nat.add_zero, Nat.reduceLT, Nat.reduceEqDiff, Nat.le_refl, zn10, zn01, zfitB0, zfitB1, znarB0, znarB1, Nat.lt_irrefl, ↓zvi_eq, ↓zvr_eq]
  have g := g45 (v := 1 + v) (a := a) hG (by omega) (by omega)
  have e : xLi y (1 + v) a = su (su y 0 (u2 (x 0) 0 7 (nI (1 + v)))) 0 (u2 (u2 (x 0) 0 7 (nI (1 + v))) 0 8 (nI a)) := by unfold xLi; rw [e0]
  rw [← e]
  exact ⟨rfl, _, _, _, rfl, pI_mk g (hP.mY (fun c h0 _ _ _ _ _ _ _ => (if_neg h0).trans (if_neg h0))) (BL_eq rfl rfl hB) (by omega) hn hpx (by omega) (by omega) (iX_eq (x := x) (by omega) rfl (fun c h1 h2 => (if_neg (by omega)).trans (if_neg (by omega))) hX)⟩
end ZA
