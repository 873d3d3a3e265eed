/-! a message sent (source: wip/p35/src/280.sd.txt, by expand3.py) -/
section ZA
variable {E : zEx} {x y : zSt} {k s : Nat}
theorem rg_out {v : Int32} {l h : Nat} (hh : h < 1000) (e : rg v (nI l) (nI h) = true) : True := trivial
theorem t134m {d b n qn t w l : Nat} {a : Int32} {fc nr : Nat → Nat} {G : pG} {bl : Nat → Nat → List Nat} {L : Nat} {xs : Nat → Int32} (hG : cG n qn t w l fc nr b x y) (hP : PS E y G bl fc nr n L xs) (hB : BL bl n y) (hd : d + 20 ≤ 200 + 40 * k) (hn : n + 1 ≤ s) (hs : s ≤ 25) (hpx : pX y n nr) (ht : t ≤ 21 * k) (hb : b + 10 ≤ 2000 * (k + 1)) (hX : iXb x (8 * k - 8)) (hk0 : 1 ≤ k) (hk : k ≤ 101) (ha : a = -1 ∨ ∃ m, m < n ∧ a = nI m) : zwp zm_134 (41, [some (.ref 1), none, none, none, none, none, none, none, none, none, none], [.int a], zmem x (yD y d) E, 0, 0) (pO k s) := by
  have hS := hP.2.2.2.2.2
  obtain ⟨r1, r2, r3, ⟨hs4, hs4t, hs4n, hs4r⟩, r5, r6⟩ := id hP
  have har := fun x y => hs4.ar (x := x) (y := y) (Or.inl rfl)
  have hln := fun x y => hs4.ln (x := x) (y := y)
  obtain ⟨E1, k1, n1, v1, w1⟩ := nwI E 7
  obtain ⟨f, hf, e1⟩ := cD (d := d) (n := 5) (k1.S hS) (by omega) (by omega) (by omega)
  obtain ⟨E2, n2, k2, v2, w2⟩ := ptI v1 0 (nI f)
  have K2 := k2 E k1 (by omega)
  obtain ⟨to, hto, e2⟩ := cD (d := d + 1) (n := 16) (K2.S hS) (by omega) (by omega) (by omega)
  obtain ⟨E3, n3, k3, v3, w3⟩ := ptI v2 1 (nI to)
  have K3 := k3 E K2 (by omega)
  obtain ⟨sj, hsj, e3⟩ := cD (d := d + 1 + 1) (n := 5) (K3.S hS) (by omega) (by omega) (by omega)
  obtain ⟨E4, n4, k4, v4, w4⟩ := ptI v3 2 (nI sj)
  have K4 := k4 E K3 (by omega)
  obtain ⟨wo, hwo, e4⟩ := cD (d := d + 1 + 1 + 1) (n := 256) (K4.S hS) (by omega) (by omega) (by omega)
  obtain ⟨E5, n5, k5, v5, w5⟩ := ptI v4 3 (nI wo)
  have K5 := k5 E K4 (by omega)
  obtain ⟨sz, hsz, e5⟩ := cD (d := d + 1 + 1 + 1 + 1) (n := 40) (K5.S hS) (by omega) (by omega) (by omega)
  obtain ⟨E6, n6, k6, v6, w6⟩ := ptI v5 4 (nI (1 + sz))
  have K6 := k6 E K5 (by omega)
  obtain ⟨E7, n7, k7, v7, w7⟩ := ptI v6 5 (y 0 0 6)
  have K7 := k7 E K6 (by omega)
  obtain ⟨E8, n8, k8, v8, w8⟩ := ptI v7 6 a
  have K8 := k8 E K7 (by omega)
  have i1 := fun x y => v1.ia (x := x) (y := y) (j := 0) (by omega)
  have i2 := fun x y => v2.ia (x := x) (y := y) (j := 1) (by omega)
  have i3 := fun x y => v3.ia (x := x) (y := y) (j := 2) (by omega)
  have i4 := fun x y => v4.ia (x := x) (y := y) (j := 3) (by omega)
  have i5 := fun x y => v5.ia (x := x) (y := y) (j := 4) (by omega)
  have i6 := fun x y => v6.ia (x := x) (y := y) (j := 5) (by omega)
  have i7 := fun x y => v7.ia (x := x) (y := y) (j := 6) (by omega)
  obtain ⟨E9, k9, v9, n9, w9⟩ := c116 (K8.R hs4) (fun j hj => K8.T (hs4r j hj).1.T) v8.T (by omega)
  have K9 := K8.trans k9
  obtain ⟨F, hF⟩ : ∃ F, F = eR E9 4 0 0 (476 + E8.1 + 1) := ⟨_, rfl⟩
  have vF : vR F (476 + E8.1 + 1) 40 (n + 1) (fun j => if j = n then 476 + E.1 + 1 else G.2.2.1 j) := by rw [hF]; exact v9.refs
  have harF := fun x y => vF.ar (x := x) (y := y) (Or.inl rfl)
  have hlnF := fun x y => vF.ln (x := x) (y := y)
  have eF : ∀ x y, zmem x y (eR E9 4 0 0 (476 + E8.1 + 1)) = zmem x y F := fun x y => by rw [hF]
  have rF : F.2.2.2 4 0 0 = 476 + E8.1 + 1 := by rw [hF]; exact eR_n
  obtain ⟨E10, k10, n10, v10, w10⟩ := nwI F 40
  -- the store with the new message
  obtain ⟨y0, hy0⟩ : ∃ y0, y0 = su (wLe y n (nI f) (nI sj) (nI wo) (nI (1 + sz)) a (nI t)) 39 (u2 (y 39) 0 n (nI to)) := ⟨_, rfl⟩
  obtain ⟨hn0, h60, hq0, h20, ht0, ht9, hw0, hw50, hl0, hl100⟩ := id hG.1
  have ey0 : y 0 = x 0 := (cG_25 hG).2.2.2.1
  have eyt : y 0 0 6 = nI t := by rw [ey0]; exact ht0
  have hyo : ∀ c, ¬ (30 ≤ c ∧ c ≤ 39) → y0 c = y c := fun c hc => by
    rw [hy0, su_eq, if_neg (by omega), wLe_o _ _ _ _ _ _ _ _ (by omega)]
  have hyi : ∀ c i, ¬ i = n → y0 c 0 i = y c 0 i := fun c i hi => by
    rw [hy0, su_eq]
    by_cases c39 : c = 39
    · subst c39
      rw [if_pos rfl, u2_eq, if_neg (fun z => hi z.2)]
    · rw [if_neg c39, wLe_q _ _ _ _ _ _ _ _ _ _ _ (fun z => hi z.2.2.2)]
  have hrow : ∀ j, j < 7 → rw7 y0 n j = if j = 6 then a else if j = 5 then y 0 0 6 else if j = 4 then nI (1 + sz) else if j = 3 then nI wo else if j = 2 then nI sj else if j = 1 then nI to else if j = 0 then nI f else 0 := fun j hj => by
    rw [eyt, hy0]
    rcases (show j = 0 ∨ j = 1 ∨ j = 2 ∨ j = 3 ∨ j = 4 ∨ j = 5 ∨ j = 6 by omega) with e | e | e | e | e | e | e <;> subst e
    · exact (u2_get : u2 (y 30) 0 n (nI f) 0 n = nI f)
    · exact (u2_get : u2 (y 39) 0 n (nI to) 0 n = nI to)
    · exact (u2_get : u2 (y 31) 0 n (nI sj) 0 n = nI sj)
    · exact (u2_get : u2 (y 32) 0 n (nI wo) 0 n = nI wo)
    · exact (u2_get : u2 (y 33) 0 n (nI (1 + sz)) 0 n = nI (1 + sz))
    · exact (u2_get : u2 (y 35) 0 n (nI t) 0 n = nI t)
    · exact (u2_get : u2 (y 34) 0 n a 0 n = a)
  have vits : vI F (476 + E.1 + 1) 7 (rw7 y0 n) := by
    rw [hF]
    exact ((k9.I v8).cg hrow).refs
  have hF1 : F.1 = E9.1 := by rw [hF]; rfl
  have hE9 := K9.1
  obtain ⟨G9, hP9, hG9⟩ : ∃ G9, PS F y0 G9 bl fc nr (n + 1) L xs ∧ G9.1 (476 + E.1 + 1) = 0 := by
    rw [hF]
    exact ⟨_, ((((hP.mW (a := 476 + E.1 + 1) (v := 0) (by omega)).mL K8).mW (a := 476 + E8.1 + 1) (v := 0) (by omega)).mL k9).sen (y' := y0) (b' := 476 + E.1 + 1) hyo hyi v9 tU_n ((k9.I v8).cg hrow) ((tU_o (by omega)).trans tU_n) (by omega), (tU_o (by omega)).trans tU_n⟩
  have hP10 := (hP9.mW (a := 476 + F.1 + 1) (v := 5) (by omega)).mL k10
  have hits : tU G9.1 (476 + F.1 + 1) 5 (476 + E.1 + 1) = 0 := (tU_o (by omega)).trans hG9
  -- the class's side
  have hL : lOK (nI f) (nI sj) (nI wo) (nI (1 + sz)) = true := by
    unfold lOK
    rw [rg_in (by omega) (by omega) (by omega), rg_in (by omega) (by omega) (by omega), rg_in (by omega) (by omega) (by omega), rg_in (by omega) (by omega) (by omega)]
    rfl
  obtain ⟨X1, hX1⟩ : ∃ X1, X1 = su (wLe x n (nI f) (nI sj) (nI wo) (nI (1 + sz)) a (nI t)) 0 (u2 (x 0) 0 2 (nI (n + 1))) := ⟨_, rfl⟩
  have hcN : cG (n + 1) qn t w l fc nr b X1 (mBu n y0) := by
    rw [hX1]
    refine cG_yy (cG_new (by omega) hG hL ha) (fun c h2 h4 h39 => ?_)
    by_cases c0 : c = 0
    · subst c0
      rw [hy0]
      rfl
    · rw [mBu_o _ _ c0, mBu_o _ _ c0, hy0, su_eq, if_neg h39]
      funext q i
      by_cases hq : 30 ≤ c ∧ c ≤ 35 ∧ q = 0 ∧ i = n
      · obtain ⟨c1, c2, rfl, rfl⟩ := hq
        rcases (show c = 30 ∨ c = 31 ∨ c = 32 ∨ c = 33 ∨ c = 34 ∨ c = 35 by omega) with e | e | e | e | e | e <;> subst e <;> rfl
      · rw [wLe_q _ _ _ _ _ _ _ _ _ _ _ hq, wLe_q _ _ _ _ _ _ _ _ _ _ _ hq, mTh_o _ _ h2]
  obtain ⟨cS, cB, cR, cL, cQ, cRl⟩ := id hcN
  have hjo := fun (p : Nat) (hp : p < 4) => iRu_jd (lf := sLf X1 n) (w := -1) (by have := (hG.2.1 p hp).2.1; omega) (cR p hp)
  have hJe : ∀ p, p < 4 → yJ y0 n nr p = sJd (xRu X1 p) (sLf X1 n) (-1) (nr p) 0 zJ0 := fun p hp => by
    have := rJ (m := 0) (fc := fc) (i := n) (i' := n) (w := -1) hp (cR p hp) cRl (fun j hj => cRl.2.1 (30 + j) n (by omega) (by omega) (by omega))
    have hsl : sLf (mBu n y0) n = sLf y0 n := funext fun j => by unfold sLf; rw [mBu_o n _ (by omega)]
    rw [hsl] at this
    exact this
  have hJ : ∀ p, p < 4 → jOK (fc p) (yJ y0 n nr p) := fun p hp => by rw [hJe p hp]; exact hjo p hp
  have hJ6 : ∀ p, p < 4 → (yJ y0 n nr p).2.2.2.length ≤ 6 := fun p hp => sJd_len _ _ _ _ 0 _ (by have := (hG.2.2.1 p hp).1.2.1; omega) (Nat.le_refl 0)
  have h25 : ∀ p, p < 4 → y 25 p n = -1 := fun p hp => by
    rw [(cG_25 hG).1]
    rcases (hG.2.1 p hp).1.2.2.2.1 n (by omega) with e | ⟨e, -⟩
    · exact e
    · omega
  have hB0 : BL bl (n + 1) y0 := fun p g hp hg => by
    rw [hyo 25 (by omega), hyo 26 (by omega)]
    refine ⟨fun i => ?_, (hB p g hp hg).2⟩
    rw [(hB p g hp hg).1 i]
    refine ⟨fun z => ⟨by omega, z.2⟩, fun z => ⟨?_, z.2⟩⟩
    by_cases e : i = n
    · rw [e, h25 p hp] at z
      exact absurd z.2.symm (nI_m1 (by omega))
    · omega
  have hpx0 : (∀ p r, p < 4 → r < nr p → (∃ k, k < 5 ∧ y0 18 p r = nI k) ∧ (y0 18 p r = nI 2 → ∃ a, a < 8 ∧ y0 19 p r = nI a)) ∧ (∀ i, i < n + 1 → ∃ w, w < 256 ∧ y0 32 0 i = nI w) := by
    rw [hyo 18 (by omega), hyo 19 (by omega)]
    refine ⟨hpx.1, fun i hi => ?_⟩
    by_cases e : i = n
    · subst e
      exact ⟨wo, hwo, hrow 3 (by omega)⟩
    · rw [hyi 32 i e]
      exact hpx.2.1 i (by omega)
  have h21 : ∀ p r, p < 4 → r < nr p → ∃ k, k < 5 ∧ y0 21 p r = nI k := fun p r hp hr => by
    rw [hyo 21 (by omega), (hG.2.2.2.2.2.2.2 p r hp hr).2.2.2.1]
    exact ((hG.2.2.1 p hp).2.2 r hr).1
  have h34 : y0 34 0 n = -1 ∨ ∃ k, k < 100 ∧ y0 34 0 n = nI k := by
    rw [show y0 34 0 n = a from hrow 6 (by omega)]
    rcases ha with e | ⟨m, hm, e⟩
    · exact Or.inl e
    · exact Or.inr ⟨m, by omega, e⟩
  obtain ⟨hi1, hi2, hi3, hi4⟩ := mIni_ok (nI to) 4
  have hX0 : iXb y0 (8 * k - 8) := by
    obtain ⟨g25, g26, g16, g0, g27, g24, g28⟩ := cG_25 hG
    refine iXb_eq (by rw [hyo 0 (by omega), g0]) (fun c h1 h2 => ?_) hX
    rw [hyo c (by omega)]
    rcases (show c = 24 ∨ c = 25 ∨ c = 26 ∨ c = 27 ∨ c = 28 by omega) with e | e | e | e | e <;> subst e <;> assumption
  have fin : zwp zm_134 (137, [some (.ref 1), some (.int a), some (.ref (476 + E.1 + 1)), some (.int (nI n)), some (.ref (476 + F.1 + 1)), some (.int (nI (mIni (nI to) 0).length)), some (.int (nI 0)), none, none, none, none], [], zmem x (yD y0 (d + 1 + 1 + 1 + 1 + 1)) E10, 3, 73) (pO k s) := by
    refine b_in hto (show rw7 y0 n 1 = nI to from hrow 1 (by omega)) hits tU_n 4 0 E10 _ (by omega) hP10 (k10.I vits) v10 (fun j hj => absurd hj (Nat.not_lt_zero _)) (fun E' g' hP' vc' vq' hg' => ?_)
    refine q_lp (J := fun p => yJ y0 n nr p) (y0 := y0) (a30 := f) (b := b) (B := 8 * k - 8) rfl (by omega) (by omega) (by omega) (fun p hp => (hG.2.1 p hp).1.2.1) hJ hJ6 (fun p hp => rfl) hpx0 h21 h34 (by omega) (show y0 30 0 n = nI f from hrow 0 (by omega)) 100 (mIni (nI to) 4) [] 0 _ y0 E' _ bl X1 g' (by have : ([] : List Nat).length = 0 := rfl; omega) List.nodup_nil (fun p hp => by cases hp) hi3 (Nat.zero_add _) (by have : ([] : List Nat).length = 0 := rfl; omega) rfl (fun c hc => rfl) rfl (fun p hp => by
      rw [if_neg (fun z => by cases z), hyo 24 (by omega)]
      exact hpx.2.2.1 p n hp (Nat.le_refl _) (by omega)) (fun p hp _ => by rw [hyo 25 (by omega)]; exact h25 p hp) hP' hB0 vq' (fun j hj => by rw [Nat.zero_add]; exact hg' j hj) tU_n vc' hits hcN hX0 (fun VF yF E2' G2' bl2 X' e' v7 v8 v9 v10 uc us hVF hyF hVl vc2 hP2 hB2 hG2 hX2 hyc2 _ huc hus => ?_) none none none none rfl rfl rfl rfl
    have hll : VF = rLp (xGo X1 n nr) 4 0 (rIni (nI to) 4) := by
      rw [hVF]
      have hG4 : ∀ p, p < 4 → ((yJ y0 n nr p).2.2.2.map (fun v => v.toNatClampNeg)).length ≤ 6 ∧ ∀ k, k ∈ (yJ y0 n nr p).2.2.2.map (fun v => v.toNatClampNeg) → k < 4 := fun p hp => by
        refine ⟨by rw [List.length_map]; exact hJ6 p hp, fun k hk => ?_⟩
        obtain ⟨v, hv, ev⟩ := List.mem_map.mp hk
        obtain ⟨z, hz, ez⟩ := (hJ p hp).2.2.2 v hv
        rw [ez, nI_clamp (by omega)] at ev
        omega
      have := rQu_eq hG4 100 (mIni (nI to) 4) [] 4 List.nodup_nil (fun p hp => by cases hp) hi3 (by have : ([] : List Nat).length = 0 := rfl; omega) rfl
      rw [this, hi2, ← hi1]
      have hlen0 : ([] : List Nat).length = 0 := rfl
      rw [hlen0]
      refine rLp_ext (fun p hp => ?_) (fun p hp => (hG4 p hp).2) 4 0 _ (rIni_ok (nI to) 4 (Nat.le_refl 4)).2
      unfold xGo
      rw [hJe p hp]
    obtain ⟨XF, ll, J', X1', hX1', hJ', -, hll', hlld, hll4, hcF, hKF⟩ := a50 (Y := yD yF (d + 1 + 1 + 1 + 1 + 1)) (E := E2') (to := to) (tt := 0) (by omega) hG (by omega) hto hL ha
    rw [← hX1] at hX1'
    rw [hX1', ← hll] at hll'
    rw [hll'] at hcF hll4
    have hcF2 : cG (n + 1) qn t w l fc nr (b + VF.length) XF (mBu n yF) := by
      refine cG_yy hcF (fun c h2 h4 h39 => ?_)
      have q1 : VF.foldl (fun Y p => mKp (pM Y (J' p)) p n n) (wLe (mTh y 0) n (nI f) (nI sj) (nI wo) (nI (1 + sz)) a (nI t)) = VF.foldl (fun Y p => mKp (pM Y (yJ y0 n nr p)) p n n) (wLe (mTh y 0) n (nI f) (nI sj) (nI wo) (nI (1 + sz)) a (nI t)) := zfoldl VF _ (fun Y p hp => by rw [hJ' p, hX1', hJe p (hll4 p hp)])
      have q2 := fold_q (J := fun p => yJ y0 n nr p) (m := n) VF (wLe (mTh y 0) n (nI f) (nI sj) (nI wo) (nI (1 + sz)) a (nI t)) _ (fun c _ _ => rfl)
      have q3 := fold_S (S := fun c => ¬ c = 2 ∧ ¬ c = 4 ∧ ¬ c = 39) (fun c hc => by omega) (J := fun p => yJ y0 n nr p) (m := n) VF (wLe (mTh y 0) n (nI f) (nI sj) (nI wo) (nI (1 + sz)) a (nI t)) y0 (fun c hc => by
        rw [hy0, su_eq, if_neg hc.2.2]
        funext q i
        by_cases hq : 30 ≤ c ∧ c ≤ 35 ∧ q = 0 ∧ i = n
        · obtain ⟨c1, c2, rfl, rfl⟩ := hq
          rcases (show c = 30 ∨ c = 31 ∨ c = 32 ∨ c = 33 ∨ c = 34 ∨ c = 35 by omega) with e | e | e | e | e | e <;> subst e <;> rfl
        · rw [wLe_q _ _ _ _ _ _ _ _ _ _ _ hq, wLe_q _ _ _ _ _ _ _ _ _ _ _ hq, mTh_o _ _ hc.1])
      have q4 : ∀ c, ¬ c = 2 → ¬ c = 4 → ¬ c = 39 → yF c = (VF.foldl (fun Y p => mKp (pM Y (J' p)) p n n) (wLe (mTh y 0) n (nI f) (nI sj) (nI wo) (nI (1 + sz)) a (nI t))) c := fun c h2 h4 h39 => by
        rw [q1, q2 c h2 h4, q3 c ⟨h2, h4, h39⟩, hyF]
      by_cases c0 : c = 0
      · subst c0
        unfold mBu
        rw [su_eq, if_pos rfl, su_eq, if_pos rfl, q4 0 (by omega) (by omega) (by omega)]
      · rw [mBu_o _ _ c0, mBu_o _ _ c0]
        exact q4 c h2 h4 h39
    have j0 := fun x y => vc2.is (x := x) (y := y) (j := 0) (by omega)
    have j1 := fun x y => vc2.is (x := x) (y := y) (j := 1) (by omega)
    have j2 := fun x y => vc2.is (x := x) (y := y) (j := 2) (by omega)
    have j3 := fun x y => vc2.is (x := x) (y := y) (j := 3) (by omega)
    have j4 := fun x y => vc2.is (x := x) (y := y) (j := 4) (by omega)
    have l0 : ∀ X Y, zrd (zmem X Y E2') (476 + E.1 + 1) 0 = .int (nI f) := fun X Y => (vc2.rd (x := X) (y := Y) (j := 0) (by omega)).trans (congrArg Value.int (hrow 0 (by omega)))
    have l1 : ∀ X Y, zrd (zmem X Y E2') (476 + E.1 + 1) 1 = .int (nI to) := fun X Y => (vc2.rd (x := X) (y := Y) (j := 1) (by omega)).trans (congrArg Value.int (hrow 1 (by omega)))
    have l2 : ∀ X Y, zrd (zmem X Y E2') (476 + E.1 + 1) 2 = .int (nI sj) := fun X Y => (vc2.rd (x := X) (y := Y) (j := 2) (by omega)).trans (congrArg Value.int (hrow 2 (by omega)))
    have l3 : ∀ X Y, zrd (zmem X Y E2') (476 + E.1 + 1) 3 = .int (nI wo) := fun X Y => (vc2.rd (x := X) (y := Y) (j := 3) (by omega)).trans (congrArg Value.int (hrow 3 (by omega)))
    have l4 : ∀ X Y, zrd (zmem X Y E2') (476 + E.1 + 1) 4 = .int (nI (1 + sz)) := fun X Y => (vc2.rd (x := X) (y := Y) (j := 4) (by omega)).trans (congrArg Value.int (hrow 4 (by omega)))
    rw [p134_250]
    simp (disch := omega) only [p134_0, p134_1, p134_4, p134_5, p134_7, p134_10, p134_11, p134_12, p134_13, p134_16, p134_17, p134_20, p134_21, p134_22, p134_25, p134_28, p134_29, p134_30, p134_33, p134_34, p134_37, p134_40, p134_41, p134_42, p134_44, p134_46, p134_46i, p134_47, p134_48, p134_49, p134_50, p134_53, p134_54, p134_54i, p134_55, p134_56, p134_57, p134_59, p134_62, p134_63, p134_63i, p134_64, p134_65, p134_66, p134_67, p134_70, p134_71, p134_71i, p134_72, p134_73, p134_74, p134_77, p134_80, p134_81, p134_81i, p134_82, p134_83, p134_84, p134_85, p134_87, p134_90, p134_91, p134_92, p134_92i, p134_93, p134_94, p134_95, p134_98, p134_99, p134_99i, p134_100, p134_102, p134_103, p134_104, p134_105, p134_106, p134_107, p134_110, p134_111, p134_114, p134_117, p134_118, p134_121, p134_122, p134_123, p134_124, p134_125, p134_127, p134_129, p134_131, p134_132, p134_134, p134_135, p134_137, p134_139, p134_140, p134_143, p134_144, p134_145, p134_146, p134_147, p134_149, p134_150, p134_151, p134_152, p134_153, p134_154, p134_157, p134_159, p134_161, p134_164, p134_166, p134_167, p134_170, p134_173, p134_174, p134_176, p134_178, p134_180, p134_183, p134_184, p134_185, p134_187, p134_190, p134_191, p134_193, p134_195, p134_196, p134_197, p134_200, p134_201, p134_204, p134_206, p134_208, p134_209, p134_211, p134_212, p134_214, p134_216, p134_218, p134_221, p134_223, p134_225, p134_226, p134_228, p134_230, p134_232, p134_235, p134_237, p134_238, p134_241, p134_244, p134_247, p134_251, p134_254, p134_255, p134_256, p134_257, p134_258, p134_259, p134_260, p134_261, p134_262, p134_263, p134_264, p134_265, p134_266, p134_267, p134_268, p134_269, p134_270, p134_273, p134_274, p134_277, p134_278, p134_281, p134_282, j0, j1, j2, j3, j4, l0, l1, l2, l3, l4, hKF, l_dm_ok, l_dm_0, l_dm_1, l_dm_2, l_dm_2p, l_dm_3, l_dm_4, l_dm_4p, l_dm_5, l_dm_6, l_dm_6p, l_dm_7, l_dm_7p, l_dm_8, l_dm_8p, l_dm_9, l_dm_9p, l_dm_10, l_dm_11, l_dm_12, l_dm_13, l_dm_14, l_po_ok, l_po_0, l_po_1, l_po_2, l_po_2p, l_po_3, l_po_3p, l_po_4, l_po_4p, l_po_5, l_po_5p, l_po_6, l_po_6p, l_po_7, l_po_8, l_po_9, l_po_10, l_po_11, l_po_12, l_po_13, l_po_13p, l_po_14, l_po_15, l_po_16, l_po_17, l_po_17p, l_bxa_ar, l_bxa_ln, l_bxa_ia, l_bxa_e, l_lea_ar, l_lea_ln, l_lea_ia, l_lea_e, l_qua_ar, l_qua_ln, l_qua_ia, l_qua_e, l_bo_ar, l_bo_ln, l_bo_ia, l_bo_is, l_bo_e, l_bo_ep, l_fc_ar, l_fc_ln, l_fc_ia, l_fc_is, l_fc_e, l_fc_ep, l_pa_ar, l_pa_ln, l_pa_ia, l_pa_e, l_pa_ep, l_pa_e3, l_aga_ar, l_aga_ln, l_aga_ia, l_aga_e, l_ag_ar, l_ag_ln, l_ag_ia, l_ag_is, l_ag_e, l_ag_ep, l_nxa_ar, l_nxa_ln, l_nxa_ia, l_nxa_e, l_nx_ar, l_nx_ln, l_nx_ia, l_nx_is, l_nx_e, l_nx_ep, l_qt_ar, l_qt_ln, l_qt_ia, l_qt_is, l_qt_e, l_qt_ep, l_bn_ar, l_bn_ln, l_bn_ia, l_bn_is, l_bn_e, l_bn_ep, l_rl_ar, l_rl_ln, l_rl_ia, l_rl_e, l_rl_ep, l_rl_e3, l_bxo_ar, l_bxo_ln, l_bxo_ia, l_bxo_e, l_bxi_ar, l_bxi_ln, l_bxi_ia, l_bxi_e, l_bxi_ep, l_bxi_e3, l_gta_ar, l_gta_ln, l_gta_ia, l_gta_e, l_gt_ar, l_gt_ln, l_gt_ia, l_gt_e, l_gt_ep, zvi_int, zvl_long, zvd_double, zvr_ref, zisI_int, zisR_ref, zgI_int, zgR_ref, zkl_int, zkl_ref, zkl_none, zkl_long, zkl_double, zct_nil, zct_int, zct_ref, zct_long, zct_double, zbk_some, zbk_none, zbk_exc, nI_clamp, nI_add, nI_mul, true_and, and_true, Nat.reduceAdd, Nat.reduceMul, Nat.reduceLeDiff, Nat.reducePow, ↓reduceIte, Nat.zero_add, Nat.add_zero, Nat.reduceLT, Nat.reduceEqDiff, Nat.le_refl, zn10, zn01, zfitB0, zfitB1, znarB0, znarB1, Nat.lt_irrefl, ↓zvi_eq, ↓zvr_eq]
    refine ⟨by omega, by omega, rfl, XF, _, E2', gh_of (y' := mBu n yF) (fun c q i hno => ?_), pI_mk hcF2 (hP2.mY (fun c h0 _ _ _ _ _ _ _ => mBu_o _ _ h0)) (BL_eq (mBu_o _ _ (by omega)) (mBu_o _ _ (by omega)) hB2) (by omega) (by omega) ⟨?_, ?_, ?_, fun p hp => by rw [mBu_o _ _ (by omega), hyc2 14 (by omega), hyo 14 (by omega)]; exact hpx.2.2.2 p hp⟩ (by omega) (by omega) ?_⟩
    · by_cases c0 : c = 0
      · subst c0
        rw [mBu_0 _ _ _ _ (by omega)]
      · rw [mBu_o _ _ c0]
    · rw [mBu_o _ _ (by omega), mBu_o _ _ (by omega), hyc2 18 (by omega), hyc2 19 (by omega)]
      exact hpx0.1
    · rw [mBu_o _ _ (by omega), hyc2 32 (by omega)]
      exact hpx0.2
    · intro p i hp h1 h2
      rw [mBu_o _ _ (by omega), hyF, fold_24 (by omega), hyo 24 (by omega)]
      exact hpx.2.2.1 p i hp (by omega) h2
    · obtain ⟨g25, g26, g16, g0, g27, g24, g28⟩ := cG_25 hcF2
      rw [mBu_o _ _ (by omega)] at g25 g26 g27 g24 g28
      refine iX_iff.mpr (iXb_le (iXb_eq (x := yF) ?_ (fun c h1 h2 => ?_) hX2) (by omega))
      · rw [← g0, mBu_0 _ _ _ _ (by omega)]
      · rcases (show c = 24 ∨ c = 25 ∨ c = 26 ∨ c = 27 ∨ c = 28 by omega) with e | e | e | e | e <;> subst e
        · exact g24.symm
        · exact g25.symm
        · exact g26.symm
        · exact g27.symm
        · exact g28.symm
  have p7 : (0 : Int32) ≤ nI 7 := by decide
  have p40 : (0 : Int32) ≤ nI 40 := by decide
  have em : zmem x (yD y (d + 1 + 1 + 1 + 1 + 1)) E10 = zmem x (yD y0 (d + 1 + 1 + 1 + 1 + 1)) E10 := gh_of (fun c q i hno => by rw [hyo c (by omega)])
  have er8 : E8.2.2.2 4 0 0 = E.2.2.2 4 0 0 := K8.rf 4 0 0
  have hs1 : nI (n + 1) - nI 1 = nI n := by rw [nI_sub (by omega)]; rfl
  rw [← em] at fin
  simp (disch := omega) only [p134_0, p134_1, p134_4, p134_5, p134_7, p134_10, p134_11, p134_12, p134_13, p134_16, p134_17, p134_20, p134_21, p134_22, p134_25, p134_28, p134_29, p134_30, p134_33, p134_34, p134_37, p134_40, p134_41, p134_42, p134_44, p134_46, p134_46i, p134_47, p134_48, p134_49, p134_50, p134_53, p134_54, p134_54i, p134_55, p134_56, p134_57, p134_59, p134_62, p134_63, p134_63i, p134_64, p134_65, p134_66, p134_67, p134_70, p134_71, p134_71i, p134_72, p134_73, p134_74, p134_77, p134_80, p134_81, p134_81i, p134_82, p134_83, p134_84, p134_85, p134_87, p134_90, p134_91, p134_92, p134_92i, p134_93, p134_94, p134_95, p134_98, p134_99, p134_99i, p134_100, p134_102, p134_103, p134_104, p134_105, p134_106, p134_107, p134_110, p134_111, p134_114, p134_117, p134_118, p134_121, p134_122, p134_123, p134_124, p134_125, p134_127, p134_129, p134_131, p134_132, p134_134, p134_135, p134_139, p134_140, p134_143, p134_144, p134_145, p134_146, p134_147, p134_149, p134_150, p134_151, p134_152, p134_153, p134_154, p134_157, p134_159, p134_161, p134_164, p134_166, p134_167, p134_170, p134_173, p134_174, p134_176, p134_178, p134_180, p134_183, p134_184, p134_185, p134_187, p134_190, p134_191, p134_193, p134_195, p134_196, p134_197, p134_200, p134_201, p134_204, p134_206, p134_208, p134_209, p134_211, p134_212, p134_214, p134_216, p134_218, p134_221, p134_223, p134_225, p134_226, p134_228, p134_230, p134_232, p134_235, p134_237, p134_238, p134_241, p134_244, p134_247, p134_250, p134_251, p134_254, p134_255, p134_256, p134_257, p134_258, p134_259, p134_260, p134_261, p134_262, p134_263, p134_264, p134_265, p134_266, p134_267, p134_268, p134_269, p134_270, p134_273, p134_274, p134_277, p134_278, p134_281, p134_282, har, hln, e1, e2, e3, e4, e5, w1, w2, w3, w4, w5, w6, w7, w8, i1, i2, i3, i4, i5, i6, i7, w9, eF, er8, harF, hlnF, rF, hs1, w10, zmem_c, p7, p40, yD_rd, l_dm_ok, l_dm_0, l_dm_1, l_dm_2, l_dm_2p, l_dm_3, l_dm_4, l_dm_4p, l_dm_5, l_dm_6, l_dm_6p, l_dm_7, l_dm_7p, l_dm_8, l_dm_8p, l_dm_9, l_dm_9p, l_dm_10, l_dm_11, l_dm_12, l_dm_13, l_dm_14, l_po_ok, l_po_0, l_po_1, l_po_2, l_po_2p, l_po_3, l_po_3p, l_po_4, l_po_4p, l_po_5, l_po_5p, l_po_6, l_po_6p, l_po_7, l_po_8, l_po_9, l_po_10, l_po_11, l_po_12, l_po_13, l_po_13p, l_po_14, l_po_15, l_po_16, l_po_17, l_po_17p, l_bxa_ar, l_bxa_ln, l_bxa_ia, l_bxa_e, l_lea_ar, l_lea_ln, l_lea_ia, l_lea_e, l_qua_ar, l_qua_ln, l_qua_ia, l_qua_e, l_bo_ar, l_bo_ln, l_bo_ia, l_bo_is, l_bo_e, l_bo_ep, l_fc_ar, l_fc_ln, l_fc_ia, l_fc_is, l_fc_e, l_fc_ep, l_pa_ar, l_pa_ln, l_pa_ia, l_pa_e, l_pa_ep, l_pa_e3, l_aga_ar, l_aga_ln, l_aga_ia, l_aga_e, l_ag_ar, l_ag_ln, l_ag_ia, l_ag_is, l_ag_e, l_ag_ep, l_nxa_ar, l_nxa_ln, l_nxa_ia, l_nxa_e, l_nx_ar, l_nx_ln, l_nx_ia, l_nx_is, l_nx_e, l_nx_ep, l_qt_ar, l_qt_ln, l_qt_ia, l_qt_is, l_qt_e, l_qt_ep, l_bn_ar, l_bn_ln, l_bn_ia, l_bn_is, l_bn_e, l_bn_ep, l_rl_ar, l_rl_ln, l_rl_ia, l_rl_e, l_rl_ep, l_rl_e3, l_bxo_ar, l_bxo_ln, l_bxo_ia, l_bxo_e, l_bxi_ar, l_bxi_ln, l_bxi_ia, l_bxi_e, l_bxi_ep, l_bxi_e3, l_gta_ar, l_gta_ln, l_gta_ia, l_gta_e, l_gt_ar, l_gt_ln, l_gt_ia, l_gt_e, l_gt_ep, zvi_int, zvl_long, zvd_double, zvr_ref, zisI_int, zisR_ref, zgI_int, zgR_ref, zkl_int, zkl_ref, zkl_none, zkl_long, zkl_double, zct_nil, zct_int, zct_ref, zct_long, zct_double, zbk_some, zbk_none, zbk_exc, nI_clamp, nI_add, nI_mul, true_and, and_true, Nat.reduceAdd, Nat.reduceMul, Nat.reduceLeDiff, Nat.reducePow, ↓reduceIte, Nat.zero_add, Nat.add_zero, Nat.reduceLT, Nat.reduceEqDiff, Nat.le_refl, zn10, zn01, zfitB0, zfitB1, znarB0, znarB1, Nat.lt_irrefl, ↓zvi_eq, ↓zvr_eq]
  exact fin
theorem t134 (h : pI k s x y E) (hk : k ≤ 100) (hs : s < 25) : zcl 134 [.ref 1] (zmem x y E) (pO (k + 1) (s + 1)) := by
  obtain ⟨d, b, n, qn, t, w, l, fc, nr, G, bl, L, xs, hG, hP, hB, hy, ⟨hd, hn, ht, hb, hpx⟩, hX⟩ := h
  have hS := hP.2.2.2.2.2
  rw [← yD_id hy]
  obtain ⟨hs4, hs4t, hs4n, hs4r⟩ := hP.2.2.2.1
  have har := fun x y => hs4.ar (x := x) (y := y) (Or.inl rfl)
  have hln := fun x y => hs4.ln (x := x) (y := y)
  have main := fun (d' : Nat) (a : Int32) (hd' : d' ≤ d + 2) (ha : a = -1 ∨ ∃ m, m < n ∧ a = nI m) => t134m (k := k + 1) (s := s + 1) (d := d') hG hP hB (by omega) (by omega) (by omega) hpx (by omega) (by omega) (show iXb x (8 * (k + 1) - 8) from iX_iff.mp hX) (by omega) (by omega) ha
  have h60 := nI_ne (show ¬ n = 60 by omega) (by omega) (by omega)
  rw [e134]
  by_cases h0 : n = 0
  · have hlt : (nI 0 < nI n) = False := eq_false (nI_nlt (by omega) (by omega))
    simp (disch := omega) only [p134_0, p134_1, p134_4, p134_5, p134_7, p134_10, p134_11, p134_12, p134_13, p134_16, p134_17, p134_20, p134_21, p134_22, p134_25, p134_28, p134_29, p134_30, p134_33, p134_34, p134_37, p134_40, p134_42, p134_44, p134_46, p134_46i, p134_47, p134_48, p134_49, p134_50, p134_53, p134_54, p134_54i, p134_55, p134_56, p134_57, p134_59, p134_62, p134_63, p134_63i, p134_64, p134_65, p134_66, p134_67, p134_70, p134_71, p134_71i, p134_72, p134_73, p134_74, p134_77, p134_80, p134_81, p134_81i, p134_82, p134_83, p134_84, p134_85, p134_87, p134_90, p134_91, p134_92, p134_92i, p134_93, p134_94, p134_95, p134_98, p134_99, p134_99i, p134_100, p134_102, p134_103, p134_104, p134_105, p134_106, p134_107, p134_110, p134_111, p134_114, p134_117, p134_118, p134_121, p134_122, p134_123, p134_124, p134_125, p134_127, p134_129, p134_131, p134_132, p134_134, p134_135, p134_137, p134_139, p134_140, p134_143, p134_144, p134_145, p134_146, p134_147, p134_149, p134_150, p134_151, p134_152, p134_153, p134_154, p134_157, p134_159, p134_161, p134_164, p134_166, p134_167, p134_170, p134_173, p134_174, p134_176, p134_178, p134_180, p134_183, p134_184, p134_185, p134_187, p134_190, p134_191, p134_193, p134_195, p134_196, p134_197, p134_200, p134_201, p134_204, p134_206, p134_208, p134_209, p134_211, p134_212, p134_214, p134_216, p134_218, p134_221, p134_223, p134_225, p134_226, p134_228, p134_230, p134_232, p134_235, p134_237, p134_238, p134_241, p134_244, p134_247, p134_250, p134_251, p134_254, p134_255, p134_256, p134_257, p134_258, p134_259, p134_260, p134_261, p134_262, p134_263, p134_264, p134_265, p134_266, p134_267, p134_268, p134_269, p134_270, p134_273, p134_274, p134_277, p134_278, p134_281, p134_282, har, hln, h60, hlt, l_dm_ok, l_dm_0, l_dm_1, l_dm_2, l_dm_2p, l_dm_3, l_dm_4, l_dm_4p, l_dm_5, l_dm_6, l_dm_6p, l_dm_7, l_dm_7p, l_dm_8, l_dm_8p, l_dm_9, l_dm_9p, l_dm_10, l_dm_11, l_dm_12, l_dm_13, l_dm_14, l_po_ok, l_po_0, l_po_1, l_po_2, l_po_2p, l_po_3, l_po_3p, l_po_4, l_po_4p, l_po_5, l_po_5p, l_po_6, l_po_6p, l_po_7, l_po_8, l_po_9, l_po_10, l_po_11, l_po_12, l_po_13, l_po_13p, l_po_14, l_po_15, l_po_16, l_po_17, l_po_17p, l_bxa_ar, l_bxa_ln, l_bxa_ia, l_bxa_e, l_lea_ar, l_lea_ln, l_lea_ia, l_lea_e, l_qua_ar, l_qua_ln, l_qua_ia, l_qua_e, l_bo_ar, l_bo_ln, l_bo_ia, l_bo_is, l_bo_e, l_bo_ep, l_fc_ar, l_fc_ln, l_fc_ia, l_fc_is, l_fc_e, l_fc_ep, l_pa_ar, l_pa_ln, l_pa_ia, l_pa_e, l_pa_ep, l_pa_e3, l_aga_ar, l_aga_ln, l_aga_ia, l_aga_e, l_ag_ar, l_ag_ln, l_ag_ia, l_ag_is, l_ag_e, l_ag_ep, l_nxa_ar, l_nxa_ln, l_nxa_ia, l_nxa_e, l_nx_ar, l_nx_ln, l_nx_ia, l_nx_is, l_nx_e, l_nx_ep, l_qt_ar, l_qt_ln, l_qt_ia, l_qt_is, l_qt_e, l_qt_ep, l_bn_ar, l_bn_ln, l_bn_ia, l_bn_is, l_bn_e, l_bn_ep, l_rl_ar, l_rl_ln, l_rl_ia, l_rl_e, l_rl_ep, l_rl_e3, l_bxo_ar, l_bxo_ln, l_bxo_ia, l_bxo_e, l_bxi_ar, l_bxi_ln, l_bxi_ia, l_bxi_e, l_bxi_ep, l_bxi_e3, l_gta_ar, l_gta_ln, l_gta_ia, l_gta_e, l_gt_ar, l_gt_ln, l_gt_ia, l_gt_e, l_gt_ep, zvi_int, zvl_long, zvd_double, zvr_ref, zisI_int, zisR_ref, zgI_int, zgR_ref, zkl_int, zkl_ref, zkl_none, zkl_long, zkl_double, zct_nil, zct_int, zct_ref, zct_long, zct_double, zbk_some, zbk_none, zbk_exc, nI_clamp, nI_add, nI_mul, true_and, and_true, Nat.reduceAdd, Nat.reduceMul, Nat.reduceLeDiff, Nat.reducePow, ↓reduceIte, Nat.zero_add, Nat.add_zero, Nat.reduceLT, Nat.reduceEqDiff, Nat.le_refl, zn10, zn01, zfitB0, zfitB1, znarB0, znarB1, Nat.lt_irrefl, ↓zvi_eq, ↓zvr_eq]
    exact main d (-1) (by omega) (Or.inl rfl)
  · have hlt : (nI 0 < nI n) = True := eq_true (nI_lt (by omega) (by omega))
    obtain ⟨u, hu, e1⟩ := cD (d := d) (n := 3) hS (by omega) (by omega) (by omega)
    obtain ⟨m, hm, e2⟩ := cD (d := d + 1) (n := n) hS (by omega) (by omega) (by omega)
    by_cases hu0 : u = 0
    · subst hu0
      simp (disch := omega) only [p134_0, p134_1, p134_4, p134_5, p134_7, p134_10, p134_11, p134_12, p134_13, p134_16, p134_17, p134_20, p134_21, p134_22, p134_25, p134_28, p134_29, p134_30, p134_33, p134_34, p134_37, p134_40, p134_42, p134_44, p134_46, p134_46i, p134_47, p134_48, p134_49, p134_50, p134_53, p134_54, p134_54i, p134_55, p134_56, p134_57, p134_59, p134_62, p134_63, p134_63i, p134_64, p134_65, p134_66, p134_67, p134_70, p134_71, p134_71i, p134_72, p134_73, p134_74, p134_77, p134_80, p134_81, p134_81i, p134_82, p134_83, p134_84, p134_85, p134_87, p134_90, p134_91, p134_92, p134_92i, p134_93, p134_94, p134_95, p134_98, p134_99, p134_99i, p134_100, p134_102, p134_103, p134_104, p134_105, p134_106, p134_107, p134_110, p134_111, p134_114, p134_117, p134_118, p134_121, p134_122, p134_123, p134_124, p134_125, p134_127, p134_129, p134_131, p134_132, p134_134, p134_135, p134_137, p134_139, p134_140, p134_143, p134_144, p134_145, p134_146, p134_147, p134_149, p134_150, p134_151, p134_152, p134_153, p134_154, p134_157, p134_159, p134_161, p134_164, p134_166, p134_167, p134_170, p134_173, p134_174, p134_176, p134_178, p134_180, p134_183, p134_184, p134_185, p134_187, p134_190, p134_191, p134_193, p134_195, p134_196, p134_197, p134_200, p134_201, p134_204, p134_206, p134_208, p134_209, p134_211, p134_212, p134_214, p134_216, p134_218, p134_221, p134_223, p134_225, p134_226, p134_228, p134_230, p134_232, p134_235, p134_237, p134_238, p134_241, p134_244, p134_247, p134_250, p134_251, p134_254, p134_255, p134_256, p134_257, p134_258, p134_259, p134_260, p134_261, p134_262, p134_263, p134_264, p134_265, p134_266, p134_267, p134_268, p134_269, p134_270, p134_273, p134_274, p134_277, p134_278, p134_281, p134_282, har, hln, h60, hlt, e1, e2, l_dm_ok, l_dm_0, l_dm_1, l_dm_2, l_dm_2p, l_dm_3, l_dm_4, l_dm_4p, l_dm_5, l_dm_6, l_dm_6p, l_dm_7, l_dm_7p, l_dm_8, l_dm_8p, l_dm_9, l_dm_9p, l_dm_10, l_dm_11, l_dm_12, l_dm_13, l_dm_14, l_po_ok, l_po_0, l_po_1, l_po_2, l_po_2p, l_po_3, l_po_3p, l_po_4, l_po_4p, l_po_5, l_po_5p, l_po_6, l_po_6p, l_po_7, l_po_8, l_po_9, l_po_10, l_po_11, l_po_12, l_po_13, l_po_13p, l_po_14, l_po_15, l_po_16, l_po_17, l_po_17p, l_bxa_ar, l_bxa_ln, l_bxa_ia, l_bxa_e, l_lea_ar, l_lea_ln, l_lea_ia, l_lea_e, l_qua_ar, l_qua_ln, l_qua_ia, l_qua_e, l_bo_ar, l_bo_ln, l_bo_ia, l_bo_is, l_bo_e, l_bo_ep, l_fc_ar, l_fc_ln, l_fc_ia, l_fc_is, l_fc_e, l_fc_ep, l_pa_ar, l_pa_ln, l_pa_ia, l_pa_e, l_pa_ep, l_pa_e3, l_aga_ar, l_aga_ln, l_aga_ia, l_aga_e, l_ag_ar, l_ag_ln, l_ag_ia, l_ag_is, l_ag_e, l_ag_ep, l_nxa_ar, l_nxa_ln, l_nxa_ia, l_nxa_e, l_nx_ar, l_nx_ln, l_nx_ia, l_nx_is, l_nx_e, l_nx_ep, l_qt_ar, l_qt_ln, l_qt_ia, l_qt_is, l_qt_e, l_qt_ep, l_bn_ar, l_bn_ln, l_bn_ia, l_bn_is, l_bn_e, l_bn_ep, l_rl_ar, l_rl_ln, l_rl_ia, l_rl_e, l_rl_ep, l_rl_e3, l_bxo_ar, l_bxo_ln, l_bxo_ia, l_bxo_e, l_bxi_ar, l_bxi_ln, l_bxi_ia, l_bxi_e, l_bxi_ep, l_bxi_e3, l_gta_ar, l_gta_ln, l_gta_ia, l_gta_e, l_gt_ar, l_gt_ln, l_gt_ia, l_gt_e, l_gt_ep, zvi_int, zvl_long, zvd_double, zvr_ref, zisI_int, zisR_ref, zgI_int, zgR_ref, zkl_int, zkl_ref, zkl_none, zkl_long, zkl_double, zct_nil, zct_int, zct_ref, zct_long, zct_double, zbk_some, zbk_none, zbk_exc, nI_clamp, nI_add, nI_mul, true_and, and_true, Nat.reduceAdd, Nat.reduceMul, Nat.reduceLeDiff, Nat.reducePow, ↓reduceIte, Nat.zero_add, Nat.add_zero, Nat.reduceLT, Nat.reduceEqDiff, Nat.le_refl, zn10, zn01, zfitB0, zfitB1, znarB0, znarB1, Nat.lt_irrefl, ↓zvi_eq, ↓zvr_eq]
      exact main (d + 1 + 1) (nI m) (by omega) (Or.inr ⟨m, hm, rfl⟩)
    · have hun := nI_ne hu0 (by omega) (by omega)
      simp (disch := omega) only [p134_0, p134_1, p134_4, p134_5, p134_7, p134_10, p134_11, p134_12, p134_13, p134_16, p134_17, p134_20, p134_21, p134_22, p134_25, p134_28, p134_29, p134_30, p134_33, p134_34, p134_37, p134_40, p134_42, p134_44, p134_46, p134_46i, p134_47, p134_48, p134_49, p134_50, p134_53, p134_54, p134_54i, p134_55, p134_56, p134_57, p134_59, p134_62, p134_63, p134_63i, p134_64, p134_65, p134_66, p134_67, p134_70, p134_71, p134_71i, p134_72, p134_73, p134_74, p134_77, p134_80, p134_81, p134_81i, p134_82, p134_83, p134_84, p134_85, p134_87, p134_90, p134_91, p134_92, p134_92i, p134_93, p134_94, p134_95, p134_98, p134_99, p134_99i, p134_100, p134_102, p134_103, p134_104, p134_105, p134_106, p134_107, p134_110, p134_111, p134_114, p134_117, p134_118, p134_121, p134_122, p134_123, p134_124, p134_125, p134_127, p134_129, p134_131, p134_132, p134_134, p134_135, p134_137, p134_139, p134_140, p134_143, p134_144, p134_145, p134_146, p134_147, p134_149, p134_150, p134_151, p134_152, p134_153, p134_154, p134_157, p134_159, p134_161, p134_164, p134_166, p134_167, p134_170, p134_173, p134_174, p134_176, p134_178, p134_180, p134_183, p134_184, p134_185, p134_187, p134_190, p134_191, p134_193, p134_195, p134_196, p134_197, p134_200, p134_201, p134_204, p134_206, p134_208, p134_209, p134_211, p134_212, p134_214, p134_216, p134_218, p134_221, p134_223, p134_225, p134_226, p134_228, p134_230, p134_232, p134_235, p134_237, p134_238, p134_241, p134_244, p134_247, p134_250, p134_251, p134_254, p134_255, p134_256, p134_257, p134_258, p134_259, p134_260, p134_261, p134_262, p134_263, p134_264, p134_265, p134_266, p134_267, p134_268, p134_269, p134_270, p134_273, p134_274, p134_277, p134_278, p134_281, p134_282, har, hln, h60, hlt, e1, hun, l_dm_ok, l_dm_0, l_dm_1, l_dm_2, l_dm_2p, l_dm_3, l_dm_4, l_dm_4p, l_dm_5, l_dm_6, l_dm_6p, l_dm_7, l_dm_7p, l_dm_8, l_dm_8p, l_dm_9, l_dm_9p, l_dm_10, l_dm_11, l_dm_12, l_dm_13, l_dm_14, l_po_ok, l_po_0, l_po_1, l_po_2, l_po_2p, l_po_3, l_po_3p, l_po_4, l_po_4p, l_po_5, l_po_5p, l_po_6, l_po_6p, l_po_7, l_po_8, l_po_9, l_po_10, l_po_11, l_po_12, l_po_13, l_po_13p, l_po_14, l_po_15, l_po_16, l_po_17, l_po_17p, l_bxa_ar, l_bxa_ln, l_bxa_ia, l_bxa_e, l_lea_ar, l_lea_ln, l_lea_ia, l_lea_e, l_qua_ar, l_qua_ln, l_qua_ia, l_qua_e, l_bo_ar, l_bo_ln, l_bo_ia, l_bo_is, l_bo_e, l_bo_ep, l_fc_ar, l_fc_ln, l_fc_ia, l_fc_is, l_fc_e, l_fc_ep, l_pa_ar, l_pa_ln, l_pa_ia, l_pa_e, l_pa_ep, l_pa_e3, l_aga_ar, l_aga_ln, l_aga_ia, l_aga_e, l_ag_ar, l_ag_ln, l_ag_ia, l_ag_is, l_ag_e, l_ag_ep, l_nxa_ar, l_nxa_ln, l_nxa_ia, l_nxa_e, l_nx_ar, l_nx_ln, l_nx_ia, l_nx_is, l_nx_e, l_nx_ep, l_qt_ar, l_qt_ln, l_qt_ia, l_qt_is, l_qt_e, l_qt_ep, l_bn_ar, l_bn_ln, l_bn_ia, l_bn_is, l_bn_e, l_bn_ep, l_rl_ar, l_rl_ln, l_rl_ia, l_rl_e, l_rl_ep, l_rl_e3, l_bxo_ar, l_bxo_ln, l_bxo_ia, l_bxo_e, l_bxi_ar, l_bxi_ln, l_bxi_ia, l_bxi_e, l_bxi_ep, l_bxi_e3, l_gta_ar, l_gta_ln, l_gta_ia, l_gta_e, l_gt_ar, l_gt_ln, l_gt_ia, l_gt_e, l_gt_ep, zvi_int, zvl_long, zvd_double, zvr_ref, zisI_int, zisR_ref, zgI_int, zgR_ref, zkl_int, zkl_ref, zkl_none, zkl_long, zkl_double, zct_nil, zct_int, zct_ref, zct_long, zct_double, zbk_some, zbk_none, zbk_exc, nI_clamp, nI_add, nI_mul, true_and, and_true, Nat.reduceAdd, Nat.reduceMul, Nat.reduceLeDiff, Nat.reducePow, ↓reduceIte, Nat.zero_add, Nat.add_zero, Nat.reduceLT, Nat.reduceEqDiff, Nat.le_refl, zn10, zn01, zfitB0, zfitB1, znarB0, znarB1, Nat.lt_irrefl, ↓zvi_eq, ↓zvr_eq]
      exact main (d + 1) (-1) (by omega) (Or.inl rfl)
end ZA
