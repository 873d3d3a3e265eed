/-! exceptions on their way, the two cells of answers: by program (wip/whole/gen/emit_x.py) -/
def zLo (E : zEx) (v : Int64) : zEx := (E.1, E.2.1, E.2.2.1, v, E.2.2.2.2)
def zDo (E : zEx) (v : UInt64) : zEx := (E.1, E.2.1, E.2.2.1, E.2.2.2.1, v)
theorem zLo_id (E : zEx) : zLo E E.2.2.2.1 = E := rfl
theorem zDo_id (E : zEx) : zDo E E.2.2.2.2 = E := rfl
section ZO
variable {x y : zSt} {E : zEx}
theorem zo_ia : zia (zmem x y E) 21 438 (nI 0) = True := zmem_ia (n := 1) (by decide) (by decide) (by decide +kernel) (by decide) (by decide)
theorem zo_iad : zia (zmem x y E) 22 439 (nI 0) = True := zmem_ia (n := 1) (by decide) (by decide) (by decide +kernel) (by decide) (by decide)
theorem zo_e : zrd (zmem x y E) 438 0 = .long E.2.2.2.1 := by
  rw [zmem_rd ⟨by decide, by decide, by decide +kernel⟩]
  unfold zlay
  rw [show zdc 438 0 = (4, 0, 0, 0) by decide +kernel]
  rfl
theorem zo_ed : zrd (zmem x y E) 439 0 = .double E.2.2.2.2 := by
  rw [zmem_rd ⟨by decide, by decide, by decide +kernel⟩]
  unfold zlay
  rw [show zdc 439 0 = (5, 0, 0, 0) by decide +kernel]
  rfl
theorem zo_ck : (List.range 440).all (fun a => (List.range (zdk a).2).all (fun j => (a == 0) || ((zdc a j).1 == 0 || (zdc a j).1 == 1 || (zdc a j).1 == 2 || (zdc a j).1 == 3) || (a == 438 && j == 0 && (zdc a j).1 == 4) || (a == 439 && j == 0 && (zdc a j).1 == 5))) = true := by decide +kernel
theorem zo_k {a j : Nat} (h : zin a j) : ((zdc a j).1 = 0 ∨ (zdc a j).1 = 1 ∨ (zdc a j).1 = 2 ∨ (zdc a j).1 = 3) ∨ (a = 438 ∧ j = 0 ∧ (zdc a j).1 = 4) ∨ (a = 439 ∧ j = 0 ∧ (zdc a j).1 = 5) := by
  have e := List.all_eq_true.mp (List.all_eq_true.mp zo_ck a (List.mem_range.mpr (by have := h.2.1; omega))) j (List.mem_range.mpr h.2.2)
  have h1 := h.1
  simp only [Bool.or_eq_true, Bool.and_eq_true, beq_iff_eq] at e
  omega
theorem zo_ep {v : Int64} : zput (zmem x y E) 438 0 (.long v) = zmem x y (zLo E v) := by
  refine zM_ext rfl rfl (fun a j => ?_)
  show (if a = 438 ∧ j = 0 then .long v else (if zin a j then zlay x y E a j else E.2.2.1 a j)) = (if zin a j then zlay x y (zLo E v) a j else E.2.2.1 a j)
  by_cases hz : zin a j
  · rw [if_pos hz, if_pos hz]
    unfold zlay
    rcases zo_k hz with h | ⟨h1, h2, h3⟩ | ⟨h1, h2, h3⟩
    · rw [if_neg (fun q => by
        obtain ⟨rfl, rfl⟩ := q
        rw [show zdc 438 0 = (4, 0, 0, 0) by decide +kernel] at h
        simp at h)]
      rcases h with h | h | h | h <;> rw [h] <;> rfl
    · rw [if_pos ⟨h1, h2⟩, h3]; rfl
    · rw [if_neg (fun q => by omega), h3]; rfl
  · rw [if_neg hz, if_neg hz, if_neg (fun q => hz (by rw [q.1, q.2]; exact ⟨by decide, by decide, by decide +kernel⟩))]
theorem zo_epd {v : UInt64} : zput (zmem x y E) 439 0 (.double v) = zmem x y (zDo E v) := by
  refine zM_ext rfl rfl (fun a j => ?_)
  show (if a = 439 ∧ j = 0 then .double v else (if zin a j then zlay x y E a j else E.2.2.1 a j)) = (if zin a j then zlay x y (zDo E v) a j else E.2.2.1 a j)
  by_cases hz : zin a j
  · rw [if_pos hz, if_pos hz]
    unfold zlay
    rcases zo_k hz with h | ⟨h1, h2, h3⟩ | ⟨h1, h2, h3⟩
    · rw [if_neg (fun q => by
        obtain ⟨rfl, rfl⟩ := q
        rw [show zdc 439 0 = (5, 0, 0, 0) by decide +kernel] at h
        simp at h)]
      rcases h with h | h | h | h <;> rw [h] <;> rfl
    · rw [if_neg (fun q => by omega), h3]; rfl
    · rw [if_pos ⟨h1, h2⟩, h3]; rfl
  · rw [if_neg hz, if_neg hz, if_neg (fun q => hz (by rw [q.1, q.2]; exact ⟨by decide, by decide, by decide +kernel⟩))]
end ZO
section ZX
variable {M : zM} {Q : zO → zM → Prop} {uc us pc e : Nat} {L : zL}
theorem zout_hn {K : zI} {L' : zL} {h n len : Nat} {k : Fin 4} (hne : ¬ zk_hs K = []) (hh : zhnd (zk_own K) pc e (zk_hs K) = some h) (hl : zlk (zk_cd K) h = some (.astore_n k, len)) (hk : k.val < L.length) (hL : zst1 L k.val none = L') (hn : h + 1 = n) : zout K e pc L M uc us Q ↔ zwp K (n, L', [], M, uc, us) Q := by
  refine zout_hs ?_
  unfold zcat
  rw [if_neg hne, hh]
  dsimp only
  rw [hl]
  dsimp only
  rw [if_pos hk, hL, hn]
  rfl
theorem zout_ha {K : zI} {L' : zL} {h n len k : Nat} (hne : ¬ zk_hs K = []) (hh : zhnd (zk_own K) pc e (zk_hs K) = some h) (hl : zlk (zk_cd K) h = some (.astore k, len)) (hk : k < L.length) (hL : zst1 L k none = L') (hn : h + 2 = n) : zout K e pc L M uc us Q ↔ zwp K (n, L', [], M, uc, us) Q := by
  refine zout_hs ?_
  unfold zcat
  rw [if_neg hne, hh]
  dsimp only
  rw [hl]
  dsimp only
  rw [if_pos hk, hL, hn]
  rfl
theorem x41 : zout zm_41 e pc L M uc us Q ↔ (uc ≤ 4 ∧ us ≤ 24) ∧ Q (.inr e) M := zout_no rfl e pc L M uc us Q
theorem x42 : zout zm_42 e pc L M uc us Q ↔ (uc ≤ 5 ∧ us ≤ 30) ∧ Q (.inr e) M := zout_no rfl e pc L M uc us Q
theorem x43 : zout zm_43 e pc L M uc us Q ↔ (uc ≤ 3 ∧ us ≤ 18) ∧ Q (.inr e) M := zout_no rfl e pc L M uc us Q
theorem x44 : zout zm_44 e pc L M uc us Q ↔ (uc ≤ 2 ∧ us ≤ 12) ∧ Q (.inr e) M := zout_no rfl e pc L M uc us Q
theorem x45 : zout zm_45 e pc L M uc us Q ↔ (uc ≤ 2 ∧ us ≤ 12) ∧ Q (.inr e) M := zout_no rfl e pc L M uc us Q
theorem x46 : zout zm_46 e pc L M uc us Q ↔ (uc ≤ 4 ∧ us ≤ 24) ∧ Q (.inr e) M := zout_no rfl e pc L M uc us Q
theorem x47 : zout zm_47 e pc L M uc us Q ↔ (uc ≤ 2 ∧ us ≤ 12) ∧ Q (.inr e) M := zout_no rfl e pc L M uc us Q
theorem x48 : zout zm_48 e pc L M uc us Q ↔ (uc ≤ 1 ∧ us ≤ 6) ∧ Q (.inr e) M := zout_no rfl e pc L M uc us Q
theorem x49 : zout zm_49 e pc L M uc us Q ↔ (uc ≤ 3 ∧ us ≤ 18) ∧ Q (.inr e) M := zout_no rfl e pc L M uc us Q
theorem x50 : zout zm_50 e pc L M uc us Q ↔ (uc ≤ 7 ∧ us ≤ 42) ∧ Q (.inr e) M := zout_no rfl e pc L M uc us Q
theorem x51 : zout zm_51 e pc L M uc us Q ↔ (uc ≤ 1 ∧ us ≤ 6) ∧ Q (.inr e) M := zout_no rfl e pc L M uc us Q
theorem x52 : zout zm_52 e pc L M uc us Q ↔ (uc ≤ 3 ∧ us ≤ 18) ∧ Q (.inr e) M := zout_no rfl e pc L M uc us Q
theorem x53 : zout zm_53 e pc L M uc us Q ↔ (uc ≤ 3 ∧ us ≤ 18) ∧ Q (.inr e) M := zout_no rfl e pc L M uc us Q
theorem x54 : zout zm_54 e pc L M uc us Q ↔ (uc ≤ 2 ∧ us ≤ 12) ∧ Q (.inr e) M := zout_no rfl e pc L M uc us Q
theorem x55 : zout zm_55 e pc L M uc us Q ↔ (uc ≤ 0 ∧ us ≤ 0) ∧ Q (.inr e) M := zout_no rfl e pc L M uc us Q
theorem x56 : zout zm_56 e pc L M uc us Q ↔ (uc ≤ 3 ∧ us ≤ 18) ∧ Q (.inr e) M := zout_no rfl e pc L M uc us Q
theorem x57 : zout zm_57 e pc L M uc us Q ↔ (uc ≤ 3 ∧ us ≤ 18) ∧ Q (.inr e) M := zout_no rfl e pc L M uc us Q
theorem x58 : zout zm_58 e pc L M uc us Q ↔ (uc ≤ 1 ∧ us ≤ 6) ∧ Q (.inr e) M := zout_no rfl e pc L M uc us Q
theorem x59 : zout zm_59 e pc L M uc us Q ↔ (uc ≤ 1 ∧ us ≤ 6) ∧ Q (.inr e) M := zout_no rfl e pc L M uc us Q
theorem x60 : zout zm_60 e pc L M uc us Q ↔ (uc ≤ 0 ∧ us ≤ 0) ∧ Q (.inr e) M := zout_no rfl e pc L M uc us Q
theorem x61 : zout zm_61 e pc L M uc us Q ↔ (uc ≤ 2 ∧ us ≤ 12) ∧ Q (.inr e) M := zout_no rfl e pc L M uc us Q
theorem x62 : zout zm_62 e pc L M uc us Q ↔ (uc ≤ 1 ∧ us ≤ 6) ∧ Q (.inr e) M := zout_no rfl e pc L M uc us Q
theorem x63 : zout zm_63 e pc L M uc us Q ↔ (uc ≤ 3 ∧ us ≤ 18) ∧ Q (.inr e) M := zout_no rfl e pc L M uc us Q
theorem x64 : zout zm_64 e pc L M uc us Q ↔ (uc ≤ 2 ∧ us ≤ 12) ∧ Q (.inr e) M := zout_no rfl e pc L M uc us Q
theorem x65 : zout zm_65 e pc L M uc us Q ↔ (uc ≤ 2 ∧ us ≤ 12) ∧ Q (.inr e) M := zout_no rfl e pc L M uc us Q
theorem x66 : zout zm_66 e pc L M uc us Q ↔ (uc ≤ 3 ∧ us ≤ 18) ∧ Q (.inr e) M := zout_no rfl e pc L M uc us Q
theorem x67 : zout zm_67 e pc L M uc us Q ↔ (uc ≤ 1 ∧ us ≤ 6) ∧ Q (.inr e) M := zout_no rfl e pc L M uc us Q
theorem x68 : zout zm_68 e pc L M uc us Q ↔ (uc ≤ 5 ∧ us ≤ 30) ∧ Q (.inr e) M := zout_no rfl e pc L M uc us Q
theorem x69 : zout zm_69 e pc L M uc us Q ↔ (uc ≤ 5 ∧ us ≤ 30) ∧ Q (.inr e) M := zout_no rfl e pc L M uc us Q
theorem x70 : zout zm_70 e pc L M uc us Q ↔ (uc ≤ 2 ∧ us ≤ 12) ∧ Q (.inr e) M := zout_no rfl e pc L M uc us Q
theorem x71 : zout zm_71 e pc L M uc us Q ↔ (uc ≤ 2 ∧ us ≤ 12) ∧ Q (.inr e) M := zout_no rfl e pc L M uc us Q
theorem x72 : zout zm_72 e pc L M uc us Q ↔ (uc ≤ 0 ∧ us ≤ 0) ∧ Q (.inr e) M := zout_no rfl e pc L M uc us Q
theorem x73 : zout zm_73 e pc L M uc us Q ↔ (uc ≤ 1 ∧ us ≤ 6) ∧ Q (.inr e) M := zout_no rfl e pc L M uc us Q
theorem x74 : zout zm_74 e pc L M uc us Q ↔ (uc ≤ 1 ∧ us ≤ 6) ∧ Q (.inr e) M := zout_no rfl e pc L M uc us Q
theorem x75 : zout zm_75 e pc L M uc us Q ↔ (uc ≤ 1 ∧ us ≤ 6) ∧ Q (.inr e) M := zout_no rfl e pc L M uc us Q
theorem x76 : zout zm_76 e pc L M uc us Q ↔ (uc ≤ 1 ∧ us ≤ 6) ∧ Q (.inr e) M := zout_no rfl e pc L M uc us Q
theorem x77 : zout zm_77 e pc L M uc us Q ↔ (uc ≤ 1 ∧ us ≤ 6) ∧ Q (.inr e) M := zout_no rfl e pc L M uc us Q
theorem x78 : zout zm_78 e pc L M uc us Q ↔ (uc ≤ 1 ∧ us ≤ 6) ∧ Q (.inr e) M := zout_no rfl e pc L M uc us Q
theorem x79 : zout zm_79 e pc L M uc us Q ↔ (uc ≤ 1 ∧ us ≤ 6) ∧ Q (.inr e) M := zout_no rfl e pc L M uc us Q
theorem x80 : zout zm_80 e pc L M uc us Q ↔ (uc ≤ 1 ∧ us ≤ 6) ∧ Q (.inr e) M := zout_no rfl e pc L M uc us Q
theorem x81 : zout zm_81 e pc L M uc us Q ↔ (uc ≤ 4 ∧ us ≤ 24) ∧ Q (.inr e) M := zout_no rfl e pc L M uc us Q
theorem x87 : zout zm_87 e pc L M uc us Q ↔ (uc ≤ 1 ∧ us ≤ 6) ∧ Q (.inr e) M := zout_no rfl e pc L M uc us Q
theorem x182_12 {l0 l1 l2 l3 l4 : Option Value} : zout zm_182 12 5 [l0, l1, l2, l3, l4] M uc us Q ↔ zwp zm_182 (15, [l0, l1, l2, zkl l3, none], [], M, uc, us) Q := zout_ha (by decide +kernel) (h := 13) (show zhnd (zk_own zm_182) 5 12 (zk_hs zm_182) = some 13 by decide +kernel) (show zlk (zk_cd zm_182) 13 = some (.astore 4, 2) by decide +kernel) (Nat.le_of_ble_eq_true rfl) rfl rfl
theorem x182_13 {l0 l1 l2 l3 l4 : Option Value} : zout zm_182 13 5 [l0, l1, l2, l3, l4] M uc us Q ↔ zwp zm_182 (19, [l0, l1, l2, zkl l3, none], [], M, uc, us) Q := zout_ha (by decide +kernel) (h := 17) (show zhnd (zk_own zm_182) 5 13 (zk_hs zm_182) = some 17 by decide +kernel) (show zlk (zk_cd zm_182) 17 = some (.astore 4, 2) by decide +kernel) (Nat.le_of_ble_eq_true rfl) rfl rfl
theorem x182_14 {l0 l1 l2 l3 l4 : Option Value} : zout zm_182 14 5 [l0, l1, l2, l3, l4] M uc us Q ↔ zwp zm_182 (23, [l0, l1, l2, zkl l3, none], [], M, uc, us) Q := zout_ha (by decide +kernel) (h := 21) (show zhnd (zk_own zm_182) 5 14 (zk_hs zm_182) = some 21 by decide +kernel) (show zlk (zk_cd zm_182) 21 = some (.astore 4, 2) by decide +kernel) (Nat.le_of_ble_eq_true rfl) rfl rfl
theorem x183_12 {l0 l1 l2 l3 l4 l5 : Option Value} : zout zm_183 12 7 [l0, l1, l2, l3, l4, l5] M uc us Q ↔ zwp zm_183 (17, [l0, l1, l2, l3, zkl l4, none], [], M, uc, us) Q := zout_ha (by decide +kernel) (h := 15) (show zhnd (zk_own zm_183) 7 12 (zk_hs zm_183) = some 15 by decide +kernel) (show zlk (zk_cd zm_183) 15 = some (.astore 5, 2) by decide +kernel) (Nat.le_of_ble_eq_true rfl) rfl rfl
theorem x183_13 {l0 l1 l2 l3 l4 l5 : Option Value} : zout zm_183 13 7 [l0, l1, l2, l3, l4, l5] M uc us Q ↔ zwp zm_183 (21, [l0, l1, l2, l3, zkl l4, none], [], M, uc, us) Q := zout_ha (by decide +kernel) (h := 19) (show zhnd (zk_own zm_183) 7 13 (zk_hs zm_183) = some 19 by decide +kernel) (show zlk (zk_cd zm_183) 19 = some (.astore 5, 2) by decide +kernel) (Nat.le_of_ble_eq_true rfl) rfl rfl
theorem x184_12 {l0 l1 l2 l3 l4 l5 : Option Value} : zout zm_184 12 7 [l0, l1, l2, l3, l4, l5] M uc us Q ↔ zwp zm_184 (17, [l0, l1, l2, l3, zkl l4, none], [], M, uc, us) Q := zout_ha (by decide +kernel) (h := 15) (show zhnd (zk_own zm_184) 7 12 (zk_hs zm_184) = some 15 by decide +kernel) (show zlk (zk_cd zm_184) 15 = some (.astore 5, 2) by decide +kernel) (Nat.le_of_ble_eq_true rfl) rfl rfl
theorem x184_13 {l0 l1 l2 l3 l4 l5 : Option Value} : zout zm_184 13 7 [l0, l1, l2, l3, l4, l5] M uc us Q ↔ zwp zm_184 (21, [l0, l1, l2, l3, zkl l4, none], [], M, uc, us) Q := zout_ha (by decide +kernel) (h := 19) (show zhnd (zk_own zm_184) 7 13 (zk_hs zm_184) = some 19 by decide +kernel) (show zlk (zk_cd zm_184) 19 = some (.astore 5, 2) by decide +kernel) (Nat.le_of_ble_eq_true rfl) rfl rfl
theorem x185_12 {l0 l1 l2 l3 l4 : Option Value} : zout zm_185 12 5 [l0, l1, l2, l3, l4] M uc us Q ↔ zwp zm_185 (15, [l0, l1, l2, zkl l3, none], [], M, uc, us) Q := zout_ha (by decide +kernel) (h := 13) (show zhnd (zk_own zm_185) 5 12 (zk_hs zm_185) = some 13 by decide +kernel) (show zlk (zk_cd zm_185) 13 = some (.astore 4, 2) by decide +kernel) (Nat.le_of_ble_eq_true rfl) rfl rfl
theorem x185_13 {l0 l1 l2 l3 l4 : Option Value} : zout zm_185 13 5 [l0, l1, l2, l3, l4] M uc us Q ↔ zwp zm_185 (19, [l0, l1, l2, zkl l3, none], [], M, uc, us) Q := zout_ha (by decide +kernel) (h := 17) (show zhnd (zk_own zm_185) 5 13 (zk_hs zm_185) = some 17 by decide +kernel) (show zlk (zk_cd zm_185) 17 = some (.astore 4, 2) by decide +kernel) (Nat.le_of_ble_eq_true rfl) rfl rfl
theorem x186_13 {l0 l1 l2 l3 l4 : Option Value} : zout zm_186 13 5 [l0, l1, l2, l3, l4] M uc us Q ↔ zwp zm_186 (15, [l0, l1, l2, zkl l3, none], [], M, uc, us) Q := zout_ha (by decide +kernel) (h := 13) (show zhnd (zk_own zm_186) 5 13 (zk_hs zm_186) = some 13 by decide +kernel) (show zlk (zk_cd zm_186) 13 = some (.astore 4, 2) by decide +kernel) (Nat.le_of_ble_eq_true rfl) rfl rfl
theorem x187_12 {l0 l1 l2 l3 l4 l5 l6 l7 l8 l9 : Option Value} : zout zm_187 12 15 [l0, l1, l2, l3, l4, l5, l6, l7, l8, l9] M uc us Q ↔ zwp zm_187 (25, [l0, l1, l2, l3, l4, l5, l6, l7, zkl l8, none], [], M, uc, us) Q := zout_ha (by decide +kernel) (h := 23) (show zhnd (zk_own zm_187) 15 12 (zk_hs zm_187) = some 23 by decide +kernel) (show zlk (zk_cd zm_187) 23 = some (.astore 9, 2) by decide +kernel) (Nat.le_of_ble_eq_true rfl) rfl rfl
theorem x187_13 {l0 l1 l2 l3 l4 l5 l6 l7 l8 l9 : Option Value} : zout zm_187 13 15 [l0, l1, l2, l3, l4, l5, l6, l7, l8, l9] M uc us Q ↔ zwp zm_187 (29, [l0, l1, l2, l3, l4, l5, l6, l7, zkl l8, none], [], M, uc, us) Q := zout_ha (by decide +kernel) (h := 27) (show zhnd (zk_own zm_187) 15 13 (zk_hs zm_187) = some 27 by decide +kernel) (show zlk (zk_cd zm_187) 27 = some (.astore 9, 2) by decide +kernel) (Nat.le_of_ble_eq_true rfl) rfl rfl
theorem x187_14 {l0 l1 l2 l3 l4 l5 l6 l7 l8 l9 : Option Value} : zout zm_187 14 15 [l0, l1, l2, l3, l4, l5, l6, l7, l8, l9] M uc us Q ↔ zwp zm_187 (33, [l0, l1, l2, l3, l4, l5, l6, l7, zkl l8, none], [], M, uc, us) Q := zout_ha (by decide +kernel) (h := 31) (show zhnd (zk_own zm_187) 15 14 (zk_hs zm_187) = some 31 by decide +kernel) (show zlk (zk_cd zm_187) 31 = some (.astore 9, 2) by decide +kernel) (Nat.le_of_ble_eq_true rfl) rfl rfl
theorem x188_12 {l0 l1 l2 l3 l4 : Option Value} : zout zm_188 12 5 [l0, l1, l2, l3, l4] M uc us Q ↔ zwp zm_188 (15, [l0, l1, l2, zkl l3, none], [], M, uc, us) Q := zout_ha (by decide +kernel) (h := 13) (show zhnd (zk_own zm_188) 5 12 (zk_hs zm_188) = some 13 by decide +kernel) (show zlk (zk_cd zm_188) 13 = some (.astore 4, 2) by decide +kernel) (Nat.le_of_ble_eq_true rfl) rfl rfl
theorem x189_12 {l0 l1 l2 l3 : Option Value} : zout zm_189 12 4 [l0, l1, l2, l3] M uc us Q ↔ zwp zm_189 (13, [l0, l1, zkl l2, none], [], M, uc, us) Q := zout_hn (by decide +kernel) (h := 12) (show zhnd (zk_own zm_189) 4 12 (zk_hs zm_189) = some 12 by decide +kernel) (show zlk (zk_cd zm_189) 12 = some (.astore_n 3, 1) by decide +kernel) (Nat.le_of_ble_eq_true rfl) rfl rfl
theorem x190_12 {l0 l1 l2 l3 l4 l5 : Option Value} : zout zm_190 12 7 [l0, l1, l2, l3, l4, l5] M uc us Q ↔ zwp zm_190 (17, [l0, l1, l2, l3, zkl l4, none], [], M, uc, us) Q := zout_ha (by decide +kernel) (h := 15) (show zhnd (zk_own zm_190) 7 12 (zk_hs zm_190) = some 15 by decide +kernel) (show zlk (zk_cd zm_190) 15 = some (.astore 5, 2) by decide +kernel) (Nat.le_of_ble_eq_true rfl) rfl rfl
theorem x190_13 {l0 l1 l2 l3 l4 l5 : Option Value} : zout zm_190 13 7 [l0, l1, l2, l3, l4, l5] M uc us Q ↔ zwp zm_190 (21, [l0, l1, l2, l3, zkl l4, none], [], M, uc, us) Q := zout_ha (by decide +kernel) (h := 19) (show zhnd (zk_own zm_190) 7 13 (zk_hs zm_190) = some 19 by decide +kernel) (show zlk (zk_cd zm_190) 19 = some (.astore 5, 2) by decide +kernel) (Nat.le_of_ble_eq_true rfl) rfl rfl
theorem x191_12 {l0 l1 l2 l3 l4 l5 l6 l7 l8 : Option Value} : zout zm_191 12 13 [l0, l1, l2, l3, l4, l5, l6, l7, l8] M uc us Q ↔ zwp zm_191 (23, [l0, l1, l2, l3, l4, l5, l6, zkl l7, none], [], M, uc, us) Q := zout_ha (by decide +kernel) (h := 21) (show zhnd (zk_own zm_191) 13 12 (zk_hs zm_191) = some 21 by decide +kernel) (show zlk (zk_cd zm_191) 21 = some (.astore 8, 2) by decide +kernel) (Nat.le_of_ble_eq_true rfl) rfl rfl
theorem x191_13 {l0 l1 l2 l3 l4 l5 l6 l7 l8 : Option Value} : zout zm_191 13 13 [l0, l1, l2, l3, l4, l5, l6, l7, l8] M uc us Q ↔ zwp zm_191 (27, [l0, l1, l2, l3, l4, l5, l6, zkl l7, none], [], M, uc, us) Q := zout_ha (by decide +kernel) (h := 25) (show zhnd (zk_own zm_191) 13 13 (zk_hs zm_191) = some 25 by decide +kernel) (show zlk (zk_cd zm_191) 25 = some (.astore 8, 2) by decide +kernel) (Nat.le_of_ble_eq_true rfl) rfl rfl
theorem x191_14 {l0 l1 l2 l3 l4 l5 l6 l7 l8 : Option Value} : zout zm_191 14 13 [l0, l1, l2, l3, l4, l5, l6, l7, l8] M uc us Q ↔ zwp zm_191 (31, [l0, l1, l2, l3, l4, l5, l6, zkl l7, none], [], M, uc, us) Q := zout_ha (by decide +kernel) (h := 29) (show zhnd (zk_own zm_191) 13 14 (zk_hs zm_191) = some 29 by decide +kernel) (show zlk (zk_cd zm_191) 29 = some (.astore 8, 2) by decide +kernel) (Nat.le_of_ble_eq_true rfl) rfl rfl
theorem x192_13 {l0 l1 l2 l3 : Option Value} : zout zm_192 13 4 [l0, l1, l2, l3] M uc us Q ↔ zwp zm_192 (13, [l0, l1, zkl l2, none], [], M, uc, us) Q := zout_hn (by decide +kernel) (h := 12) (show zhnd (zk_own zm_192) 4 13 (zk_hs zm_192) = some 12 by decide +kernel) (show zlk (zk_cd zm_192) 12 = some (.astore_n 3, 1) by decide +kernel) (Nat.le_of_ble_eq_true rfl) rfl rfl
theorem x193_12 {l0 l1 l2 l3 l4 l5 l6 : Option Value} : zout zm_193 12 9 [l0, l1, l2, l3, l4, l5, l6] M uc us Q ↔ zwp zm_193 (26, [l0, l1, l2, l3, l4, zkl l5, none], [], M, uc, us) Q := zout_ha (by decide +kernel) (h := 24) (show zhnd (zk_own zm_193) 9 12 (zk_hs zm_193) = some 24 by decide +kernel) (show zlk (zk_cd zm_193) 24 = some (.astore 6, 2) by decide +kernel) (Nat.le_of_ble_eq_true rfl) rfl rfl
theorem x193_13 {l0 l1 l2 l3 l4 l5 l6 : Option Value} : zout zm_193 13 9 [l0, l1, l2, l3, l4, l5, l6] M uc us Q ↔ zwp zm_193 (30, [l0, l1, l2, l3, l4, zkl l5, none], [], M, uc, us) Q := zout_ha (by decide +kernel) (h := 28) (show zhnd (zk_own zm_193) 9 13 (zk_hs zm_193) = some 28 by decide +kernel) (show zlk (zk_cd zm_193) 28 = some (.astore 6, 2) by decide +kernel) (Nat.le_of_ble_eq_true rfl) rfl rfl
theorem x194_12 {l0 l1 l2 l3 l4 l5 : Option Value} : zout zm_194 12 7 [l0, l1, l2, l3, l4, l5] M uc us Q ↔ zwp zm_194 (17, [l0, l1, l2, l3, zkl l4, none], [], M, uc, us) Q := zout_ha (by decide +kernel) (h := 15) (show zhnd (zk_own zm_194) 7 12 (zk_hs zm_194) = some 15 by decide +kernel) (show zlk (zk_cd zm_194) 15 = some (.astore 5, 2) by decide +kernel) (Nat.le_of_ble_eq_true rfl) rfl rfl
theorem x195_12 {l0 l1 l2 l3 l4 : Option Value} : zout zm_195 12 5 [l0, l1, l2, l3, l4] M uc us Q ↔ zwp zm_195 (15, [l0, l1, l2, zkl l3, none], [], M, uc, us) Q := zout_ha (by decide +kernel) (h := 13) (show zhnd (zk_own zm_195) 5 12 (zk_hs zm_195) = some 13 by decide +kernel) (show zlk (zk_cd zm_195) 13 = some (.astore 4, 2) by decide +kernel) (Nat.le_of_ble_eq_true rfl) rfl rfl
theorem x196_12 {l0 l1 l2 l3 l4 l5 : Option Value} : zout zm_196 12 7 [l0, l1, l2, l3, l4, l5] M uc us Q ↔ zwp zm_196 (17, [l0, l1, l2, l3, zkl l4, none], [], M, uc, us) Q := zout_ha (by decide +kernel) (h := 15) (show zhnd (zk_own zm_196) 7 12 (zk_hs zm_196) = some 15 by decide +kernel) (show zlk (zk_cd zm_196) 15 = some (.astore 5, 2) by decide +kernel) (Nat.le_of_ble_eq_true rfl) rfl rfl
theorem x196_13 {l0 l1 l2 l3 l4 l5 : Option Value} : zout zm_196 13 7 [l0, l1, l2, l3, l4, l5] M uc us Q ↔ zwp zm_196 (21, [l0, l1, l2, l3, zkl l4, none], [], M, uc, us) Q := zout_ha (by decide +kernel) (h := 19) (show zhnd (zk_own zm_196) 7 13 (zk_hs zm_196) = some 19 by decide +kernel) (show zlk (zk_cd zm_196) 19 = some (.astore 5, 2) by decide +kernel) (Nat.le_of_ble_eq_true rfl) rfl rfl
theorem x197_12 {l0 l1 l2 l3 l4 l5 : Option Value} : zout zm_197 12 7 [l0, l1, l2, l3, l4, l5] M uc us Q ↔ zwp zm_197 (17, [l0, l1, l2, l3, zkl l4, none], [], M, uc, us) Q := zout_ha (by decide +kernel) (h := 15) (show zhnd (zk_own zm_197) 7 12 (zk_hs zm_197) = some 15 by decide +kernel) (show zlk (zk_cd zm_197) 15 = some (.astore 5, 2) by decide +kernel) (Nat.le_of_ble_eq_true rfl) rfl rfl
theorem x198_12 {l0 l1 l2 l3 : Option Value} : zout zm_198 12 4 [l0, l1, l2, l3] M uc us Q ↔ zwp zm_198 (13, [l0, l1, zkl l2, none], [], M, uc, us) Q := zout_hn (by decide +kernel) (h := 12) (show zhnd (zk_own zm_198) 4 12 (zk_hs zm_198) = some 12 by decide +kernel) (show zlk (zk_cd zm_198) 12 = some (.astore_n 3, 1) by decide +kernel) (Nat.le_of_ble_eq_true rfl) rfl rfl
theorem x199_12 {l0 l1 l2 l3 : Option Value} : zout zm_199 12 4 [l0, l1, l2, l3] M uc us Q ↔ zwp zm_199 (13, [l0, l1, zkl l2, none], [], M, uc, us) Q := zout_hn (by decide +kernel) (h := 12) (show zhnd (zk_own zm_199) 4 12 (zk_hs zm_199) = some 12 by decide +kernel) (show zlk (zk_cd zm_199) 12 = some (.astore_n 3, 1) by decide +kernel) (Nat.le_of_ble_eq_true rfl) rfl rfl
theorem x200_12 {l0 l1 l2 l3 l4 l5 : Option Value} : zout zm_200 12 7 [l0, l1, l2, l3, l4, l5] M uc us Q ↔ zwp zm_200 (17, [l0, l1, l2, l3, zkl l4, none], [], M, uc, us) Q := zout_ha (by decide +kernel) (h := 15) (show zhnd (zk_own zm_200) 7 12 (zk_hs zm_200) = some 15 by decide +kernel) (show zlk (zk_cd zm_200) 15 = some (.astore 5, 2) by decide +kernel) (Nat.le_of_ble_eq_true rfl) rfl rfl
theorem x201_12 {l0 l1 l2 l3 : Option Value} : zout zm_201 12 4 [l0, l1, l2, l3] M uc us Q ↔ zwp zm_201 (13, [l0, l1, zkl l2, none], [], M, uc, us) Q := zout_hn (by decide +kernel) (h := 12) (show zhnd (zk_own zm_201) 4 12 (zk_hs zm_201) = some 12 by decide +kernel) (show zlk (zk_cd zm_201) 12 = some (.astore_n 3, 1) by decide +kernel) (Nat.le_of_ble_eq_true rfl) rfl rfl
theorem x202_12 {l0 l1 l2 l3 l4 l5 : Option Value} : zout zm_202 12 7 [l0, l1, l2, l3, l4, l5] M uc us Q ↔ zwp zm_202 (17, [l0, l1, l2, l3, zkl l4, none], [], M, uc, us) Q := zout_ha (by decide +kernel) (h := 15) (show zhnd (zk_own zm_202) 7 12 (zk_hs zm_202) = some 15 by decide +kernel) (show zlk (zk_cd zm_202) 15 = some (.astore 5, 2) by decide +kernel) (Nat.le_of_ble_eq_true rfl) rfl rfl
theorem x202_13 {l0 l1 l2 l3 l4 l5 : Option Value} : zout zm_202 13 7 [l0, l1, l2, l3, l4, l5] M uc us Q ↔ zwp zm_202 (21, [l0, l1, l2, l3, zkl l4, none], [], M, uc, us) Q := zout_ha (by decide +kernel) (h := 19) (show zhnd (zk_own zm_202) 7 13 (zk_hs zm_202) = some 19 by decide +kernel) (show zlk (zk_cd zm_202) 19 = some (.astore 5, 2) by decide +kernel) (Nat.le_of_ble_eq_true rfl) rfl rfl
theorem x203_13 {l0 l1 l2 l3 l4 l5 : Option Value} : zout zm_203 13 7 [l0, l1, l2, l3, l4, l5] M uc us Q ↔ zwp zm_203 (17, [l0, l1, l2, l3, zkl l4, none], [], M, uc, us) Q := zout_ha (by decide +kernel) (h := 15) (show zhnd (zk_own zm_203) 7 13 (zk_hs zm_203) = some 15 by decide +kernel) (show zlk (zk_cd zm_203) 15 = some (.astore 5, 2) by decide +kernel) (Nat.le_of_ble_eq_true rfl) rfl rfl
theorem x203_14 {l0 l1 l2 l3 l4 l5 : Option Value} : zout zm_203 14 7 [l0, l1, l2, l3, l4, l5] M uc us Q ↔ zwp zm_203 (21, [l0, l1, l2, l3, zkl l4, none], [], M, uc, us) Q := zout_ha (by decide +kernel) (h := 19) (show zhnd (zk_own zm_203) 7 14 (zk_hs zm_203) = some 19 by decide +kernel) (show zlk (zk_cd zm_203) 19 = some (.astore 5, 2) by decide +kernel) (Nat.le_of_ble_eq_true rfl) rfl rfl
theorem x204_12 {l0 l1 l2 l3 l4 : Option Value} : zout zm_204 12 5 [l0, l1, l2, l3, l4] M uc us Q ↔ zwp zm_204 (15, [l0, l1, l2, zkl l3, none], [], M, uc, us) Q := zout_ha (by decide +kernel) (h := 13) (show zhnd (zk_own zm_204) 5 12 (zk_hs zm_204) = some 13 by decide +kernel) (show zlk (zk_cd zm_204) 13 = some (.astore 4, 2) by decide +kernel) (Nat.le_of_ble_eq_true rfl) rfl rfl
theorem x205_12 {l0 l1 l2 l3 l4 l5 : Option Value} : zout zm_205 12 7 [l0, l1, l2, l3, l4, l5] M uc us Q ↔ zwp zm_205 (17, [l0, l1, l2, l3, zkl l4, none], [], M, uc, us) Q := zout_ha (by decide +kernel) (h := 15) (show zhnd (zk_own zm_205) 7 12 (zk_hs zm_205) = some 15 by decide +kernel) (show zlk (zk_cd zm_205) 15 = some (.astore 5, 2) by decide +kernel) (Nat.le_of_ble_eq_true rfl) rfl rfl
theorem x206_12 {l0 l1 l2 l3 : Option Value} : zout zm_206 12 4 [l0, l1, l2, l3] M uc us Q ↔ zwp zm_206 (12, [l0, l1, zkl l2, none], [], M, uc, us) Q := zout_hn (by decide +kernel) (h := 11) (show zhnd (zk_own zm_206) 4 12 (zk_hs zm_206) = some 11 by decide +kernel) (show zlk (zk_cd zm_206) 11 = some (.astore_n 3, 1) by decide +kernel) (Nat.le_of_ble_eq_true rfl) rfl rfl
theorem x207_12 {l0 l1 l2 l3 l4 l5 l6 l7 : Option Value} : zout zm_207 12 11 [l0, l1, l2, l3, l4, l5, l6, l7] M uc us Q ↔ zwp zm_207 (21, [l0, l1, l2, l3, l4, l5, zkl l6, none], [], M, uc, us) Q := zout_ha (by decide +kernel) (h := 19) (show zhnd (zk_own zm_207) 11 12 (zk_hs zm_207) = some 19 by decide +kernel) (show zlk (zk_cd zm_207) 19 = some (.astore 7, 2) by decide +kernel) (Nat.le_of_ble_eq_true rfl) rfl rfl
theorem x207_13 {l0 l1 l2 l3 l4 l5 l6 l7 : Option Value} : zout zm_207 13 11 [l0, l1, l2, l3, l4, l5, l6, l7] M uc us Q ↔ zwp zm_207 (25, [l0, l1, l2, l3, l4, l5, zkl l6, none], [], M, uc, us) Q := zout_ha (by decide +kernel) (h := 23) (show zhnd (zk_own zm_207) 11 13 (zk_hs zm_207) = some 23 by decide +kernel) (show zlk (zk_cd zm_207) 23 = some (.astore 7, 2) by decide +kernel) (Nat.le_of_ble_eq_true rfl) rfl rfl
theorem x208_13 {l0 l1 l2 l3 l4 l5 l6 l7 : Option Value} : zout zm_208 13 11 [l0, l1, l2, l3, l4, l5, l6, l7] M uc us Q ↔ zwp zm_208 (21, [l0, l1, l2, l3, l4, l5, zkl l6, none], [], M, uc, us) Q := zout_ha (by decide +kernel) (h := 19) (show zhnd (zk_own zm_208) 11 13 (zk_hs zm_208) = some 19 by decide +kernel) (show zlk (zk_cd zm_208) 19 = some (.astore 7, 2) by decide +kernel) (Nat.le_of_ble_eq_true rfl) rfl rfl
theorem x209_12 {l0 l1 l2 l3 l4 : Option Value} : zout zm_209 12 5 [l0, l1, l2, l3, l4] M uc us Q ↔ zwp zm_209 (15, [l0, l1, l2, zkl l3, none], [], M, uc, us) Q := zout_ha (by decide +kernel) (h := 13) (show zhnd (zk_own zm_209) 5 12 (zk_hs zm_209) = some 13 by decide +kernel) (show zlk (zk_cd zm_209) 13 = some (.astore 4, 2) by decide +kernel) (Nat.le_of_ble_eq_true rfl) rfl rfl
theorem x209_13 {l0 l1 l2 l3 l4 : Option Value} : zout zm_209 13 5 [l0, l1, l2, l3, l4] M uc us Q ↔ zwp zm_209 (19, [l0, l1, l2, zkl l3, none], [], M, uc, us) Q := zout_ha (by decide +kernel) (h := 17) (show zhnd (zk_own zm_209) 5 13 (zk_hs zm_209) = some 17 by decide +kernel) (show zlk (zk_cd zm_209) 17 = some (.astore 4, 2) by decide +kernel) (Nat.le_of_ble_eq_true rfl) rfl rfl
theorem x210_12 {l0 l1 l2 l3 l4 : Option Value} : zout zm_210 12 5 [l0, l1, l2, l3, l4] M uc us Q ↔ zwp zm_210 (15, [l0, l1, l2, zkl l3, none], [], M, uc, us) Q := zout_ha (by decide +kernel) (h := 13) (show zhnd (zk_own zm_210) 5 12 (zk_hs zm_210) = some 13 by decide +kernel) (show zlk (zk_cd zm_210) 13 = some (.astore 4, 2) by decide +kernel) (Nat.le_of_ble_eq_true rfl) rfl rfl
end ZX
