/-! what the law's store does leaves the searches alone: no method that it reaches writes there (source: wip/p35/src/295.fr.txt) -/
def frL : List Nat := [2, 3, 5, 6, 7, 10, 11, 12, 13, 15, 16, 17, 19, 20, 32, 33, 37, 38, 39, 41, 42, 43, 44, 45, 46, 47, 50, 51, 52, 53, 54, 73, 74, 75, 76, 78, 79, 80, 81, 82, 83, 84, 86, 87, 89, 90, 91, 93, 94, 95, 96, 97, 98, 99, 100, 101, 102, 115, 116, 117, 118, 119, 120, 121, 122, 123, 124, 125, 126, 127, 128, 129, 130, 131, 132, 133, 134, 135, 136, 137, 138, 139, 140, 141, 142, 143, 144, 145, 146, 147, 148, 149, 150]
def frS (x : Nat) : Bool := frL.contains x
def frI (K : zI) : Instr → Bool
  | .putfield ix => match zpool (zk_own K) ix with
    | some (0, c, j, _) => !(decide (c = 4)) && !(decide (c = 50)) && !(decide (c = 9) && decide (j = 4))
    | _ => true
  | .invokevirtual ix => match zpool (zk_own K) (ix + 100000 * zk_dp K) with
    | some (1, x, _, _) => frS x
    | _ => true
  | .invokestatic ix => match zpool (zk_own K) ix with
    | some (1, x, _, _) => frS x
    | _ => true
  | .invokespecial ix => match zpool (zk_own K) ix with
    | some (1, x, _, _) => frS x
    | _ => true
  | _ => true
def frK (K : zI) : Bool := (zk_cd K).all (fun q => frI K q.2.1)
theorem fr_ck : frL.all (fun x => match zmt[x]? with
  | some K => frK K
  | none => true) = true := by decide +kernel
def qK (M M' : zM) : Prop := M.1 ≤ M'.1 ∧ ∀ a, a ≤ M.1 → M'.2.1 a = M.2.1 a ∧ ((M.2.1 a).1 = 4 ∨ (M.2.1 a).1 = 50 → M'.2.2 a = M.2.2 a) ∧ ((M.2.1 a).1 = 9 → M'.2.2 a 4 = M.2.2 a 4)
theorem qK_refl (M : zM) : qK M M := ⟨Nat.le_refl _, fun _ _ => ⟨rfl, fun _ => rfl, fun _ => rfl⟩⟩
theorem qK_trans {A B C : zM} (h : qK A B) (h' : qK B C) : qK A C := by
  refine ⟨Nat.le_trans h.1 h'.1, fun a h2 => ?_⟩
  obtain ⟨p1, p2, p3⟩ := h.2 a h2
  obtain ⟨q1, q2, q3⟩ := h'.2 a (Nat.le_trans h2 h.1)
  rw [p1] at q2 q3
  exact ⟨q1.trans p1, fun e => (q2 e).trans (p2 e), fun e => (q3 e).trans (p3 e)⟩
theorem qK_put {M : zM} {a j : Nat} {v : Value} (h4 : ¬ ((M.2.1 a).1 = 4 ∨ (M.2.1 a).1 = 50)) (h9 : ¬ ((M.2.1 a).1 = 9 ∧ j = 4)) : qK M (zput M a j v) := by
  refine ⟨Nat.le_refl _, fun b _ => ⟨rfl, fun e => funext fun k => ?_, fun e => ?_⟩⟩
  · show (if b = a ∧ k = j then v else M.2.2 b k) = _
    rw [if_neg (fun z => h4 (by rw [← z.1]; exact e))]
  · show (if b = a ∧ 4 = j then v else M.2.2 b 4) = _
    rw [if_neg (fun z => h9 ⟨by rw [← z.1]; exact e, z.2.symm⟩)]
theorem qK_copy {M : zM} {s sp d dp n : Nat} (h4 : ¬ ((M.2.1 d).1 = 4 ∨ (M.2.1 d).1 = 50)) (h9 : ¬ (M.2.1 d).1 = 9) : qK M (zcopy M s sp d dp n) := by
  refine ⟨Nat.le_refl _, fun b _ => ⟨rfl, fun e => funext fun k => ?_, fun e => ?_⟩⟩
  · show (if b = d ∧ dp ≤ k ∧ k < dp + n then M.2.2 s (sp + (k - dp)) else M.2.2 b k) = _
    rw [if_neg (fun z => h4 (by rw [← z.1]; exact e))]
  · show (if b = d ∧ dp ≤ 4 ∧ 4 < dp + n then M.2.2 s (sp + (4 - dp)) else M.2.2 b 4) = _
    rw [if_neg (fun z => h9 (by rw [← z.1]; exact e))]
theorem qK_keep {M M' : zM} {n : Nat} (h : zKeep M M' n) : qK M M' := ⟨by have := h.1; omega, fun a h2 => ⟨(h.2 a h2).1, fun _ => (h.2 a h2).2, fun _ => by rw [(h.2 a h2).2]⟩⟩
def frR (M : zM) : (zS ⊕ (zO × zM)) → Prop
  | .inl s => qK M s.2.2.2.1
  | .inr q => qK M q.2
theorem zix_k {M : zM} {t a : Nat} {i : Int32} (h : zix M t a i = true) : (M.2.1 a).1 = t := by
  unfold zix at h
  rw [Bool.and_eq_true, Bool.and_eq_true, decide_eq_true_eq] at h
  exact h.1.2
section ZFR
variable {M : zM} {K : zI} {L : zL}
theorem fr_sp {i : Instr} {pc : Nat} {st : List Value} {uc us : Nat} {r : zS ⊕ (zO × zM)} (hi : frI K i = true) (e : zsp K i pc L st M uc us = some r) : frR M r := by
  cases i with
  | putfield ix =>
    simp only [zsp, zgo] at e
    simp only [frI] at hi
    split at e
    · next c j b h =>
      try rw [h] at hi
      have hi : (!(decide (c = 4)) && !(decide (c = 50)) && !(decide (c = 9) && decide (j = 4))) = true := hi
      split at e
      · next v a r0 =>
        split at e
        · next hc =>
          cases e
          refine qK_put ?_ ?_
          · rw [hc.2.1]
            intro z
            rcases z with z | z
            · have z : c = 4 := z
              rw [decide_eq_true z] at hi
              exact Bool.noConfusion hi
            · have z : c = 50 := z
              rw [decide_eq_true z, Bool.and_assoc, Bool.and_comm] at hi
              exact Bool.noConfusion hi
          · rw [hc.2.1]
            rintro ⟨z1, z2⟩
            have z1 : c = 9 := z1
            rw [decide_eq_true z1, decide_eq_true z2, Bool.and_comm] at hi
            exact Bool.noConfusion hi
        · cases e
      · cases e
    · cases e
  | iastore =>
    simp only [zsp, zgo] at e
    split at e
    · split at e
      · next hc => cases e; exact qK_put (by rw [zix_k hc]; decide) (by rw [zix_k hc]; intro z; exact absurd z.1 (by decide))
      · cases e
    · cases e
  | bastore =>
    simp only [zsp, zgo] at e
    split at e
    · split at e
      · next hc => cases e; exact qK_put (by rw [zix_k hc.1]; decide) (by rw [zix_k hc.1]; intro z; exact absurd z.1 (by decide))
      · cases e
    · cases e
  | aastore =>
    simp only [zsp, zgo] at e
    split at e
    · next v i a r0 =>
      split at e
      · next hc =>
        cases e
        have h1 := hc.2.1
        rw [← zix_k hc.2.2] at h1
        refine qK_put (fun z => ?_) (fun z => ?_)
        · rcases z with z | z <;> rw [z] at h1 <;> exact absurd h1 (by decide)
        · rw [z.1] at h1; exact absurd h1 (by decide)
      · cases e
    · cases e
  | newarray ty =>
    simp only [zsp, zgo] at e
    (repeat' split at e) <;> first | (cases e; done) | (cases e; exact qK_keep (zKeep_new _ _ _))
  | anewarray ix =>
    simp only [zsp, zgo] at e
    (repeat' split at e) <;> first | (cases e; done) | (cases e; exact qK_keep (zKeep_new _ _ _))
  | multianewarray ix d =>
    simp only [zsp, zgo] at e
    (repeat' split at e) <;> first | (cases e; done) | (cases e; exact qK_keep (zmk_keep _ _ _))
  | new ix =>
    simp only [zsp, zgo, zend] at e
    (repeat' split at e) <;> first | (cases e; done) | (cases e; exact qK_keep (zKeep_new _ _ _)) | (cases e; exact qK_refl M)
  | _ => first | (simp only [zsp] at e; cases e; done) | (simp only [zsp, zgo, zbr, zend] at e; first | (cases e; exact qK_refl M) | ((repeat' split at e) <;> first | (cases e; done) | (cases e; exact qK_refl M)))
theorem fr_jdk {q : zP} {pc : Nat} {st : List Value} {uc us : Nat} {r : zS ⊕ (zO × zM)} (e : zjdk K q pc L st M uc us = some r) : frR M r := by
  unfold zjdk zgo at e
  split at e
  · (repeat' split at e) <;> first | (cases e; done) | (cases e; exact qK_refl M)
  · (repeat' split at e) <;> first | (cases e; done) | (cases e; exact qK_refl M)
  · split at e
    · split at e
      · next hc =>
        cases e
        obtain ⟨⟨h1, h2, h3, h4⟩, h5⟩ := hc
        have key : ∀ v, (M.2.1 _).1 = v → v = 20 ∨ v = 40 := fun v hv => by
          rw [h3] at hv
          rw [hv] at h4
          exact h4.imp id (fun q => q.1)
        refine qK_copy (fun z => ?_) (fun z => ?_)
        · rcases z with z | z <;> have := key _ z <;> omega
        · have := key _ z; omega
      · cases e
    · cases e
  · cases e
theorem fr_cat {ex pc uc us : Nat} {r : zS ⊕ (zO × zM)} (e : zcat K ex pc L M uc us = some r) : frR M r := by
  unfold zcat zend zgo at e
  (repeat' split at e) <;> first | (cases e; done) | (cases e; exact qK_refl M)
def frF (call : zF) : Prop := ∀ (x : Nat) (args : List Value) (M : zM) (r : zO × zM), frS x = true → call x args M = some r → qK M r.2
theorem frR_of {A B : zM} {r : zS ⊕ (zO × zM)} (h : qK A B) (h' : frR B r) : frR A r := by
  cases r with
  | inl s => exact qK_trans h h'
  | inr q => exact qK_trans h h'
theorem fr_inv {call : zF} (hF : frF call) {x y pc : Nat} {st : List Value} {uc us : Nat} {r : zS ⊕ (zO × zM)} (hx : frS x = true) (e : zinv call K x y pc L st M uc us = some r) : frR M r := by
  unfold zinv at e
  split at e
  · cases e
  · split at e
    · cases e
    · split at e
      · split at e
        · cases e
        · next v M2 hcl =>
          cases e
          exact hF _ _ _ _ hx hcl
        · next ee M2 hcl => exact frR_of (hF _ _ _ _ hx hcl) (fr_cat e)
      · cases e
theorem fr_st {call : zF} (hF : frF call) {i : Instr} {pc : Nat} {st : List Value} {uc us : Nat} {r : zS ⊕ (zO × zM)} (hi : frI K i = true) (e : zst call K i (pc, L, st, M, uc, us) = some r) : frR M r := by
  unfold zst at e
  split at e
  · split at e
    · next hp =>
      simp only [frI] at hi
      rw [hp] at hi
      split at e
      · exact fr_inv hF hi e
      · cases e
    · cases e
  · split at e
    · next hp =>
      simp only [frI] at hi
      rw [hp] at hi
      split at e
      · exact fr_inv hF hi e
      · cases e
    · exact fr_jdk e
    · exact fr_jdk e
    · cases e
  · split at e
    · next hp =>
      simp only [frI] at hi
      rw [hp] at hi
      split at e
      · exact fr_inv hF hi e
      · cases e
    · exact fr_jdk e
    · cases e
  · exact fr_sp hi e
theorem fr_run {call : zF} (hF : frF call) (hK : frK K = true) : ∀ (n : Nat) (s : zS) (r : zO × zM), zrun call K n s = some r → qK s.2.2.2.1 r.2
  | 0, _, _, e => by cases e
  | n + 1, s, r, e => by
    simp only [zrun] at e
    split at e
    · cases e
    · next il hil =>
      have hi : frI K il.1 = true := List.all_eq_true.mp hK _ (zlk_mem hil)
      obtain ⟨pc, L, st, M, uc, us⟩ := s
      split at e
      · cases e
      · next s' hs => exact qK_trans (fr_st hF hi hs) (fr_run hF hK n s' r e)
      · next q hs =>
        cases e
        exact fr_st hF hi hs
theorem fr_call : ∀ (F : Nat), frF (zcall F)
  | 0, _, _, _, _, _, e => by cases e
  | F + 1, x, args, M, r, hx, e => by
    simp only [zcall] at e
    split at e
    · cases e
    · next K hK =>
      split at e
      · have hk : frK K = true := by
          have := List.all_eq_true.mp fr_ck x (by simpa [frS] using hx)
          rw [hK] at this
          exact this
        exact fr_run (fr_call F) hk F _ r e
      · cases e
theorem fr_cl {x : Nat} {args : List Value} {Q : zO → zM → Prop} (hx : frS x = true) (h : zcl x args M Q) : zcl x args M (fun o M' => Q o M' ∧ qK M M') := by
  obtain ⟨F, r, h1, h2⟩ := h
  exact ⟨F, r, h1, h2, fr_call F x args M r hx h1⟩
end ZFR
