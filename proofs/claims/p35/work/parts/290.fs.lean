/-! copies in a folder and below it, as sums (source: wip/p35/src/290.fs.txt, by expand3.py) -/
section ZF
/-- a sum over the folders right below f -/
def sSm (g : Nat → Int32) (f : Nat) (v : Nat → Nat) : Nat → Nat
  | 0 => 0
  | o + 1 => sSm g f v o + (if g o = nI f then v o else 0)
theorem sSm_ch {c : Nat} {g : Nat → Int32} {f i : Nat} : ∀ N, sCh c g f i N = sSm g f (fun o => bWi c g o i) N
  | 0 => rfl
  | N + 1 => by
    show sCh c g f i N + _ = sSm g f _ N + _
    rw [sSm_ch N]
theorem sSm_add {g : Nat → Int32} {f : Nat} {v u : Nat → Nat} : ∀ N, sSm g f (fun o => v o + u o) N = sSm g f v N + sSm g f u N
  | 0 => rfl
  | N + 1 => by
    show sSm g f _ N + (if g N = nI f then v N + u N else 0) = sSm g f v N + (if g N = nI f then v N else 0) + (sSm g f u N + (if g N = nI f then u N else 0))
    rw [sSm_add N]
    split <;> omega
theorem sSm_0 {g : Nat → Int32} {f : Nat} {v : Nat → Nat} : ∀ N, (∀ o, o < N → v o = 0) → sSm g f v N = 0
  | 0, _ => rfl
  | N + 1, h => by
    show sSm g f v N + _ = 0
    rw [sSm_0 N (fun o ho => h o (by omega)), h N (by omega)]
    split <;> rfl
theorem sSm_ext {g : Nat → Int32} {f : Nat} {v u : Nat → Nat} : ∀ N, (∀ o, o < N → v o = u o) → sSm g f v N = sSm g f u N
  | 0, _ => rfl
  | N + 1, h => by
    show sSm g f v N + _ = sSm g f u N + _
    rw [sSm_ext N (fun o ho => h o (by omega)), h N (by omega)]
theorem sWi_m1 {c : Int32} {g : Nat → Int32} {tp : Int32} : sWi c g tp 8 (-1) = false := by
  show (if (-1 : Int32) < nI 0 then false else _) = false
  rw [if_pos (by decide)]
/-- how many lie in f or below it -/
theorem wi_sum {c : Nat} {g sh : Nat → Int32} {d : Nat → Nat} (hd : ∀ k, d k < 8) (hr : zRk g c d) (hc : c ≤ 8) {f : Nat} (hf : f < c) : ∀ N, (∀ i, i < N → sh i = -1 ∨ ∃ k, k < c ∧ sh i = nI k) → tcnt (fun i => sWi (nI c) g (nI f) 8 (sh i)) N = tcnt (fun i => decide (sh i = nI f)) N + sSm g f (fun o => tcnt (fun i => sWi (nI c) g (nI o) 8 (sh i)) N) c
  | 0, _ => by
    show 0 = 0 + sSm g f (fun _ => 0) c
    rw [sSm_0 c (fun _ _ => rfl)]
  | N + 1, h => by
    have ih := wi_sum hd hr hc hf N (fun i hi => h i (by omega))
    show tcnt _ N + (if sWi (nI c) g (nI f) 8 (sh N) = true then 1 else 0) = tcnt _ N + (if decide (sh N = nI f) = true then 1 else 0) + sSm g f (fun o => tcnt (fun i => sWi (nI c) g (nI o) 8 (sh i)) N + (if sWi (nI c) g (nI o) 8 (sh N) = true then 1 else 0)) c
    rw [sSm_add, ih]
    rcases h N (by omega) with e | ⟨k, hk, e⟩
    · rw [e, sWi_m1, if_neg (by decide), if_neg (by rw [decide_eq_true_eq]; exact fun z => nI_m1 (by omega) z.symm), sSm_0 (v := fun o => if sWi (nI c) g (nI o) 8 (-1) = true then 1 else 0) c (fun o _ => by rw [sWi_m1]; rfl)]
      omega
    · have hb := bWi_sum hd hr hc hf 8 k (by have := hd k; omega) hk
      rw [sSm_ch] at hb
      have e1 : (if sWi (nI c) g (nI f) 8 (sh N) = true then 1 else 0) = bWi c g f k := by rw [e]; rfl
      have e2 : (if decide (sh N = nI f) = true then 1 else 0) = (if k = f then 1 else 0) := by
        rw [e]
        by_cases z : k = f
        · rw [if_pos z, if_pos (by rw [z]; exact decide_eq_true rfl)]
        · rw [if_neg z, if_neg (by rw [decide_eq_true_eq]; exact fun q => z ((nI_eq (by omega) (by omega)).mp q))]
      have e3 : sSm g f (fun o => if sWi (nI c) g (nI o) 8 (sh N) = true then 1 else 0) c = sSm g f (fun o => bWi c g o k) c := sSm_ext c (fun o _ => by rw [e]; rfl)
      rw [e1, e2, e3, hb]
      omega
end ZF
