/-! threads, routes, forests: pure rows -/
/-! threads, in pure words: the class's search, the reference's labels, and that there is one labelling -/
def tcnt (P : Nat → Bool) : Nat → Nat
  | 0 => 0
  | n + 1 => tcnt P n + (if P n = true then 1 else 0)
theorem tcnt_ext {P P' : Nat → Bool} : ∀ n, (∀ m, m < n → P m = P' m) → tcnt P n = tcnt P' n
  | 0, _ => rfl
  | n + 1, h => by
    unfold tcnt
    rw [tcnt_ext n (fun m hm => h m (by omega)), h n (by omega)]
theorem tcnt_one {P P' : Nat → Bool} {a : Nat} : ∀ n, a < n → (∀ m, m < n → ¬ m = a → P' m = P m) → P a = false → P' a = true → tcnt P' n = tcnt P n + 1
  | 0, h, _, _, _ => by omega
  | n + 1, h, hs, h0, h1 => by
    unfold tcnt
    by_cases e : a = n
    · subst e
      rw [tcnt_ext a (fun m hm => hs m (by omega) (by omega)), h0, h1]
      simp
    · rw [tcnt_one n (by omega) (fun m hm => hs m (by omega)) h0 h1, hs n (by omega) (fun q => e q.symm)]
      omega
theorem tcnt_0 : ∀ n, tcnt (fun _ => false) n = 0
  | 0 => rfl
  | n + 1 => by
    unfold tcnt
    rw [tcnt_0 n]
    simp
theorem tcnt_le (P : Nat → Bool) : ∀ n, tcnt P n ≤ n
  | 0 => Nat.le_refl 0
  | n + 1 => by
    unfold tcnt
    have := tcnt_le P n
    split <;> omega
def tLab (kept : Nat → Bool) (adj : Nat → Nat → Bool) (n : Nat) (r : Nat → Option Nat) : Prop :=
  (∀ m, m < n → kept m = false → r m = none) ∧ (∀ m, m < n → kept m = true → ∃ j, r m = some j ∧ j ≤ m ∧ kept j = true) ∧
  (∀ a b, a < n → b < n → kept a = true → kept b = true → adj a b = true → r a = r b) ∧
  (∀ c : Nat → Nat, (∀ a b, a < n → b < n → kept a = true → kept b = true → adj a b = true → c a = c b) → ∀ m j, m < n → r m = some j → c m = c j)
theorem tLab_le {kept : Nat → Bool} {adj : Nat → Nat → Bool} {n : Nat} {r r' : Nat → Option Nat} (h : tLab kept adj n r) (h' : tLab kept adj n r') {m : Nat} (hm : m < n) {j j' : Nat} (e : r m = some j) (e' : r' m = some j') : j' ≤ j := by
  have hk : kept m = true := by
    cases hk : kept m with
    | true => rfl
    | false => rw [h.1 m hm hk] at e; cases e
  obtain ⟨i, hi, hj, hkj⟩ := h.2.1 m hm hk
  rw [e] at hi
  cases hi
  have hc := h.2.2.2 (fun k => (r' k).getD 0) (fun a b ha hb ka kb hab => by show (r' a).getD 0 = (r' b).getD 0; rw [h'.2.2.1 a b ha hb ka kb hab]) m j hm e
  obtain ⟨i', hi', hj', -⟩ := h'.2.1 j (by omega) hkj
  simp only [e', hi', Option.getD_some] at hc
  omega
theorem tLab_uniq {kept : Nat → Bool} {adj : Nat → Nat → Bool} {n : Nat} {r r' : Nat → Option Nat} (h : tLab kept adj n r) (h' : tLab kept adj n r') {m : Nat} (hm : m < n) : r m = r' m := by
  cases hk : kept m with
  | false => rw [h.1 m hm hk, h'.1 m hm hk]
  | true =>
    obtain ⟨j, e, -, -⟩ := h.2.1 m hm hk
    obtain ⟨j', e', -, -⟩ := h'.2.1 m hm hk
    have a := tLab_le h h' hm e e'
    have b := tLab_le h' h hm e' e
    rw [e, e', show j = j' by omega]
abbrev tT : Type := (Nat → Option Nat) × (Nat → Nat) × (Nat → Nat) × List Nat × Nat
def tu {α : Type} (f : Nat → α) (m : Nat) (v : α) : Nat → α := fun k => if k = m then v else f k
def tRe (seen : Nat → Bool) (root : Nat) (T : tT) (m : Nat) : tT := (tu T.1 m (some root), tu T.2.1 root (T.2.1 root + 1), if seen m = true then T.2.2.1 else tu T.2.2.1 root (T.2.2.1 root + 1), T.2.2.2.1 ++ [m], T.2.2.2.2)
def tIs (kept : Nat → Bool) (adj : Nat → Nat → Bool) (cur o : Nat) (T : tT) : Bool := kept o && (T.1 o).isNone && adj cur o
def tIn (kept seen : Nat → Bool) (adj : Nat → Nat → Bool) (root cur n : Nat) (T : tT) : tT := zfo (fun o T => if tIs kept adj cur o T = true then tRe seen root T o else T) n T
def tFo (kept seen : Nat → Bool) (adj : Nat → Nat → Bool) (root n : Nat) : Nat → Nat → tT → tT
  | 0, _, T => T
  | k + 1, i, T => if i < T.2.2.2.1.length then tFo kept seen adj root n k (i + 1) (tIn kept seen adj root (T.2.2.2.1.getD i 0) n T) else T
def tSt (seen : Nat → Bool) (root : Nat) (T : tT) : tT := tRe seen root (T.1, T.2.1, T.2.2.1, [], T.2.2.2.2 + 1) root
def tDr (kept seen : Nat → Bool) (adj : Nat → Nat → Bool) (n : Nat) (k : Nat) : tT := zfo (fun i T => if (kept i && (T.1 i).isNone) = true then tFo kept seen adj i n 60 0 (tSt seen i T) else T) k (fun _ => none, fun _ => 0, fun _ => 0, [], 0)
/-- pigeons: different numbers below n are at most n -/
theorem tpig : ∀ (n : Nat) (l : List Nat), l.Nodup → (∀ m, m ∈ l → m < n) → l.length ≤ n
  | 0, l, _, h => by
    cases l with
    | nil => exact Nat.le_refl 0
    | cons a l => exact absurd (h a List.mem_cons_self) (Nat.not_lt_zero a)
  | n + 1, l, hd, h => by
    have e : (l.erase n).length ≤ n := tpig n (l.erase n) (hd.erase n) (fun m hm => by
      have h1 := h m (List.mem_of_mem_erase hm)
      have h2 : m ≠ n := fun q => by
        subst q
        exact (List.Nodup.not_mem_erase hd) hm
      omega)
    have e2 := List.length_erase (a := n) (l := l)
    split at e2 <;> omega
section TH
variable {kept seen : Nat → Bool} {adj : Nat → Nat → Bool} {n : Nat}
abbrev tCst (kept : Nat → Bool) (adj : Nat → Nat → Bool) (n : Nat) (c : Nat → Nat) : Prop := ∀ a b, a < n → b < n → kept a = true → kept b = true → adj a b = true → c a = c b
/-- counts stand -/
def tC (seen : Nat → Bool) (n : Nat) (T : tT) : Prop := (∀ t, T.2.1 t = tcnt (fun m => decide (T.1 m = some t)) n) ∧ (∀ t, T.2.2.1 t = tcnt (fun m => decide (T.1 m = some t) && !seen m) n)
/-- while a thread is followed -/
def tI (kept seen : Nat → Bool) (adj : Nat → Nat → Bool) (n : Nat) (T0 : tT) (root : Nat) (T : tT) : Prop :=
  (∀ m, m < n → ¬ T0.1 m = none → T.1 m = T0.1 m) ∧ (∀ m, m < n → T0.1 m = none → T.1 m = none ∨ m ∈ T.2.2.2.1) ∧
  (∀ m, m ∈ T.2.2.2.1 → m < n ∧ kept m = true ∧ T0.1 m = none ∧ T.1 m = some root) ∧ T.2.2.2.1.Nodup ∧
  (∀ c, tCst kept adj n c → ∀ m, m ∈ T.2.2.2.1 → c m = c root) ∧ tC seen n T ∧ T.2.2.2.2 = T0.2.2.2.2 + 1 ∧ root ∈ T.2.2.2.1
theorem tC_re {T : tT} {root m : Nat} (h : tC seen n T) (hm : m < n) (hr : T.1 m = none) : tC seen n (tRe seen root T m) := by
  have hx : ∀ (t : Nat), ¬ t = root → ∀ k, k < n → (decide (tu T.1 m (some root) k = some t)) = decide (T.1 k = some t) := by
    intro t ht k hk
    unfold tu
    by_cases e : k = m
    · subst e
      rw [if_pos rfl, hr]
      simp only [Option.some.injEq, reduceCtorEq, decide_false, decide_eq_false_iff_not]
      exact fun q => ht q.symm
    · rw [if_neg e]
  constructor
  · intro t
    show tu T.2.1 root (T.2.1 root + 1) t = tcnt (fun k => decide (tu T.1 m (some root) k = some t)) n
    by_cases ht : t = root
    · subst ht
      rw [tcnt_one (P := fun k => decide (T.1 k = some t)) (a := m) n hm]
      · unfold tu; rw [if_pos rfl, h.1]
      · intro k hk hkm; unfold tu; rw [if_neg hkm]
      · rw [hr]; rfl
      · unfold tu; rw [if_pos rfl]; simp
    · rw [tcnt_ext n (fun k hk => hx t ht k hk), ← h.1 t]
      unfold tu; rw [if_neg ht]
  · intro t
    show (if seen m = true then T.2.2.1 else tu T.2.2.1 root (T.2.2.1 root + 1)) t = tcnt (fun k => decide (tu T.1 m (some root) k = some t) && !seen k) n
    by_cases ht : t = root
    · subst ht
      by_cases hs : seen m = true
      · rw [if_pos hs, h.2 t]
        refine tcnt_ext n (fun k hk => ?_)
        unfold tu
        by_cases e : k = m
        · subst e; rw [hs]; simp
        · rw [if_neg e]
      · rw [if_neg hs, tcnt_one (P := fun k => decide (T.1 k = some t) && !seen k) (a := m) n hm]
        · unfold tu; rw [if_pos rfl, h.2]
        · intro k hk hkm; unfold tu; rw [if_neg hkm]
        · rw [hr]; rfl
        · unfold tu; rw [if_pos rfl]; simp [hs]
    · rw [tcnt_ext n (fun k hk => by rw [hx t ht k hk]), ← h.2 t]
      split
      · rfl
      · unfold tu; rw [if_neg ht]
theorem tI_re {T0 T : tT} {root m cur : Nat} (h : tI kept seen adj n T0 root T) (hm : m < n) (hk : kept m = true) (hr : T.1 m = none) (hc : cur ∈ T.2.2.2.1) (ha : adj cur m = true) : tI kept seen adj n T0 root (tRe seen root T m) := by
  obtain ⟨h1, h2, h3, h4, h5, h6, h7, h8⟩ := h
  have h0 : T0.1 m = none := by
    by_cases e : T0.1 m = none
    · exact e
    · rw [← h1 m hm e]; exact hr
  have hnm : ¬ m ∈ T.2.2.2.1 := fun q => by rw [(h3 m q).2.2.2] at hr; cases hr
  refine ⟨fun k hk' hk0 => ?_, fun k hk' hk0 => ?_, fun k hk' => ?_, ?_, fun c hc' k hk' => ?_, tC_re h6 hm hr, h7, ?_⟩
  · show tu T.1 m (some root) k = T0.1 k
    unfold tu
    rw [if_neg (fun q => by subst q; exact hk0 h0)]
    exact h1 k hk' hk0
  · show tu T.1 m (some root) k = none ∨ k ∈ T.2.2.2.1 ++ [m]
    unfold tu
    by_cases e : k = m
    · subst e; exact Or.inr (by simp)
    · rw [if_neg e]
      rcases h2 k hk' hk0 with q | q
      · exact Or.inl q
      · exact Or.inr (List.mem_append_left _ q)
  · have hk' : k ∈ T.2.2.2.1 ++ [m] := hk'
    show k < n ∧ kept k = true ∧ T0.1 k = none ∧ tu T.1 m (some root) k = some root
    unfold tu
    by_cases e : k = m
    · subst e; exact ⟨hm, hk, h0, if_pos rfl⟩
    · rw [if_neg e]
      refine h3 k ?_
      rcases List.mem_append.mp hk' with q | q
      · exact q
      · exact absurd (List.mem_singleton.mp q) e
  · show (T.2.2.2.1 ++ [m]).Nodup
    rw [List.nodup_append]
    refine ⟨h4, by simp, fun a haa b hb => ?_⟩
    rw [List.mem_singleton] at hb
    subst hb
    exact fun q => hnm (q ▸ haa)
  · have hk' : k ∈ T.2.2.2.1 ++ [m] := hk'
    rcases List.mem_append.mp hk' with q | q
    · exact h5 c hc' k q
    · rw [List.mem_singleton] at q
      subst q
      rw [← h5 c hc' cur hc]
      exact (hc' cur k (h3 cur hc).1 hm (h3 cur hc).2.1 hk ha).symm
  · exact List.mem_append_left _ h8
/-- one from whom is reached: behind it its neighbours are all labelled; the row only grows -/
theorem tIn_ok {T0 T : tT} {root cur : Nat} (h : tI kept seen adj n T0 root T) (hc : cur ∈ T.2.2.2.1) : ∀ k, k ≤ n → (let T' := tIn kept seen adj root cur k T; tI kept seen adj n T0 root T' ∧ (∃ l, T'.2.2.2.1 = T.2.2.2.1 ++ l) ∧ (∀ m, ¬ T.1 m = none → T'.1 m = T.1 m) ∧ ∀ o, o < k → kept o = true → adj cur o = true → ¬ T'.1 o = none)
  | 0, _ => ⟨h, ⟨[], (List.append_nil _).symm⟩, fun _ _ => rfl, fun o ho => absurd ho (Nat.not_lt_zero o)⟩
  | k + 1, hk => by
    obtain ⟨g1, ⟨l, g2⟩, g3, g4⟩ := tIn_ok h hc k (by omega)
    have e : tIn kept seen adj root cur (k + 1) T = if tIs kept adj cur k (tIn kept seen adj root cur k T) = true then tRe seen root (tIn kept seen adj root cur k T) k else tIn kept seen adj root cur k T := rfl
    generalize tIn kept seen adj root cur k T = T1 at *
    rw [e]
    by_cases hi : tIs kept adj cur k T1 = true
    · rw [if_pos hi]
      simp only [tIs, Bool.and_eq_true, Option.isNone_iff_eq_none] at hi
      refine ⟨tI_re g1 (by omega) hi.1.1 hi.1.2 (by rw [g2]; exact List.mem_append_left _ hc) hi.2, ⟨l ++ [k], ?_⟩, fun m hm => ?_, fun o ho ko ao => ?_⟩
      · show T1.2.2.2.1 ++ [k] = _
        rw [g2, List.append_assoc]
      · show tu T1.1 k (some root) m = T.1 m
        unfold tu
        rw [if_neg (fun q => by subst q; rw [← g3 m hm] at hm; exact hm hi.1.2)]
        exact g3 m hm
      · show ¬ tu T1.1 k (some root) o = none
        unfold tu
        by_cases e2 : o = k
        · rw [if_pos e2]; exact fun q => by cases q
        · rw [if_neg e2]; exact g4 o (by omega) ko ao
    · rw [if_neg hi]
      refine ⟨g1, ⟨l, g2⟩, g3, fun o ho ko ao => ?_⟩
      by_cases e2 : o = k
      · subst e2
        intro q
        apply hi
        simp only [tIs, ko, ao, q, Option.isNone_none, Bool.and_self]
      · exact g4 o (by omega) ko ao
theorem tFo_ok {T0 : tT} {root : Nat} (hn : n ≤ 60) : ∀ (k i : Nat) (T : tT), i + k = 60 → tI kept seen adj n T0 root T → (∀ j, j < i → ∀ o, o < n → kept o = true → adj (T.2.2.2.1.getD j 0) o = true → ¬ T.1 o = none) → i ≤ T.2.2.2.1.length → (let T' := tFo kept seen adj root n k i T; tI kept seen adj n T0 root T' ∧ ∀ m, m ∈ T'.2.2.2.1 → ∀ o, o < n → kept o = true → adj m o = true → ¬ T'.1 o = none)
  | 0, i, T, hik, h, hp, hi => by
    refine ⟨h, fun m hm o ho ko ao => ?_⟩
    have hm : m ∈ T.2.2.2.1 := hm
    show ¬ T.1 o = none
    have hl := tpig n T.2.2.2.1 h.2.2.2.1 (fun m hm => (h.2.2.1 m hm).1)
    obtain ⟨j, hj, e⟩ := List.getElem_of_mem hm
    refine hp j (by omega) o ho ko ?_
    rw [List.getD_eq_getElem?_getD, List.getElem?_eq_getElem hj, Option.getD_some, e]
    exact ao
  | k + 1, i, T, hik, h, hp, hi => by
    unfold tFo
    by_cases hl : i < T.2.2.2.1.length
    · rw [if_pos hl]
      have hg : T.2.2.2.1.getD i 0 ∈ T.2.2.2.1 := by
        rw [List.getD_eq_getElem?_getD, List.getElem?_eq_getElem hl, Option.getD_some]
        exact List.getElem_mem hl
      obtain ⟨g1, ⟨l, g2⟩, g3, g4⟩ := tIn_ok h hg n (Nat.le_refl n)
      have gq : ∀ j, j < T.2.2.2.1.length → (tIn kept seen adj root (T.2.2.2.1.getD i 0) n T).2.2.2.1.getD j 0 = T.2.2.2.1.getD j 0 := by
        intro j hj
        rw [g2, List.getD_eq_getElem?_getD, List.getD_eq_getElem?_getD, List.getElem?_append_left hj]
      refine tFo_ok hn k (i + 1) _ (by omega) g1 (fun j hj o ho ko ao => ?_) (by rw [g2, List.length_append]; omega)
      rw [gq j (by omega)] at ao
      by_cases e : j = i
      · subst e; exact g4 o ho ko ao
      · have := hp j (by omega) o ho ko ao
        rw [g3 o this]
        exact this
    · rw [if_neg hl]
      refine ⟨h, fun m hm o ho ko ao => ?_⟩
      obtain ⟨j, hj, e⟩ := List.getElem_of_mem hm
      refine hp j (by omega) o ho ko ?_
      rw [List.getD_eq_getElem?_getD, List.getElem?_eq_getElem hj, Option.getD_some, e]
      exact ao
/-- between threads -/
def tO (kept seen : Nat → Bool) (adj : Nat → Nat → Bool) (n i : Nat) (T : tT) : Prop :=
  (∀ m, m < i → kept m = true → ¬ T.1 m = none) ∧ (∀ m j, m < n → T.1 m = some j → kept m = true ∧ j ≤ m ∧ kept j = true) ∧
  (∀ a b, a < n → b < n → kept a = true → kept b = true → adj a b = true → ¬ T.1 a = none → T.1 b = T.1 a) ∧
  (∀ c, tCst kept adj n c → ∀ m j, m < n → T.1 m = some j → c m = c j) ∧ tC seen n T ∧ T.2.2.2.2 = tcnt (fun m => decide (T.1 m = some m)) n
theorem tO_step (hn : n ≤ 60) (hsym : ∀ a b, adj a b = adj b a) {i : Nat} {T : tT} (hi : i < n) (h : tO kept seen adj n i T) : tO kept seen adj n (i + 1) (if (kept i && (T.1 i).isNone) = true then tFo kept seen adj i n 60 0 (tSt seen i T) else T) := by
  obtain ⟨h1, h2, h3, h4, h5, h6⟩ := h
  by_cases hl : (kept i && (T.1 i).isNone) = true
  · rw [if_pos hl]
    rw [Bool.and_eq_true, Option.isNone_iff_eq_none] at hl
    obtain ⟨ki, ri⟩ := hl
    have hst : tI kept seen adj n T i (tSt seen i T) := by
      refine ⟨fun m hm hm0 => ?_, fun m hm hm0 => ?_, fun m hm => ?_, by simp [tSt, tRe], fun c hc m hm => ?_, tC_re (T := (T.1, T.2.1, T.2.2.1, [], T.2.2.2.2 + 1)) h5 hi ri, rfl, by simp [tSt, tRe]⟩
      · show tu T.1 i (some i) m = T.1 m
        unfold tu
        rw [if_neg (fun q => by subst q; exact hm0 ri)]
      · show tu T.1 i (some i) m = none ∨ m ∈ ([] ++ [i] : List Nat)
        unfold tu
        by_cases e : m = i
        · exact Or.inr (by simp [e])
        · rw [if_neg e]; exact Or.inl hm0
      · have hm : m ∈ ([] ++ [i] : List Nat) := hm
        rw [List.nil_append, List.mem_singleton] at hm
        subst hm
        refine ⟨hi, ki, ri, ?_⟩
        show tu T.1 m (some m) m = some m
        unfold tu; rw [if_pos rfl]
      · have hm : m ∈ ([] ++ [i] : List Nat) := hm
        rw [List.nil_append, List.mem_singleton] at hm
        rw [hm]
    obtain ⟨g, gn⟩ := tFo_ok hn 60 0 (tSt seen i T) rfl hst (fun j hj => absurd hj (Nat.not_lt_zero j)) (Nat.zero_le _)
    generalize tFo kept seen adj i n 60 0 (tSt seen i T) = T' at g gn ⊢
    obtain ⟨g1, g2, g3, g4, g5, g6, g7, g8⟩ := g
    have hri : T'.1 i = some i := (g3 i g8).2.2.2
    have hge : ∀ m, m ∈ T'.2.2.2.1 → i ≤ m := by
      intro m hm
      obtain ⟨a, b, c, -⟩ := g3 m hm
      by_cases e : m < i
      · exact absurd c (h1 m e b)
      · omega
    have hnew : ∀ m, m < n → T.1 m = none → ¬ T'.1 m = none → m ∈ T'.2.2.2.1 := fun m hm e e' => (g2 m hm e).resolve_left e'
    refine ⟨fun m hm km => ?_, fun m j hm e => ?_, fun a b ha hb ka kb hab hra => ?_, fun c hc m j hm e => ?_, g6, ?_⟩
    · by_cases e : m = i
      · subst e; rw [hri]; exact fun q => by cases q
      · have := h1 m (by omega) km
        rw [g1 m (by omega) this]; exact this
    · by_cases e0 : T.1 m = none
      · have hm' := hnew m hm e0 (by rw [e]; exact fun q => by cases q)
        have := g3 m hm'
        rw [this.2.2.2] at e
        cases e
        exact ⟨this.2.1, hge m hm', ki⟩
      · rw [g1 m hm e0] at e
        exact h2 m j hm e
    · by_cases e0 : T.1 a = none
      · have ha' := hnew a ha e0 hra
        have hb' : ¬ T'.1 b = none := gn a ha' b hb kb hab
        have hb0 : T.1 b = none := by
          by_cases e : T.1 b = none
          · exact e
          · have := h3 b a hb ha kb ka (by rw [hsym]; exact hab) e
            rw [e0] at this
            exact absurd this.symm e
        rw [(g3 a ha').2.2.2, (g3 b (hnew b hb hb0 hb')).2.2.2]
      · have hb0 := h3 a b ha hb ka kb hab e0
        rw [g1 a ha e0, g1 b hb (by rw [hb0]; exact e0)]
        exact hb0
    · by_cases e0 : T.1 m = none
      · have hm' := hnew m hm e0 (by rw [e]; exact fun q => by cases q)
        rw [(g3 m hm').2.2.2] at e
        cases e
        exact g5 c hc m hm'
      · rw [g1 m hm e0] at e
        exact h4 c hc m j hm e
    · rw [g7, h6]
      refine (tcnt_one (a := i) n hi (fun m hm hmi => ?_) (by rw [ri]; rfl) (by rw [hri]; simp)).symm
      by_cases e0 : T.1 m = none
      · rw [e0]
        rcases g2 m hm e0 with q | q
        · rw [q]
        · rw [(g3 m q).2.2.2]
          simp only [Option.some.injEq, reduceCtorEq, decide_false, decide_eq_false_iff_not]
          exact fun q => hmi q.symm
      · rw [g1 m hm e0]
  · rw [if_neg hl]
    refine ⟨fun m hm km => ?_, h2, h3, h4, h5, h6⟩
    by_cases e : m = i
    · subst e
      intro q
      apply hl
      rw [km, q]; rfl
    · exact h1 m (by omega) km
theorem tDr_ok (hn : n ≤ 60) (hsym : ∀ a b, adj a b = adj b a) : ∀ k, k ≤ n → tO kept seen adj n k (tDr kept seen adj n k)
  | 0, _ => by
    refine ⟨fun m hm => absurd hm (Nat.not_lt_zero m), fun m j _ e => ?_, fun a b _ _ _ _ _ h => absurd rfl h, fun c _ m j _ e => ?_, ⟨fun t => (tcnt_0 n).symm, fun t => (tcnt_0 n).symm⟩, (tcnt_0 n).symm⟩
    · cases e
    · cases e
  | k + 1, hk => tO_step hn hsym (by omega) (tDr_ok hn hsym k (by omega))
theorem tO_lab {T : tT} (h : tO kept seen adj n n T) : tLab kept adj n T.1 := by
  obtain ⟨h1, h2, h3, h4, h5, h6⟩ := h
  refine ⟨fun m hm km => ?_, fun m hm km => ?_, fun a b ha hb ka kb hab => (h3 a b ha hb ka kb hab (h1 a ha ka)).symm, h4⟩
  · cases e : T.1 m with
    | none => rfl
    | some j => rw [(h2 m j hm e).1] at km; cases km
  · cases e : T.1 m with
    | none => exact absurd e (h1 m hm km)
    | some j => exact ⟨j, rfl, (h2 m j hm e).2⟩
end TH
/-- the reference's labels -/
def mRl (r : Nat → Option Nat) (less more m : Nat) : Nat → Option Nat := fun k => if k ≤ m ∧ r k = some more then some less else r k
def mIn (adj : Nat → Nat → Bool) (m o : Nat) (r : Nat → Option Nat) : Nat → Option Nat := match r o, r m with
  | some a, some b => if adj m o = true ∧ ¬ a = b then mRl r (if a < b then a else b) (if a < b then b else a) m else r
  | _, _ => r
def mRo (kept : Nat → Bool) (adj : Nat → Nat → Bool) (n : Nat) : Nat → Option Nat := zfo (fun m r => zfo (mIn adj m) m (tu r m (if kept m = true then some m else none))) n (fun _ => none)
section TH
variable {kept : Nat → Bool} {adj : Nat → Nat → Bool}
def mI (kept : Nat → Bool) (adj : Nat → Nat → Bool) (m o : Nat) (r : Nat → Option Nat) : Prop :=
  (∀ k, k ≤ m → kept k = false → r k = none) ∧ (∀ k, k ≤ m → kept k = true → ∃ j, r k = some j ∧ j ≤ k ∧ kept j = true) ∧
  (∀ a b, a < m → b < m → kept a = true → kept b = true → adj a b = true → r a = r b) ∧ (∀ a, a < o → kept a = true → kept m = true → adj m a = true → r a = r m) ∧
  (∀ c, tCst kept adj (m + 1) c → ∀ k j, k ≤ m → r k = some j → c k = c j)
theorem mI_rl {m o a b less more : Nat} {r : Nat → Option Nat} (hsym : ∀ a b, adj a b = adj b a) (ho : o < m) (h : mI kept adj m o r) (e1 : r o = some a) (e2 : r m = some b) (ha : adj m o = true) (hlm : less ≤ more) (hc : (less = a ∧ more = b) ∨ (less = b ∧ more = a)) : mI kept adj m (o + 1) (mRl r less more m) := by
  obtain ⟨h1, h2, h3, h4, h5⟩ := h
  have ko : kept o = true := by
    cases k : kept o with
    | true => rfl
    | false => rw [h1 o (by omega) k] at e1; cases e1
  have km : kept m = true := by
    cases k : kept m with
    | true => rfl
    | false => rw [h1 m (by omega) k] at e2; cases e2
  have kl : kept less = true := by
    rcases hc with ⟨q, -⟩ | ⟨q, -⟩
    · obtain ⟨j, g1, -, g2⟩ := h2 o (by omega) ko
      rw [e1] at g1; cases g1; rw [q]; exact g2
    · obtain ⟨j, g1, -, g2⟩ := h2 m (by omega) km
      rw [e2] at g1; cases g1; rw [q]; exact g2
  have heq : ∀ x y, x ≤ m → y ≤ m → r x = r y → mRl r less more m x = mRl r less more m y := by
    intro x y hx hy e
    unfold mRl
    simp only [hx, hy, true_and, e]
  refine ⟨fun k hk kk => ?_, fun k hk kk => ?_, fun x y hx hy kx ky hxy => heq x y (by omega) (by omega) (h3 x y hx hy kx ky hxy), fun x hx kx _ hmx => ?_, fun c hcc k j hk e => ?_⟩
  · unfold mRl
    rw [h1 k hk kk, if_neg (fun q => by cases q.2)]
  · obtain ⟨j, g1, g2, g3⟩ := h2 k hk kk
    unfold mRl
    by_cases e : j = more
    · subst e
      rw [if_pos ⟨hk, g1⟩]
      exact ⟨less, rfl, by omega, kl⟩
    · rw [if_neg (fun q => by rw [g1] at q; exact e (Option.some.inj q.2))]
      exact ⟨j, g1, g2, g3⟩
  · by_cases e : x = o
    · subst e
      have hl : ∀ z v, z ≤ m → r z = some v → (v = less ∨ v = more) → mRl r less more m z = some less := by
        intro z v hz hv hvv
        unfold mRl
        rcases hvv with q | q
        · subst q
          rw [hv]
          split
          · rfl
          · rfl
        · subst q
          rw [if_pos ⟨hz, hv⟩]
      rw [hl x a (by omega) e1 (by omega), hl m b (by omega) e2 (by omega)]
    · exact heq x m (by omega) (by omega) (h4 x (by omega) kx km hmx)
  · have q1 := h5 c hcc o a (by omega) e1
    have q2 := h5 c hcc m b (by omega) e2
    have q3 := hcc m o (by omega) (by omega) km ko ha
    unfold mRl at e
    split at e
    · next hh =>
      cases e
      rw [h5 c hcc k more hk hh.2]
      rcases hc with ⟨u, v⟩ | ⟨u, v⟩ <;> subst u <;> subst v <;> omega
    · exact h5 c hcc k j hk e
theorem mI_in (hsym : ∀ a b, adj a b = adj b a) {m o : Nat} {r : Nat → Option Nat} (ho : o < m) (h : mI kept adj m o r) : mI kept adj m (o + 1) (mIn adj m o r) := by
  have h0 := h
  obtain ⟨h1, h2, h3, h4, h5⟩ := h
  have same : (kept o = true → kept m = true → adj m o = true → r o = r m) → mI kept adj m (o + 1) r := fun q => ⟨h1, h2, h3, fun a ha ka km ham => by
    by_cases e : a = o
    · subst e; exact q ka km ham
    · exact h4 a (by omega) ka km ham, h5⟩
  unfold mIn
  split
  · next a b e1 e2 =>
    split
    · next hh =>
      refine mI_rl hsym ho h0 e1 e2 hh.1 ?_ ?_
      · split <;> omega
      · split
        · exact Or.inl ⟨rfl, rfl⟩
        · exact Or.inr ⟨rfl, rfl⟩
    · next hh =>
      refine same (fun _ _ ham => ?_)
      rw [e1, e2]
      by_cases e : a = b
      · rw [e]
      · exact absurd ⟨ham, e⟩ hh
  · next hh =>
    refine same (fun ko km _ => ?_)
    obtain ⟨j, g1, -, -⟩ := h2 o (by omega) ko
    obtain ⟨j', g2, -, -⟩ := h2 m (by omega) km
    exact (hh j j' g1 g2).elim
theorem mI_all (hsym : ∀ a b, adj a b = adj b a) {m : Nat} {r : Nat → Option Nat} (h : mI kept adj m 0 r) : ∀ o, o ≤ m → mI kept adj m o (zfo (mIn adj m) o r)
  | 0, _ => h
  | o + 1, ho => mI_in hsym (by omega) (mI_all hsym h o (by omega))
theorem mRo_ok (hsym : ∀ a b, adj a b = adj b a) : ∀ n, tLab kept adj n (mRo kept adj n)
  | 0 => ⟨fun m h => absurd h (Nat.not_lt_zero m), fun m h => absurd h (Nat.not_lt_zero m), fun a _ h => absurd h (Nat.not_lt_zero a), fun _ _ m _ h => absurd h (Nat.not_lt_zero m)⟩
  | m + 1 => by
    obtain ⟨h1, h2, h3, h4⟩ := mRo_ok hsym m
    have e : mRo kept adj (m + 1) = zfo (mIn adj m) m (tu (mRo kept adj m) m (if kept m = true then some m else none)) := rfl
    generalize mRo kept adj m = r0 at *
    have hi : mI kept adj m 0 (tu r0 m (if kept m = true then some m else none)) := by
      have ht : ∀ k, k < m → tu r0 m (if kept m = true then some m else none) k = r0 k := fun k hk => if_neg (by omega)
      have hm : tu r0 m (if kept m = true then some m else none) m = if kept m = true then some m else none := if_pos rfl
      refine ⟨fun k hk kk => ?_, fun k hk kk => ?_, fun a b ha hb ka kb hab => ?_, fun a ha => absurd ha (Nat.not_lt_zero a), fun c hc k j hk ej => ?_⟩
      · by_cases ek : k = m
        · subst ek; rw [hm, kk]; rfl
        · rw [ht k (by omega)]; exact h1 k (by omega) kk
      · by_cases ek : k = m
        · subst ek; rw [hm, kk]; exact ⟨k, rfl, Nat.le_refl k, kk⟩
        · rw [ht k (by omega)]; exact h2 k (by omega) kk
      · rw [ht a ha, ht b hb]; exact h3 a b ha hb ka kb hab
      · by_cases ek : k = m
        · subst ek
          rw [hm] at ej
          split at ej
          · cases ej; rfl
          · cases ej
        · rw [ht k (by omega)] at ej
          exact h4 c (fun a b ha hb => hc a b (by omega) (by omega)) k j (by omega) ej
    obtain ⟨g1, g2, g3, g4, g5⟩ := mI_all hsym hi m (Nat.le_refl m)
    rw [e]
    generalize zfo (mIn adj m) m (tu r0 m (if kept m = true then some m else none)) = r at *
    refine ⟨fun k hk => g1 k (by omega), fun k hk => g2 k (by omega), fun a b ha hb ka kb hab => ?_, fun c hc k j hk => g5 c hc k j (by omega)⟩
    by_cases ea : a = m
    · subst ea
      by_cases eb : b = a
      · rw [eb]
      · exact (g4 b (by omega) kb ka hab).symm
    · by_cases eb : b = m
      · subst eb
        exact g4 a (by omega) ka kb (by rw [hsym]; exact hab)
      · exact g3 a b (by omega) (by omega) ka kb hab
end TH
/-! who gets a message, in pure words -/
def rAdd (l : List Nat) (k : Nat) : List Nat := if k ∈ l then l else l ++ [k]
theorem rAdd_pre (s : List Nat) : ∀ (q : List Nat) (l : List Nat), (∃ t, l = s ++ t) → ∃ t, q.foldl rAdd l = s ++ t
  | [], l, h => h
  | k :: q, l, ⟨t, e⟩ => by
    refine rAdd_pre s q (rAdd l k) ?_
    unfold rAdd
    split
    · exact ⟨t, e⟩
    · exact ⟨t ++ [k], by rw [e, List.append_assoc]⟩
theorem rAdd_nd : ∀ (q l : List Nat), l.Nodup → (q.foldl rAdd l).Nodup
  | [], _, h => h
  | k :: q, l, h => by
    refine rAdd_nd q (rAdd l k) ?_
    unfold rAdd
    split
    · exact h
    · next hk =>
      rw [List.nodup_append]
      refine ⟨h, by simp, fun a ha b hb => ?_⟩
      rw [List.mem_singleton] at hb
      subst hb
      exact fun e => hk (e ▸ ha)
theorem rAdd_all {P : Nat → Prop} : ∀ (q l : List Nat), (∀ k, k ∈ l → P k) → (∀ k, k ∈ q → P k) → ∀ k, k ∈ q.foldl rAdd l → P k
  | [], _, h, _ => h
  | a :: q, l, h, hq => by
    refine rAdd_all q (rAdd l a) ?_ (fun k hk => hq k (List.mem_cons_of_mem _ hk))
    unfold rAdd
    intro k hk
    split at hk
    · exact h k hk
    · rcases List.mem_append.mp hk with e | e
      · exact h k e
      · rw [List.mem_singleton] at e
        subst e
        exact hq _ List.mem_cons_self
/-- the class's way -/
def rLp (G : Nat → List Nat) : Nat → Nat → List Nat → List Nat
  | 0, _, l => l
  | k + 1, i, l => if i < l.length then rLp G k (i + 1) ((G (l.getD i 0)).foldl rAdd l) else l
/-- the reference's way -/
def rQu (G : Nat → List Nat) : Nat → List Nat → List Nat → List Nat
  | 0, _, V => V
  | _ + 1, [], V => V
  | k + 1, p :: q, V => if p ∈ V then rQu G k q V else rQu G k (q ++ G p) (V ++ [p])
theorem rQu_eq {G : Nat → List Nat} (hG : ∀ p, p < 4 → (G p).length ≤ 6 ∧ ∀ k, k ∈ G p → k < 4) : ∀ (k : Nat) (q V : List Nat) (j : Nat), V.Nodup → (∀ p, p ∈ V → p < 4) → (∀ p, p ∈ q → p < 4) → q.length + 7 * (4 - V.length) < k → j + V.length = 4 → rQu G k q V = rLp G j V.length (q.foldl rAdd V)
  | 0, _, _, _, _, _, _, h, _ => by omega
  | k + 1, [], V, j, hd, hV, hq, hk, hj => by
    show V = rLp G j V.length V
    cases j with
    | zero => rfl
    | succ j => unfold rLp; rw [if_neg (Nat.lt_irrefl _)]
  | k + 1, p :: q, V, j, hd, hV, hq, hk, hj => by
    unfold rQu
    have hl := tpig 4 V hd hV
    have e0 : (p :: q).foldl rAdd V = q.foldl rAdd (rAdd V p) := rfl
    simp only [List.length_cons] at hk
    by_cases hp : p ∈ V
    · rw [if_pos hp, e0, show rAdd V p = V from if_pos hp]
      exact rQu_eq hG k q V j hd hV (fun a ha => hq a (List.mem_cons_of_mem _ ha)) (by omega) hj
    · rw [if_neg hp, e0, show rAdd V p = V ++ [p] from if_neg hp]
      have hp4 : p < 4 := hq p List.mem_cons_self
      have hd' : (V ++ [p]).Nodup := by
        rw [List.nodup_append]
        refine ⟨hd, by simp, fun a ha b hb => ?_⟩
        rw [List.mem_singleton] at hb
        subst hb
        exact fun e => hp (e ▸ ha)
      have hV' : ∀ a, a ∈ V ++ [p] → a < 4 := fun a ha => by
        rcases List.mem_append.mp ha with e | e
        · exact hV a e
        · rw [List.mem_singleton] at e; subst e; exact hp4
      have hl' := tpig 4 (V ++ [p]) hd' hV'
      rw [List.length_append, List.length_singleton] at hl'
      have ih := rQu_eq hG k (q ++ G p) (V ++ [p]) (j - 1) hd' hV' (fun a ha => by
        rcases List.mem_append.mp ha with e | e
        · exact hq a (List.mem_cons_of_mem _ e)
        · exact (hG p hp4).2 a e) (by
          have := (hG p hp4).1
          rw [List.length_append, List.length_append, List.length_singleton]
          omega) (by rw [List.length_append, List.length_singleton]; omega)
      rw [ih, List.foldl_append, List.length_append, List.length_singleton]
      obtain ⟨t, ht⟩ := rAdd_pre (V ++ [p]) q (V ++ [p]) ⟨[], (List.append_nil _).symm⟩
      have hj' : j = (j - 1) + 1 := by omega
      generalize q.foldl rAdd (V ++ [p]) = l at ht ⊢
      have hlen : V.length < l.length := by rw [ht]; simp
      have hget : l.getD V.length 0 = p := by
        rw [ht, List.append_assoc, List.getD_eq_getElem?_getD, List.getElem?_append_right (Nat.le_refl _)]
        simp
      conv => rhs; rw [hj']
      show _ = rLp G (j - 1 + 1) V.length l
      unfold rLp
      rw [if_pos hlen, hget]
      cases j - 1 <;> rfl
theorem m1_lt : (-1 : Int32) < nI 0 := by decide
theorem nI_m1 {k : Nat} (h : k < 2147483648) : ¬ nI k = -1 := by
  intro e
  have := congrArg Int32.toInt e
  rw [nI_toInt (by omega)] at this
  have e2 : (-1 : Int32).toInt = -1 := by decide
  omega
/-- the reference's way up -/
def sBl (par : Nat → Int32) (a : Int32) : Nat → Int32 → Bool
  | 0, _ => false
  | k + 1, f => if f = -1 then false else if f = a then true else sBl par a k (par f.toNatClampNeg)
/-- a forest: ranks fall upwards -/
def zRk (par : Nat → Int32) (c : Nat) (d : Nat → Nat) : Prop := ∀ k, k < c → par k = -1 ∨ ∃ j, j < c ∧ par k = nI j ∧ d j < d k
def zFor (par : Nat → Int32) (c : Nat) : Prop := ∃ d : Nat → Nat, (∀ k, d k < 8) ∧ zRk par c d
theorem tcnt_lt {P P' : Nat → Bool} {a : Nat} : ∀ n, a < n → (∀ m, m < n → P m = true → P' m = true) → P a = false → P' a = true → tcnt P n < tcnt P' n
  | 0, h, _, _, _ => by omega
  | n + 1, h, hs, h0, h1 => by
    have mono : ∀ k, k ≤ n → tcnt P k ≤ tcnt P' k := by
      intro k
      induction k with
      | zero => intro _; exact Nat.le_refl _
      | succ k ih =>
        intro hk
        unfold tcnt
        have := ih (by omega)
        have h3 := hs k (by omega)
        cases e : P k
        · simp; omega
        · rw [h3 e]; simp; omega
    unfold tcnt
    by_cases e : a = n
    · subst e
      have := mono a (Nat.le_refl a)
      rw [h0, h1]; simp; omega
    · have := tcnt_lt n (by omega) (fun m hm => hs m (by omega)) h0 h1
      have h3 := hs n (by omega)
      cases e2 : P n
      · simp; omega
      · rw [h3 e2]; simp; omega
theorem tcnt_all : ∀ n, tcnt (fun _ => true) n = n
  | 0 => rfl
  | n + 1 => by unfold tcnt; rw [tcnt_all n]; simp
theorem zFor_of {par : Nat → Int32} {c : Nat} {d : Nat → Nat} (hc : c ≤ 8) (h : zRk par c d) : zFor par c := by
  refine ⟨fun k => if k < 8 then tcnt (fun j => decide (d j < d k)) 8 else 0, fun k => ?_, fun k hk => ?_⟩
  · dsimp only
    split
    · next hk =>
      have := tcnt_lt (P := fun j => decide (d j < d k)) (P' := fun _ => true) (a := k) 8 hk (fun _ _ _ => rfl) (by simp) rfl
      rw [tcnt_all] at this
      exact this
    · omega
  · rcases h k hk with e | ⟨j, hj, e, hd⟩
    · exact Or.inl e
    · refine Or.inr ⟨j, hj, e, ?_⟩
      show (if j < 8 then _ else 0) < (if k < 8 then _ else 0)
      rw [if_pos (by omega), if_pos (by omega)]
      refine tcnt_lt (a := j) 8 (by omega) (fun m _ hm => ?_) (by simp) (by simpa using hd)
      simp only [decide_eq_true_eq] at hm ⊢
      omega
section FO
variable {par : Nat → Int32} {c : Nat} {d : Nat → Nat}
theorem sBl_st (hr : zRk par c d) (hc : c ≤ 8) (a : Int32) : ∀ (k k' : Nat) (f : Int32), (f = -1 ∨ ∃ j, j < c ∧ f = nI j ∧ d j < k ∧ d j < k') → 0 < k → 0 < k' → sBl par a k f = sBl par a k' f
  | 0, _, _, _, h, _ => by omega
  | k + 1, 0, _, _, _, h => by omega
  | k + 1, k' + 1, f, h, _, _ => by
    unfold sBl
    rcases h with e | ⟨j, hj, e, h1, h2⟩
    · rw [if_pos e, if_pos e]
    · subst e
      rw [if_neg (nI_m1 (by omega)), if_neg (nI_m1 (by omega)), nI_clamp (by omega)]
      split
      · rfl
      · rcases hr j hj with e | ⟨i, hi, e, hd⟩
        · rw [e]
          cases k <;> cases k' <;> simp [sBl]
        · exact sBl_st hr hc a k k' _ (Or.inr ⟨i, hi, e, by omega, by omega⟩) (by omega) (by omega)
theorem sWi_bl (hr : zRk par c d) (hc : c ≤ 8) (a : Int32) : ∀ (k f : Nat), f < c → sWi (nI c) par a (k + 1) (nI f) = (decide (nI f = a) || sBl par a k (par f))
  | 0, f, hf => by
    unfold sWi
    rw [if_neg (nI_nlt (Nat.zero_le f) (by omega)), if_pos (nI_lt hf (by omega))]
    by_cases e : nI f = a
    · simp [e]
    · simp [e, sWi, sBl]
  | k + 1, f, hf => by
    unfold sWi
    rw [if_neg (nI_nlt (Nat.zero_le f) (by omega)), if_pos (nI_lt hf (by omega)), nI_clamp (by omega)]
    by_cases e : nI f = a
    · simp [e]
    · rw [if_neg e, decide_eq_false e, Bool.false_or]
      rcases hr f hf with e1 | ⟨j, hj, e1, hd⟩
      · rw [e1]
        unfold sWi sBl
        rw [if_pos m1_lt, if_pos rfl]
      · rw [e1, sWi_bl hr hc a k j hj]
        conv => rhs; unfold sBl
        rw [if_neg (nI_m1 (by omega)), nI_clamp (by omega)]
        by_cases e2 : nI j = a
        · simp [e2]
        · rw [if_neg e2, decide_eq_false e2, Bool.false_or]
theorem sWi_8 (hd : ∀ k, d k < 8) (hr : zRk par c d) (hc : c ≤ 8) (a : Int32) {f : Nat} (hf : f < c) : sWi (nI c) par a 8 (nI f) = (decide (nI f = a) || sBl par a 8 (par f)) := by
  rw [sWi_bl hr hc a 7 f hf]
  congr 1
  refine sBl_st hr hc a 7 8 _ ?_ (by omega) (by omega)
  rcases hr f hf with e | ⟨j, hj, e, h1⟩
  · exact Or.inl e
  · have := hd f
    exact Or.inr ⟨j, hj, e, by omega, by omega⟩
theorem sWi_up (hd : ∀ k, d k < 8) (hr : zRk par c d) (hc : c ≤ 8) (a : Int32) {f j : Nat} (hf : f < c) (hj : j < c) (e : par f = nI j) (hne : ¬ nI f = a) : sWi (nI c) par a 8 (nI f) = sWi (nI c) par a 8 (nI j) := by
  rw [sWi_8 hd hr hc a hf, decide_eq_false hne, Bool.false_or, e, sWi_bl hr hc a 7 j hj]
  rw [show sBl par a 8 (nI j) = if nI j = -1 then false else if nI j = a then true else sBl par a 7 (par (nI j).toNatClampNeg) from rfl, if_neg (nI_m1 (by omega)), nI_clamp (by omega)]
  by_cases e2 : nI j = a
  · simp [e2]
  · rw [if_neg e2, decide_eq_false e2, Bool.false_or]
theorem sWi_self (hd : ∀ k, d k < 8) (hr : zRk par c d) (hc : c ≤ 8) {f : Nat} (hf : f < c) : sWi (nI c) par (nI f) 8 (nI f) = true := by
  rw [sWi_8 hd hr hc _ hf]; simp
end FO
theorem zFor_new {par : Nat → Int32} {c p : Nat} (h : zFor par c) (hc : c < 8) (hp : p < c) : zFor (fun k => if k = c then nI p else par k) (c + 1) := by
  obtain ⟨d, hd, hr⟩ := h
  refine zFor_of (d := fun k => if k = c then 8 else d k) (by omega) (fun k hk => ?_)
  by_cases e : k = c
  · subst e
    refine Or.inr ⟨p, by omega, if_pos rfl, ?_⟩
    have := hd p
    show (if p = k then 8 else d p) < (if k = k then 8 else d k)
    rw [if_pos rfl, if_neg (by omega)]
    exact this
  · rw [if_neg e]
    rcases hr k (by omega) with e1 | ⟨j, hj, e1, h1⟩
    · exact Or.inl e1
    · refine Or.inr ⟨j, by omega, e1, ?_⟩
      show (if j = c then 8 else d j) < (if k = c then 8 else d k)
      rw [if_neg (by omega), if_neg e]; exact h1
theorem zFor_nest {par : Nat → Int32} {c f p : Nat} (h : zFor par c) (hc : c ≤ 8) (hp : p < c) (hf : f < c) (hw : ¬ sWi (nI c) par (nI f) 8 (nI p) = true) : zFor (fun k => if k = f then nI p else par k) c := by
  obtain ⟨d, hd, hr⟩ := h
  refine zFor_of (d := fun k => d k + (if sWi (nI c) par (nI f) 8 (nI k) = true then 8 else 0)) hc (fun k hk => ?_)
  by_cases e : k = f
  · subst e
    refine Or.inr ⟨p, hp, if_pos rfl, ?_⟩
    have := hd p
    show d p + (if sWi (nI c) par (nI k) 8 (nI p) = true then 8 else 0) < d k + (if sWi (nI c) par (nI k) 8 (nI k) = true then 8 else 0)
    rw [if_neg hw, if_pos (sWi_self hd hr hc hk)]
    omega
  · rw [if_neg e]
    rcases hr k hk with e1 | ⟨j, hj, e1, h1⟩
    · exact Or.inl e1
    · refine Or.inr ⟨j, hj, e1, ?_⟩
      show d j + (if sWi (nI c) par (nI f) 8 (nI j) = true then 8 else 0) < d k + (if sWi (nI c) par (nI f) 8 (nI k) = true then 8 else 0)
      rw [sWi_up hd hr hc (nI f) hk hj e1 (fun q => e ((nI_eq (by omega) (by omega)).mp q))]
      omega
