/-! the calls, one by one: send (source: wip/p35/src/238.th.txt, by expand2.py) -/
theorem zfoldl {A B : Type} {f g : A → B → A} : ∀ (l : List B) (s : A), (∀ a b, b ∈ l → f a b = g a b) → l.foldl f s = l.foldl g s
  | [], _, _ => rfl
  | b :: l, s, h => by
    rw [List.foldl_cons, List.foldl_cons, h s b List.mem_cons_self]
    exact zfoldl l _ (fun a c hc => h a c (List.mem_cons_of_mem _ hc))
section ZT
variable {x y : zSt} {E : zEx} {b : Nat}
end ZT
