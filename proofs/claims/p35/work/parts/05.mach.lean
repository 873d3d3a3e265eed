/-! THE PURE MACHINE: the class, the reference and the law, run over a memory of numbered cells (kinds and contents), without frames, tables or heaps.
Cell 0 is the script; the cells from 1 on are what the run has made, in order. Kinds: c < 11 an object of class c; 20 int[], 23 boolean[], 30 + c an array of class c, 40 int[][], 41 int[][][], 42 int[][][][], 43 boolean[][]; 50 the script. -/
abbrev zM : Type := Nat × (Nat → Nat × Nat) × (Nat → Nat → Value)
abbrev zO : Type := Option Value ⊕ Nat
abbrev zL : Type := List (Option Value)
abbrev zS : Type := Nat × zL × List Value × zM × Nat × Nat
abbrev zR : Type := Option (zS ⊕ (zO × zM))
abbrev zF : Type := Nat → List Value → zM → Option (zO × zM)
def zgo (pc : Nat) (L : zL) (st : List Value) (M : zM) (uc us : Nat) : zR := some (.inl (pc, L, st, M, uc, us))
def zend (o : zO) (M : zM) : zR := some (.inr (o, M))
def zput (M : zM) (a j : Nat) (v : Value) : zM := (M.1, M.2.1, fun b k => if b = a ∧ k = j then v else M.2.2 b k)
def znew (M : zM) (q : Nat × Nat) (f : Nat → Value) : zM := (M.1 + 1, fun b => if b = M.1 + 1 then q else M.2.1 b, fun b k => if b = M.1 + 1 then f k else M.2.2 b k)
def zcopy (M : zM) (s sp d dp n : Nat) : zM := (M.1, M.2.1, fun b k => if b = d ∧ dp ≤ k ∧ k < dp + n then M.2.2 s (sp + (k - dp)) else M.2.2 b k)
def zrok (n : Nat) : Value → Bool
  | .ref a => decide (a ≤ n)
  | _ => true
def zct (st : List Value) : Nat := (st.map (fun v => v.category)).sum
def zkl : Option Value → Option Value
  | some v => if v.category = 2 then none else some v
  | none => none
/-- the locals behind a store of one word; of two words -/
def zst1 : zL → Nat → Option Value → zL
  | [], _, _ => []
  | _ :: l, 0, v => v :: l
  | a :: l, 1, v => zkl a :: zst1 l 0 v
  | a :: l, i + 2, v => a :: zst1 l (i + 1) v
def zst2 : zL → Nat → Value → zL
  | [], _, _ => []
  | [_], 0, _ => []
  | _ :: _ :: l, 0, v => some v :: none :: l
  | a :: l, 1, v => zkl a :: zst2 l 0 v
  | a :: l, i + 2, v => a :: zst2 l (i + 1) v
def zpop : Nat → List Value → List Value → Option (List Value × List Value)
  | 0, acc, st => some (acc, st)
  | n + 1, acc, v :: st => zpop n (v :: acc) st
  | _ + 1, _, [] => none
def zsl (vs : List Value) : zL := vs.flatMap fun v => if v.category = 2 then [some v, none] else [some v]
def zent (n : Nat) (vs : List Value) : zL := zsl vs ++ List.replicate (n - (zsl vs).length) none
def zcnd : Jvm.ClassFile.Cond → Int32 → Int32 → Bool
  | .eq, x, y => decide (x = y)
  | .ne, x, y => decide (¬ x = y)
  | .lt, x, y => decide (x < y)
  | .ge, x, y => decide (y ≤ x)
  | .gt, x, y => decide (y < x)
  | .le, x, y => decide (x ≤ y)
def zbr (pc : Nat) (off : Int) (L : zL) (st : List Value) (M : zM) (uc us : Nat) : zR := if 0 ≤ (pc : Int) + off then zgo ((pc : Int) + off).toNat L st M uc us else none
def zfit (ty : FieldType) (v : Value) : Bool := decide (narrow ty v = v) && fits ty v
def zdef (t : Nat) : Value := if t = 21 then .long 0 else if t = 22 then .double 0 else if t < 30 then .int 0 else .null
def ztyp : ArrayType → Nat
  | .int => 20
  | .boolean => 23
  | _ => 0
def zal (M : zM) (a : Nat) : Bool := decide (1 ≤ a) && decide (a ≤ M.1)
def zfin (K : zI) (c j : Nat) : Bool := !(zT c j).2.2.2 || (decide (zk_own K = c) && decide ((zk_y K).name = "<init>"))
def zqk (k : Nat) : Bool := k == 30 || k == 31 || k == 32 || k == 34 || k == 36 || k == 37 || k == 40 || k == 41 || k == 42 || k == 43
/-- the kind of an array of things of kind k; of what an array of kind k holds -/
def zup (k : Nat) : Nat := if k < 10 then 30 + k else if k = 20 then 40 else if k = 40 then 41 else if k = 41 then 42 else if k = 23 then 43 else 0
def zdn (k : Nat) : Nat := if k = 40 then 20 else if k = 41 then 40 else if k = 42 then 41 else if k = 43 then 23 else 0
/-- new T[n][m]..: the outer array, then for each place its own -/
def zmkL (F : zM → zM × Nat) (a : Nat) : Nat → zM → zM
  | 0, M => M
  | i + 1, M => zput (F (zmkL F a i M)).1 a i (.ref (F (zmkL F a i M)).2)
def zmk : List Nat → Nat → zM → zM × Nat
  | [], _, M => (M, 0)
  | [n], k, M => (znew M (k, n) (fun _ => zdef k), M.1 + 1)
  | n :: m :: ns, k, M => (zmkL (zmk (m :: ns) (zdn k)) (M.1 + 1) n (znew M (k, n) (fun _ => .null)), M.1 + 1)
def zdok : List Nat → Nat → Bool
  | [], _ => false
  | [_], k => k == 20 || k == 23 || k == 40 || k == 41 || k == 42 || k == 43
  | _ :: m :: ns, k => (k == 40 || k == 41 || k == 42 || k == 43) && zdok (m :: ns) (zdn k)
def zmc : List Nat → Nat
  | [] => 0
  | [_] => 1
  | n :: m :: ns => 1 + n * zmc (m :: ns)
def zms : List Nat → Nat
  | [] => 0
  | [n] => n
  | n :: m :: ns => n + n * zms (m :: ns)
def zpopi : Nat → List Nat → List Value → Option (List Nat × List Value)
  | 0, acc, st => some (acc, st)
  | n + 1, acc, .int i :: st => if 0 ≤ i ∧ i.toNatClampNeg ≤ 1000 then zpopi n (i.toNatClampNeg :: acc) st else none
  | _, _, _ => none
/-- an index within an array of kind t -/
def zix (M : zM) (t a : Nat) (i : Int32) : Bool := zal M a && decide ((M.2.1 a).1 = t) && (decide (0 ≤ i) && decide (i.toNatClampNeg < (M.2.1 a).2))
def zixS (M : zM) (a : Nat) (i : Int32) : Bool := decide (a = 0) && decide ((M.2.1 a).1 = 50) && (decide (0 ≤ i) && decide (i.toNatClampNeg < (M.2.1 a).2))
/-- one step that calls nothing -/
def zsp (K : zI) (i : Instr) (pc : Nat) (L : zL) (st : List Value) (M : zM) (uc us : Nat) : zR :=
  match i with
  | .iconst n => zgo (pc + 1) L (.int (Int32.ofInt n) :: st) M uc us
  | .bipush n => zgo (pc + 2) L (.int (Int8.ofInt n).toInt32 :: st) M uc us
  | .sipush n => zgo (pc + 3) L (.int (Int16.ofInt n).toInt32 :: st) M uc us
  | .lconst n => zgo (pc + 1) L (.long (Int64.ofNat n) :: st) M uc us
  | .dconst d => if d = 0 then zgo (pc + 1) L (.double FP.dconst0 :: st) M uc us else none
  | .iload_n k => match L[k.val]? with
    | some (some (.int x)) => zgo (pc + 1) L (.int x :: st) M uc us
    | _ => none
  | .iload k => match L[k]? with
    | some (some (.int x)) => zgo (pc + 2) L (.int x :: st) M uc us
    | _ => none
  | .lload_n k => match L[k.val]? with
    | some (some (.long x)) => zgo (pc + 1) L (.long x :: st) M uc us
    | _ => none
  | .lload k => match L[k]? with
    | some (some (.long x)) => zgo (pc + 2) L (.long x :: st) M uc us
    | _ => none
  | .dload_n k => match L[k.val]? with
    | some (some (.double x)) => zgo (pc + 1) L (.double x :: st) M uc us
    | _ => none
  | .dload k => match L[k]? with
    | some (some (.double x)) => zgo (pc + 2) L (.double x :: st) M uc us
    | _ => none
  | .aload_n k => match L[k.val]? with
    | some (some (.ref x)) => zgo (pc + 1) L (.ref x :: st) M uc us
    | _ => none
  | .aload k => match L[k]? with
    | some (some (.ref x)) => zgo (pc + 2) L (.ref x :: st) M uc us
    | _ => none
  | .istore_n k => match st with
    | .int x :: r => if k.val < L.length then zgo (pc + 1) (zst1 L k.val (some (.int x))) r M uc us else none
    | _ => none
  | .istore k => match st with
    | .int x :: r => if k < L.length then zgo (pc + 2) (zst1 L k (some (.int x))) r M uc us else none
    | _ => none
  | .astore_n k => match st with
    | .ref x :: r => if k.val < L.length then zgo (pc + 1) (zst1 L k.val (some (.ref x))) r M uc us else none
    | _ => none
  | .astore k => match st with
    | .ref x :: r => if k < L.length then zgo (pc + 2) (zst1 L k (some (.ref x))) r M uc us else none
    | _ => none
  | .lstore_n k => match st with
    | .long x :: r => if k.val + 1 < L.length then zgo (pc + 1) (zst2 L k.val (.long x)) r M uc us else none
    | _ => none
  | .lstore k => match st with
    | .long x :: r => if k + 1 < L.length then zgo (pc + 2) (zst2 L k (.long x)) r M uc us else none
    | _ => none
  | .dstore k => match st with
    | .double x :: r => if k + 1 < L.length then zgo (pc + 2) (zst2 L k (.double x)) r M uc us else none
    | _ => none
  | .iinc k n => match L[k]? with
    | some (some (.int x)) => zgo (pc + 3) (zst1 L k (some (.int (x + Int32.ofInt n)))) st M uc us
    | _ => none
  | .iadd => match st with
    | .int y :: .int x :: r => zgo (pc + 1) L (.int (x + y) :: r) M uc us
    | _ => none
  | .isub => match st with
    | .int y :: .int x :: r => zgo (pc + 1) L (.int (x - y) :: r) M uc us
    | _ => none
  | .imul => match st with
    | .int y :: .int x :: r => zgo (pc + 1) L (.int (x * y) :: r) M uc us
    | _ => none
  | .iand => match st with
    | .int y :: .int x :: r => zgo (pc + 1) L (.int (x &&& y) :: r) M uc us
    | _ => none
  | .ior => match st with
    | .int y :: .int x :: r => zgo (pc + 1) L (.int (x ||| y) :: r) M uc us
    | _ => none
  | .ixor => match st with
    | .int y :: .int x :: r => zgo (pc + 1) L (.int (x ^^^ y) :: r) M uc us
    | _ => none
  | .ishl => match st with
    | .int y :: .int x :: r => zgo (pc + 1) L (.int (x <<< (y &&& 31)) :: r) M uc us
    | _ => none
  | .ishr => match st with
    | .int y :: .int x :: r => zgo (pc + 1) L (.int (x >>> (y &&& 31)) :: r) M uc us
    | _ => none
  | .idiv => match st with
    | .int y :: .int x :: r => if y = 0 then none else zgo (pc + 1) L (.int (x / y) :: r) M uc us
    | _ => none
  | .irem => match st with
    | .int y :: .int x :: r => if y = 0 then none else zgo (pc + 1) L (.int (x - x / y * y) :: r) M uc us
    | _ => none
  | .ladd => match st with
    | .long y :: .long x :: r => zgo (pc + 1) L (.long (x + y) :: r) M uc us
    | _ => none
  | .lmul => match st with
    | .long y :: .long x :: r => zgo (pc + 1) L (.long (x * y) :: r) M uc us
    | _ => none
  | .lcmp => match st with
    | .long y :: .long x :: r => zgo (pc + 1) L (.int (lg_cmp x y) :: r) M uc us
    | _ => none
  | .ddiv => match st with
    | .double y :: .double x :: r => if FP.ddiv x y &&& 0x7fffffffffffffff ≤ 0x7ff0000000000000 then zgo (pc + 1) L (.double (FP.ddiv x y) :: r) M uc us else none
    | _ => none
  | .dcmp op => match st with
    | .double y :: .double x :: r => zgo (pc + 1) L (.int (Op.cmpValue (FP.dcmp x y) op) :: r) M uc us
    | _ => none
  | .i2l => match st with
    | .int x :: r => zgo (pc + 1) L (.long x.toInt64 :: r) M uc us
    | _ => none
  | .i2d => match st with
    | .int x :: r => zgo (pc + 1) L (.double (FP.i2d x) :: r) M uc us
    | _ => none
  | .dup => match st with
    | v :: r => if v.category = 1 then zgo (pc + 1) L (v :: v :: r) M uc us else none
    | _ => none
  | .pop => match st with
    | v :: r => if v.category = 1 then zgo (pc + 1) L r M uc us else none
    | _ => none
  | .dup_x1 => match st with
    | v :: w :: r => if v.category = 1 ∧ w.category = 1 then zgo (pc + 1) L (v :: w :: v :: r) M uc us else none
    | _ => none
  | .dup_x2 => match st with
    | v :: w :: u :: r => if v.category = 1 ∧ w.category = 1 ∧ u.category = 1 then zgo (pc + 1) L (v :: w :: u :: v :: r) M uc us else none
    | _ => none
  | .dup2 => match st with
    | v :: w :: r => if v.category = 1 ∧ w.category = 1 then zgo (pc + 1) L (v :: w :: v :: w :: r) M uc us else none
    | _ => none
  | .goto off => zbr pc off L st M uc us
  | .ifCond c off => match st with
    | .int x :: r => if 0 ≤ (pc : Int) + off then (if zcnd c x 0 = true then zgo ((pc : Int) + off).toNat L r M uc us else zgo (pc + 3) L r M uc us) else none
    | _ => none
  | .if_icmp c off => match st with
    | .int y :: .int x :: r => if 0 ≤ (pc : Int) + off then (if zcnd c x y = true then zgo ((pc : Int) + off).toNat L r M uc us else zgo (pc + 3) L r M uc us) else none
    | _ => none
  | .tableswitch dflt lo hi offs => match st with
    | .int x :: r => if x.toInt < lo ∨ hi < x.toInt then zbr pc dflt L r M uc us else match offs[(x.toInt - lo).toNat]? with
      | some off => zbr pc off L r M uc us
      | none => none
    | _ => none
  | .ldc2_w ix => match zpool (zk_own K) ix with
    | some (6, x, _, _) => zgo (pc + 3) L (.long (Int64.ofNat x) :: st) M uc us
    | _ => none
  | .ldc ix => match zpool (zk_own K) ix with
    | some (7, x, _, _) => zgo (pc + 2) L (.int (Int32.ofNat x) :: st) M uc us
    | _ => none
  | .getfield ix => match zpool (zk_own K) ix with
    | some (0, c, j, _) => match st with
      | .ref a :: r => if zal M a = true ∧ M.2.1 a = (c, zN c) then zgo (pc + 3) L (M.2.2 a j :: r) M uc us else none
      | _ => none
    | _ => none
  | .putfield ix => match zpool (zk_own K) ix with
    | some (0, c, j, _) => match st with
      | v :: .ref a :: r => if zal M a = true ∧ M.2.1 a = (c, zN c) ∧ zfit (zty c j) v = true ∧ zfin K c j = true then zgo (pc + 3) L r (zput M a j v) uc us else none
      | _ => none
    | _ => none
  | .iaload => match st with
    | .int i :: .ref a :: r => if zix M 20 a i = true ∨ zixS M a i = true then match M.2.2 a i.toNatClampNeg with
      | .int x => zgo (pc + 1) L (.int x :: r) M uc us
      | _ => none
      else none
    | _ => none
  | .baload => match st with
    | .int i :: .ref a :: r => if zix M 23 a i = true then match M.2.2 a i.toNatClampNeg with
      | .int x => zgo (pc + 1) L (.int x :: r) M uc us
      | _ => none
      else none
    | _ => none
  | .aaload => match st with
    | .int i :: .ref a :: r => if zqk (M.2.1 a).1 = true ∧ zix M (M.2.1 a).1 a i = true then match M.2.2 a i.toNatClampNeg with
      | .ref b => zgo (pc + 1) L (.ref b :: r) M uc us
      | _ => none
      else none
    | _ => none
  | .iastore => match st with
    | .int x :: .int i :: .ref a :: r => if zix M 20 a i = true then zgo (pc + 1) L r (zput M a i.toNatClampNeg (.int x)) uc us else none
    | _ => none
  | .bastore => match st with
    | .int x :: .int i :: .ref a :: r => if zix M 23 a i = true ∧ (x = 0 ∨ x = 1) then zgo (pc + 1) L r (zput M a i.toNatClampNeg (.int x)) uc us else none
    | _ => none
  | .aastore => match st with
    | .ref v :: .int i :: .ref a :: r => if zal M v = true ∧ zqk (zup (M.2.1 v).1) = true ∧ zix M (zup (M.2.1 v).1) a i = true then zgo (pc + 1) L r (zput M a i.toNatClampNeg (.ref v)) uc us else none
    | _ => none
  | .arraylength => match st with
    | .ref a :: r => if (zal M a = true ∧ ((M.2.1 a).1 = 20 ∨ (M.2.1 a).1 = 23 ∨ zqk (M.2.1 a).1 = true)) ∨ (a = 0 ∧ (M.2.1 a).1 = 50) then zgo (pc + 1) L (.int (Int32.ofNat (M.2.1 a).2) :: r) M uc us else none
    | _ => none
  | .newarray ty => match st with
    | .int n :: r => if 20 ≤ ztyp ty ∧ 0 ≤ n ∧ n.toNatClampNeg ≤ 1000000 ∧ uc + 1 ≤ zk_mc K ∧ us + n.toNatClampNeg ≤ zk_ms K then zgo (pc + 2) L (.ref (M.1 + 1) :: r) (znew M (ztyp ty, n.toNatClampNeg) (fun _ => zdef (ztyp ty))) (uc + 1) (us + n.toNatClampNeg) else none
    | _ => none
  | .anewarray ix => match zpool (zk_own K) ix with
    | some (2, c, _, _) => match st with
      | .int n :: r => if zqk (30 + c) = true ∧ c < 10 ∧ 0 ≤ n ∧ n.toNatClampNeg ≤ 1000000 ∧ uc + 1 ≤ zk_mc K ∧ us + n.toNatClampNeg ≤ zk_ms K then zgo (pc + 3) L (.ref (M.1 + 1) :: r) (znew M (30 + c, n.toNatClampNeg) (fun _ => .null)) (uc + 1) (us + n.toNatClampNeg) else none
      | _ => none
    | some (8, k, _, _) => match st with
      | .int n :: r => if k = 20 ∧ 0 ≤ n ∧ n.toNatClampNeg ≤ 1000000 ∧ uc + 1 ≤ zk_mc K ∧ us + n.toNatClampNeg ≤ zk_ms K then zgo (pc + 3) L (.ref (M.1 + 1) :: r) (znew M (40, n.toNatClampNeg) (fun _ => .null)) (uc + 1) (us + n.toNatClampNeg) else none
      | _ => none
    | _ => none
  | .multianewarray ix d => match zpool (zk_own K) ix with
    | some (8, k, _, _) => match zpopi d [] st with
      | some (ns, r) => if 2 ≤ d ∧ zdok ns k = true ∧ uc + zmc ns ≤ zk_mc K ∧ us + zms ns ≤ zk_ms K then zgo (pc + 4) L (.ref (M.1 + 1) :: r) (zmk ns k M).1 (uc + zmc ns) (us + zms ns) else none
      | none => none
    | _ => none
  | .new ix => match zpool (zk_own K) ix with
    | some (2, c, _, _) => if c < 11 then (if uc + 1 ≤ zk_mc K ∧ us + zN c ≤ zk_ms K then zgo (pc + 3) L (.ref (M.1 + 1) :: st) (znew M (c, zN c) (fun j => defaultValue (zty c j))) (uc + 1) (us + zN c) else none)
      else match zlk (zk_ts K) pc with
      | some (e, _) => if e = c ∧ zk_hs K = [] ∧ 6 ≤ zk_rf K ∧ zct st + 82 ≤ zk_rl K ∧ uc + 1 ≤ zk_mc K ∧ us + 6 ≤ zk_ms K then zend (.inr e) M else none
      | none => none
    | _ => none
  | .ireturn => match st with
    | [.int v] => match zk_rt K with
      | some ty => if narrow ty (.int v) = .int v ∧ uc ≤ zk_mc K ∧ us ≤ zk_ms K then zend (.inl (some (.int v))) M else none
      | none => none
    | _ => none
  | .lreturn => match st with
    | [.long v] => if zk_rt K = some .long ∧ uc ≤ zk_mc K ∧ us ≤ zk_ms K then zend (.inl (some (.long v))) M else none
    | _ => none
  | .dreturn => match st with
    | [.double v] => if zk_rt K = some .double ∧ uc ≤ zk_mc K ∧ us ≤ zk_ms K then zend (.inl (some (.double v))) M else none
    | _ => none
  | .areturn => match st with
    | [.ref v] => if uc ≤ zk_mc K ∧ us ≤ zk_ms K then match zk_rt K with
      | some (.object _) => zend (.inl (some (.ref v))) M
      | some (.array _) => zend (.inl (some (.ref v))) M
      | _ => none
      else none
    | _ => none
  | .return_ => match st with
    | [] => if zk_rt K = none ∧ uc ≤ zk_mc K ∧ us ≤ zk_ms K then zend (.inl none) M else none
    | _ => none
  | _ => none
/-- each place of a row of rows, from sp on, n of them, holds a row of ints, or nothing -/
def zrows (M : zM) (s sp n : Nat) : Bool := (List.range n).all (fun i => match M.2.2 s (sp + i) with
  | .ref b => zal M b && decide ((M.2.1 b).1 = 20)
  | _ => true)
/-- calls of the JDK's own: Object's constructor, Math.abs, min, max, System.arraycopy -/
def zjdk (K : zI) (e : zP) (pc : Nat) (L : zL) (st : List Value) (M : zM) (uc us : Nat) : zR :=
  match e with
  | (3, _, _, _) => match st with
    | .ref _ :: r => if 1 ≤ zk_rf K ∧ zct r + 12 ≤ zk_rl K then zgo (pc + 3) L r M uc us else none
    | _ => none
  | (4, 0, _, _) => match st with
    | .int x :: r => if 1 ≤ zk_rf K ∧ zct r + 13 ≤ zk_rl K ∧ uc ≤ zk_mc K ∧ us ≤ zk_ms K then zgo (pc + 3) L (.int (if 0 ≤ x then x else 0 - x) :: r) M uc us else none
    | _ => none
  | (5, _, _, _) => match st with
    | .int n :: .int dp :: .ref d :: .int sp :: .ref s :: r =>
      if (zal M s = true ∧ zal M d = true ∧ (M.2.1 d).1 = (M.2.1 s).1 ∧ ((M.2.1 s).1 = 20 ∨ ((M.2.1 s).1 = 40 ∧ zrows M s sp.toNatClampNeg n.toNatClampNeg = true))) ∧ (0 ≤ sp ∧ 0 ≤ dp ∧ 0 ≤ n) ∧ sp.toNatClampNeg + n.toNatClampNeg ≤ (M.2.1 s).2 ∧ dp.toNatClampNeg + n.toNatClampNeg ≤ (M.2.1 d).2 ∧ 1 ≤ zk_rf K ∧ zct r + 68 ≤ zk_rl K
      then zgo (pc + 3) L r (zcopy M s sp.toNatClampNeg d dp.toNatClampNeg n.toNatClampNeg) uc us else none
    | _ => none
  | _ => none
/-- the handler of an exception of class e thrown at pc -/
def zhnd (own : Nat) (pc e : Nat) : List (Nat × Nat × Nat × Nat) → Option Nat
  | [] => none
  | (a, b, h, ct) :: l => if a ≤ pc ∧ pc < b then match zpool own ct with
      | some (2, c, _, _) => if ct = 0 then none else if c = e then some h else if 12 ≤ c ∧ c < 15 then zhnd own pc e l else none
      | _ => none
    else zhnd own pc e l
def zcat (K : zI) (e pc : Nat) (L : zL) (M : zM) (uc us : Nat) : zR :=
  if zk_hs K = [] then (if uc ≤ zk_mc K ∧ us ≤ zk_ms K then zend (.inr e) M else none) else match zhnd (zk_own K) pc e (zk_hs K) with
  | some h => match zlk (zk_cd K) h with
    | some (.astore_n k, _) => if k.val < L.length then zgo (h + 1) (zst1 L k.val none) [] M uc us else none
    | some (.astore k, _) => if k < L.length then zgo (h + 2) (zst1 L k none) [] M uc us else none
    | _ => none
  | none => none
def zrcv (J : zI) (y : Nat) (args : List Value) (M : zM) : Bool :=
  if y = 1 ∨ y = 4 ∨ y = 6 then true else match args with
    | .ref a :: _ => !(decide (y = 0)) || (zal M a && decide (M.2.1 a = (zk_own J, zN (zk_own J))))
    | _ => false
/-- a call of method x of the table, in the way y: 0 virtual, 1 static, 2 a constructor, 3 4 5 the same of a nest mate's private method, 6 a static one with handlers of its own -/
def zinv (call : zF) (K : zI) (x y pc : Nat) (L : zL) (st : List Value) (M : zM) (uc us : Nat) : zR :=
  match zmt[x]? with
  | none => none
  | some J => match zpop (zk_na J + (if y = 1 ∨ y = 4 ∨ y = 6 then 0 else 1)) [] st with
    | none => none
    | some (args, r) =>
      if zk_rf J + 1 ≤ zk_rf K ∧ 8 + (zk_ml J + 11) + zk_rl J ≤ zk_rl K ∧ zct r ≤ 8 ∧ uc + zk_mc J ≤ zk_mc K ∧ us + zk_ms J ≤ zk_ms K ∧ zrcv J y args M = true then
        match call x args M with
        | none => none
        | some (.inl v, M') => zgo (pc + 3) L (v.toList ++ r) M' (uc + zk_mc J) (us + zk_ms J)
        | some (.inr e, M') => zcat K e pc L M' (uc + zk_mc J) (us + zk_ms J)
      else none
def zst (call : zF) (K : zI) (i : Instr) (s : zS) : zR :=
  match i with
  | .invokevirtual ix => match zpool (zk_own K) (ix + 100000 * zk_dp K) with
    | some (1, x, y, _) => if (y = 0 ∨ y = 3) ∧ ix < 100000 then zinv call K x y s.1 s.2.1 s.2.2.1 s.2.2.2.1 s.2.2.2.2.1 s.2.2.2.2.2 else none
    | _ => none
  | .invokestatic ix => match zpool (zk_own K) ix with
    | some (1, x, y, _) => if (y = 1 ∨ y = 4 ∨ y = 6) ∧ ix < 100000 then zinv call K x y s.1 s.2.1 s.2.2.1 s.2.2.2.1 s.2.2.2.2.1 s.2.2.2.2.2 else none
    | some (4, a, b, c) => zjdk K (4, a, b, c) s.1 s.2.1 s.2.2.1 s.2.2.2.1 s.2.2.2.2.1 s.2.2.2.2.2
    | some (5, a, b, c) => zjdk K (5, a, b, c) s.1 s.2.1 s.2.2.1 s.2.2.2.1 s.2.2.2.2.1 s.2.2.2.2.2
    | _ => none
  | .invokespecial ix => match zpool (zk_own K) ix with
    | some (1, x, y, _) => if (y = 2 ∨ y = 5) ∧ ix < 100000 then zinv call K x y s.1 s.2.1 s.2.2.1 s.2.2.2.1 s.2.2.2.2.1 s.2.2.2.2.2 else none
    | some (3, a, b, c) => zjdk K (3, a, b, c) s.1 s.2.1 s.2.2.1 s.2.2.2.1 s.2.2.2.2.1 s.2.2.2.2.2
    | _ => none
  | i => zsp K i s.1 s.2.1 s.2.2.1 s.2.2.2.1 s.2.2.2.2.1 s.2.2.2.2.2
def zrun (call : zF) (K : zI) : Nat → zS → Option (zO × zM)
  | 0, _ => none
  | N + 1, s => match zlk (zk_cd K) s.1 with
    | none => none
    | some il => match zst call K il.1 s with
      | none => none
      | some (.inl s') => zrun call K N s'
      | some (.inr r) => some r
def zcall : Nat → zF
  | 0, _, _, _ => none
  | F + 1, k, args, M => match zmt[k]? with
    | none => none
    | some K => if (zsl args).length ≤ zk_ml K then zrun (zcall F) K F (0, zent (zk_ml K) args, [], M, 0, 0) else none
