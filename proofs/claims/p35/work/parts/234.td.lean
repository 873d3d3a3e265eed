/-! the calls, one by one: what would be (source: wip/p35/src/234.td.txt, by expand2.py) -/
section ZC
variable {x y : zSt} {E : zEx}
def eJ (x : zSt) (p i nr : Nat) (w : Int32) : Int32 := if (sJd (xRu x p) (sLf x i) w nr 0 zJ0).1 = nI 0 then (sJd (xRu x p) (sLf x i) w nr 0 zJ0).2.1 else -1
def eM (y : zSt) (p i nr : Nat) (w : Int32) : Int32 := if (sJd (yRu y p) (sLf y i) w nr 0 zJ0).1 = nI 0 then (sJd (yRu y p) (sLf y i) w nr 0 zJ0).2.1 else -1
end ZC
section ZT
variable {x y : zSt} {E : zEx} {b : Nat}
end ZT
