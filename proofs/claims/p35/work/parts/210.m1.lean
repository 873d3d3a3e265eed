/-! contracts of the reference's methods: folders, rules, copies (source: wip/p35/src/210.m1.txt, by expand.py) -/
section ZC
variable {x y : zSt} {E : zEx} {Q : zO → zM → Prop}
def mAsk (asks a fl : Int32) (lf : Nat → Int32) : Bool := if sAsk asks a lf = true then !decide (fl &&& nI 1 = nI 1) else decide (fl &&& nI 1 = nI 1)
def mLi (y : zSt) (p i : Nat) (now : Int32) : Bool := decide (y 25 p i = nI 1) && !decide (now < y 29 p i + y 0 0 7)
def mAg (y : zSt) (p i : Nat) (now : Int32) : Bool := if y 25 p i = -1 then false else if y 25 p i = nI 1 then false else if y 27 p i &&& nI 2 = nI 0 then
  decide (nI 0 < y 15 p (y 25 p i).toNatClampNeg) && !decide (now < y 35 0 i + y 15 p (y 25 p i).toNatClampNeg) else false
end ZC
