/-! count -/
def cq (V : Sv) (v : Int32) (k : Nat) : Nat := if v = 1 then k else kN V (v - 2) k
