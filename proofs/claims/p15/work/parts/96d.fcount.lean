/-! count -/
def cq (V : Sv) (v : Int32) (k : Nat) : Nat := if v = 1 then k else kN V (v - 2) k
theorem of_ti {v d : Int32} (h : v.toInt = d.toInt) : v = d := Int32.toInt_inj.mp h

