/-! small numbers -/
theorem fv0 : ((0 : Fin 4) : Nat) = 0 := rfl
theorem fv1 : ((1 : Fin 4) : Nat) = 1 := rfl
theorem fv2 : ((2 : Fin 4) : Nat) = 2 := rfl
theorem fv3 : ((3 : Fin 4) : Nat) = 3 := rfl
/-- minus x -/
def mI (x : Nat) : Int32 := - nI x
theorem kI_0 (x : Nat) : kI 0 x = nI x := rfl
theorem kI_1 (x : Nat) : kI 1 x = mI x := rfl
