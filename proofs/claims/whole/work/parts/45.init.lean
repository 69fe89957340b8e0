-- needs: 18.nums 19.proj 20.spec 21.shape 22.leaf 23.fl 23.view 24.loops 25.desk
/-! objects made -/
theorem sK_stN (S : SS) (kd n b : Nat) : sK (stN S kd n) b = if b = sZ S then some (kd, n) else sK S b := rfl
theorem sR_stN (S : SS) (kd n b : Nat) : sR (stN S kd n) b = if b = sZ S then (fun _ => none) else sR S b := rfl
theorem sI_stN (S : SS) (kd n b : Nat) : sI (stN S kd n) b = if b = sZ S then (fun _ => 0) else sI S b := rfl
theorem sF_stN (S : SS) (kd n b : Nat) : sF (stN S kd n) b = if b = sZ S then (fun _ => FP.fconst0) else sF S b := rfl
theorem sZ_stN (S : SS) (kd n : Nat) : sZ (stN S kd n) = sZ S + 1 := rfl
theorem sK_stR (S : SS) (a k : Nat) (v : Option Nat) : sK (stR S a k v) = sK S := rfl
theorem sZ_stR (S : SS) (a k : Nat) (v : Option Nat) : sZ (stR S a k v) = sZ S := rfl
theorem sI_stR (S : SS) (a k : Nat) (v : Option Nat) : sI (stR S a k v) = sI S := rfl
theorem sF_stR (S : SS) (a k : Nat) (v : Option Nat) : sF (stR S a k v) = sF S := rfl
theorem sR_stR (S : SS) (a k : Nat) (v : Option Nat) (b j : Nat) : sR (stR S a k v) b j = if b = a ∧ j = k then v else sR S b j := rfl
/-- new cells from g on; those before are as they were -/
def Gw (S S' : SS) (g e : Nat) : Prop := sZ S' = e ∧ ∀ a, a < g → sK S' a = sK S a ∧ sR S' a = sR S a ∧ sI S' a = sI S a ∧ sF S' a = sF S a
