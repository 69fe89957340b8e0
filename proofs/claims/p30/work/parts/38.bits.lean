-- needs: 18.nums 19.proj 20.spec
/-! sets of columns -/
/-- a set of columns -/
def setB (p : Nat → Bool) (n : Nat) : Int32 := fo (fun s c => if p c = true then s ||| nI 1 <<< (nI c &&& 31) else s) (nI 0) n
theorem setB_s (p : Nat → Bool) (n : Nat) : setB p (n + 1) = if p n = true then setB p n ||| nI 1 <<< (nI n &&& 31) else setB p n := rfl
set_option maxRecDepth 100000 in
theorem bitB : ∀ b0 b1 b2 b3 b4 b5 b6 b7 b8 b9 b10 b11 : Bool, ∀ c, c < 12 → decide (setB (fun c => match c with | 0 => b0 | 1 => b1 | 2 => b2 | 3 => b3 | 4 => b4 | 5 => b5 | 6 => b6 | 7 => b7 | 8 => b8 | 9 => b9 | 10 => b10 | _ => b11) 12 >>> (nI c &&& 31) &&& nI 1 = nI 1) = (match c with | 0 => b0 | 1 => b1 | 2 => b2 | 3 => b3 | 4 => b4 | 5 => b5 | 6 => b6 | 7 => b7 | 8 => b8 | 9 => b9 | 10 => b10 | _ => b11) := by decide +kernel
theorem bitS (p : Nat → Bool) {c : Nat} (hc : c < 12) : (setB p 12 >>> (nI c &&& 31) &&& nI 1 = nI 1) ↔ p c = true := by
  have e : ∀ j, j < 12 → p j = (match j with | 0 => p 0 | 1 => p 1 | 2 => p 2 | 3 => p 3 | 4 => p 4 | 5 => p 5 | 6 => p 6 | 7 => p 7 | 8 => p 8 | 9 => p 9 | 10 => p 10 | _ => p 11) := fun j hj => by
    match j, hj with
    | 0, _ => rfl
    | 1, _ => rfl
    | 2, _ => rfl
    | 3, _ => rfl
    | 4, _ => rfl
    | 5, _ => rfl
    | 6, _ => rfl
    | 7, _ => rfl
    | 8, _ => rfl
    | 9, _ => rfl
    | 10, _ => rfl
    | 11, _ => rfl
  have e2 : setB p 12 = setB (fun c => match c with | 0 => p 0 | 1 => p 1 | 2 => p 2 | 3 => p 3 | 4 => p 4 | 5 => p 5 | 6 => p 6 | 7 => p 7 | 8 => p 8 | 9 => p 9 | 10 => p 10 | _ => p 11) 12 := fo_congr (fun j hj x => by rw [e j hj])
  have h := bitB (p 0) (p 1) (p 2) (p 3) (p 4) (p 5) (p 6) (p 7) (p 8) (p 9) (p 10) (p 11) c hc
  rw [← e2, ← e c hc] at h
  rw [← h]
  simp
