/-! the shapes of the pad and the orders -/
def PadAt (S : SS) (p : Nat) : Prop := sK S p = some (4, 0) ∧ sR S p 0 = some (p + 1) ∧ sK S (p + 1) = some (11, 80)
def OrdAt (S : SS) (o : Nat) : Prop := sK S o = some (3, 0) ∧ sR S o 0 = some (o + 1) ∧ sR S o 1 = some (o + 3) ∧ sR S o 2 = some (o + 4) ∧ sR S o 3 = some (o + 5) ∧ sR S o 4 = some (o + 6) ∧ sR S o 5 = some (o + 7) ∧
  sK S (o + 1) = some (4, 0) ∧ sR S (o + 1) 0 = some (o + 2) ∧ sK S (o + 2) = some (11, 80) ∧ sK S (o + 3) = some (11, 80) ∧ sK S (o + 4) = some (8, 80) ∧ sK S (o + 5) = some (8, 80) ∧ sK S (o + 6) = some (8, 80) ∧ sK S (o + 7) = some (8, 80)
theorem OrdAt.mk' {S T : SS} {o : Nat} (h : OrdAt S o) (hK : sK T = sK S) (hR : sR T = sR S) : OrdAt T o := by
  unfold OrdAt at h ⊢
  rw [hK, hR]
  exact h