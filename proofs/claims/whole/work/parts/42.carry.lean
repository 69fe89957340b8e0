-- needs: 18.nums 19.proj 20.spec 21.shape 22.leaf 23.fl 23.view 24.loops 25.desk 26.near 27.quest 28.hours 29.write 29.xsame 30.trial 31.hist 32.pad 33.orders 34.read 35.text 36.own 38.ask 41.obey
/-! all orders carried out -/
def KE (e : Ent) : Prop := e.k = 110 ∨ e.k = 111 ∨ e.k = 107 ∨ e.k = 119 ∨ e.k = 112 ∨ e.k = 120 ∨ e.k = 104
theorem leL_kinds (T : Nat → Nat) (n q d r c m : Nat) : ∀ e, e ∈ leL T n q d r c m → KE e := by
  intro e he
  unfold leL at he
  rw [List.mem_map] at he
  obtain ⟨j, -, rfl⟩ := he
  exact Or.inr (Or.inr (Or.inr (Or.inl rfl)))
attribute [local irreducible] enP
theorem orP_kinds (T : Nat → Nat) (n i : Nat) : ∀ e, e ∈ (orP T n i).2.2 → KE e := by
  unfold orP
  repeat' split
  all_goals intro e he
  all_goals dsimp only at he
  all_goals first
    | (rw [List.mem_singleton] at he; subst he; unfold KE; dsimp only; omega)
    | (exact absurd he List.not_mem_nil)
    | (exact leL_kinds T n _ _ _ _ _ e he)
theorem paP_kinds (T : Nat → Nat) (n : Nat) : ∀ f i, ∀ e, e ∈ (paP T n f i).2 → KE e := by
  intro f
  induction f with
  | zero => intro i e he; unfold paP at he; simp at he
  | succ f ih =>
    intro i e he
    unfold paP at he
    split at he
    · split at he
      · split at he
        · rw [List.mem_append] at he
          exact he.elim (orP_kinds T n i e) (ih _ e)
        · exact orP_kinds T n i e he
      · exact orP_kinds T n i e he
    · simp at he
