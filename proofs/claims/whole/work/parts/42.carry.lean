-- needs: 18.nums 19.proj 20.spec 21.shape 22.leaf 23.fl 23.view 24.loops 25.desk 26.near 27.quest 28.hours 29.write 29.xsame 30.trial 31.hist 32.pad 33.orders 34.read 35.text 36.own 38.ask 41.obey
/-! all orders carried out -/
def KE (e : Ent) : Prop := e.k = 110 ∨ e.k = 111 ∨ e.k = 107 ∨ e.k = 119 ∨ e.k = 112 ∨ e.k = 120 ∨ e.k = 104
theorem leL_kinds (T : Nat → Nat) (n q d r c m : Nat) : ∀ e, e ∈ leL T n q d r c m → KE e := by
  intro e he
  unfold leL at he
  rw [List.mem_map] at he
  obtain ⟨j, -, rfl⟩ := he
  exact Or.inr (Or.inr (Or.inr (Or.inl rfl)))
theorem orP_kinds (T : Nat → Nat) (n i : Nat) : ∀ e, e ∈ (orP T n i).2.2 → KE e := by
  unfold orP
  repeat' split
  all_goals intro e he
  all_goals dsimp only at he
  all_goals first
    | (rw [List.mem_singleton] at he; subst he; unfold KE; dsimp only [Ent.k, Ent.a, Ent.r, Ent.c, Ent.l]; omega)
    | (exact absurd he List.not_mem_nil)
    | (exact leL_kinds T n _ _ _ _ _ e he)
theorem paP_kinds (T : Nat → Nat) (n : Nat) : ∀ f i, ∀ e, e ∈ (paP T n f i).2 → KE e := by
  intro f
  induction f with
  | zero => intro i e he; unfold paP at he; simp at he
  | succ f ih =>
    intro i e he
    unfold paP at he
    split at he
    · split at he
      · split at he
        · rw [List.mem_append] at he
          exact he.elim (orP_kinds T n i e) (ih _ e)
        · exact orP_kinds T n i e he
      · exact orP_kinds T n i e he
    · simp at he
/-- orders one after the other: K told, with how many were done and the desk behind -/
def CaP : List Ent → Nat → DV → (Nat → DV → Prop) → Prop
  | [], n, D, K => K n D
  | e :: es, n, D, K => ObP D e (fun v D' => (0 ≤ v → DOK D' ∧ ∀ D2, DE D2 D' → CaP es (n + 1) D2 K) ∧ (¬ 0 ≤ v → K n D'))
theorem ObP.imp {D : DV} {e : Ent} {K L : Int32 → DV → Prop} (h : ObP D e K) (hi : ∀ v D', K v D' → L v D') : ObP D e L := by
  obtain ⟨h1, h2, h3, h4, h5, h6, h7⟩ := h
  refine ⟨fun q => ?_, fun q => ?_, fun q => ?_, fun q => ?_, fun q => ?_, fun q => ?_, fun q => ?_⟩
  · obtain ⟨a, b⟩ := h1 q
    exact ⟨fun c => hi _ _ (a c), fun n hn en N hN => hi _ _ (b n hn en N hN)⟩
  · obtain ⟨a, b, c⟩ := h2 q
    exact ⟨fun d => hi _ _ (a d), fun d e => hi _ _ (b d e), fun d e => hi _ _ (c d e)⟩
  · obtain ⟨a, b, c⟩ := h3 q
    exact ⟨fun d => hi _ _ (a d), fun d e => hi _ _ (b d e), fun d n hn en => hi _ _ (c d n hn en)⟩
  · obtain ⟨a, b⟩ := h4 q
    refine ⟨fun c => hi _ _ (a c), fun p a' b' wn x1 x2 x3 x4 x5 x6 x7 x8 x9 => ?_⟩
    obtain ⟨c1, c2⟩ := b p a' b' wn x1 x2 x3 x4 x5 x6 x7 x8 x9
    exact ⟨fun d => hi _ _ (c1 d), fun d => ⟨fun f => hi _ _ ((c2 d).1 f), fun f => hi _ _ ((c2 d).2 f)⟩⟩
  · obtain ⟨a, b⟩ := h5 q
    refine ⟨fun c => hi _ _ (a c), fun p a' b' x1 x2 x3 x4 x5 x6 x7 => ?_⟩
    obtain ⟨c1, c2⟩ := b p a' b' x1 x2 x3 x4 x5 x6 x7
    exact ⟨fun d => hi _ _ (c1 d), fun d => hi _ _ (c2 d)⟩
  · obtain ⟨a, b⟩ := h6 q
    refine ⟨fun c => hi _ _ (a c), fun p a' b' x1 x2 x3 x4 x5 => ?_⟩
    obtain ⟨c1, c2⟩ := b p a' b' x1 x2 x3 x4 x5
    exact ⟨fun d => hi _ _ (c1 d), fun d => hi _ _ (c2 d)⟩
  · obtain ⟨a, b⟩ := h7 q
    refine ⟨fun c => hi _ _ (a c), fun k h x1 x2 x3 x4 x5 => ?_⟩
    obtain ⟨c1, c2⟩ := b k h x1 x2 x3 x4 x5
    exact ⟨fun d => hi _ _ (c1 d), fun d => hi _ _ (c2 d)⟩
