/-! writers' numbers against plates'; hours -/
/-- each one is of one of three -/
theorem cn_three {p a b c : Nat → Bool} : ∀ {n : Nat}, (∀ j, j < n → (p j = false ∧ a j = false ∧ b j = false ∧ c j = false) ∨ (p j = true ∧ ((a j = true ∧ b j = false ∧ c j = false) ∨ (a j = false ∧ b j = true ∧ c j = false) ∨ (a j = false ∧ b j = false ∧ c j = true)))) → cn p n = cn a n + cn b n + cn c n
  | 0, _ => rfl
  | n + 1, h => by
    have ih := cn_three (n := n) (fun j hj => h j (by omega))
    rcases h n (by omega) with ⟨h1, h2, h3, h4⟩ | ⟨h1, ⟨h2, h3, h4⟩ | ⟨h2, h3, h4⟩ | ⟨h2, h3, h4⟩⟩
    · rw [cn_f h1, cn_f h2, cn_f h3, cn_f h4, ih]
    · rw [cn_t h1, cn_t h2, cn_f h3, cn_f h4, ih]; omega
    · rw [cn_t h1, cn_f h2, cn_t h3, cn_f h4, ih]; omega
    · rw [cn_t h1, cn_f h2, cn_f h3, cn_t h4, ih]; omega
theorem whB_val {D : DV} {G : GV} {q k b : Nat} (e : whoV G k q = nI b) (hb : b < 3) {i : Nat} (hi : i < 3) : whB D i q G k = (decide (b = i) && isV D G k (q - 1)) := by
  unfold whB
  rw [e]
  congr 1
  by_cases c : b = i
  · rw [c]; simp
  · have : ¬ nI b = nI i := by rw [nI_eq (by omega) (by omega)]; exact c
    simp [c, this]
theorem plate_sum {D : DV} {G : GV} {q : Nat} (h : ∀ k, k < 120 → isV D G k (q - 1) = true → ∃ b, b < 3 ∧ whoV G k q = nI b) : cn (fun k => isV D G k (q - 1)) 120 = cn (whB D 0 q G) 120 + cn (whB D 1 q G) 120 + cn (whB D 2 q G) 120 := by
  refine cn_three fun k hk => ?_
  by_cases c : isV D G k (q - 1) = true
  · obtain ⟨b, hb, e⟩ := h k hk c
    rw [whB_val e hb (show 0 < 3 by omega), whB_val e hb (show 1 < 3 by omega), whB_val e hb (show 2 < 3 by omega), c]
    rcases (show b = 0 ∨ b = 1 ∨ b = 2 by omega) with rfl | rfl | rfl
    · exact Or.inr ⟨rfl, Or.inl ⟨rfl, rfl, rfl⟩⟩
    · exact Or.inr ⟨rfl, Or.inr (Or.inl ⟨rfl, rfl, rfl⟩)⟩
    · exact Or.inr ⟨rfl, Or.inr (Or.inr ⟨rfl, rfl, rfl⟩)⟩
  · have c := bool_ft c
    exact Or.inl ⟨c, by unfold whB; rw [c, Bool.and_false], by unfold whB; rw [c, Bool.and_false], by unfold whB; rw [c, Bool.and_false]⟩
/-- all that stands on the plates is of the three writers -/
theorem who_is {D : DV} {G : GV} (hG : GOK G) (hI : GI G) {q : Nat} (h1 : 1 ≤ q) (h3 : q ≤ 3) : ∀ k, k < 120 → isV D G k (q - 1) = true → ∃ b, b < 3 ∧ whoV G k q = nI b := by
  intro k hk c
  obtain ⟨-, g2, g3⟩ := hG k hk
  obtain ⟨i1, i2, i3⟩ := hI k hk
  have letter : ¬ G.t k = mI 6 → ∃ b, b < 3 ∧ G.w k = nI b := fun ht => by
    rcases g2 with ⟨t1, -⟩ | ⟨a, b, ha, hb, -, e⟩
    · exact absurd t1 ht
    · rcases i2 with w | w
      · rw [w] at e
        exact absurd e.symm (nI_ne_mI (by omega) (by omega) (by omega))
      · exact w
  rcases (show q = 1 ∨ q = 2 ∨ q = 3 by omega) with rfl | rfl | rfl
  · rw [show 1 - 1 = 0 from rfl, isV_0] at c
    exact letter (by simpa using c)
  · rw [show 2 - 1 = 1 from rfl, isV_1] at c
    unfold rdV at c
    exact letter (by simp at c; exact c.1)
  · rw [show 3 - 1 = 2 from rfl, isV_2] at c
    rcases i3 with p | p
    · simp [p] at c
    · exact p
theorem all_sum {D : DV} {m q : Nat} (h : ∀ p, p < m → GOK (D.g p) ∧ GI (D.g p)) (h1 : 1 ≤ q) (h3 : q ≤ 3) : sm (fun p => cn (fun k => isV D (D.g p) k (q - 1)) 120) m = sm (fun i => ofV D i q m) 3 := by
  have e : sm (fun p => cn (fun k => isV D (D.g p) k (q - 1)) 120) m = sm (fun p => (cn (whB D 0 q (D.g p)) 120 + cn (whB D 1 q (D.g p)) 120) + cn (whB D 2 q (D.g p)) 120) m := sm_congr fun p hp => plate_sum (who_is (h p hp).1 (h p hp).2 h1 h3)
  rw [e, sm_add (fun p => cn (whB D 0 q (D.g p)) 120 + cn (whB D 1 q (D.g p)) 120), sm_add, ← ofV_sm, ← ofV_sm, ← ofV_sm, sm_s, sm_s, sm_s, sm_0, Nat.zero_add]
theorem read_le {D : DV} {i m : Nat} : ofV D i 2 m ≤ ofV D i 1 m := by
  rw [ofV_sm, ofV_sm]
  refine sm_le fun p hp => cn_mono fun k hk c => ?_
  unfold whB at c ⊢
  simp only [Bool.and_eq_true, decide_eq_true_eq] at c ⊢
  obtain ⟨c1, c2⟩ := c
  refine ⟨c1, ?_⟩
  rw [show 2 - 1 = 1 from rfl, isV_1] at c2
  rw [show 1 - 1 = 0 from rfl, isV_0]
  unfold rdV at c2
  simp at c2 ⊢
  exact c2.1
/-- in how many hours: the first one -/
theorem hrN_spec (D : DV) (x : UInt32) : ∀ n, (∀ i, i < hrN D x n → enV D (itV D x i) = false) ∧ (hrN D x n < n → enV D (itV D x (hrN D x n)) = true)
  | 0 => ⟨fun i hi => absurd hi (Nat.not_lt_zero _), fun h => absurd h (Nat.not_lt_zero _)⟩
  | n + 1 => by
    obtain ⟨h1, h2⟩ := hrN_spec D x n
    have h3 := hrN_le D x n
    rw [hrN_s]
    by_cases c : hrN D x n = n ∧ enV D (itV D x n) = false
    · rw [if_pos c]
      refine ⟨fun i hi => ?_, fun h => absurd h (by omega)⟩
      by_cases e : i = n
      · rw [e]; exact c.2
      · exact h1 i (by omega)
    · rw [if_neg c]
      refine ⟨h1, fun h => ?_⟩
      by_cases e : hrN D x n = n
      · rw [e]
        refine Decidable.byContradiction fun q => c ⟨e, bool_ft q⟩
      · exact h2 (by omega)
theorem hrN_0 {D : DV} {x : UInt32} {n : Nat} (hn : 0 < n) : hrN D x n = 0 ↔ enV D x = true := by
  obtain ⟨h1, h2⟩ := hrN_spec D x n
  have e0 : itV D x 0 = x := rfl
  constructor
  · intro h
    rw [h] at h2
    have := h2 hn
    rwa [e0] at this
  · intro h
    refine Decidable.byContradiction fun c => ?_
    have := h1 0 (by omega)
    rw [e0, h] at this
    cases this
/-- the most hours: of one of the letters, and no less than of any -/
theorem mostV_ge {D : DV} {G : GV} : ∀ {n k : Nat}, k < n → ¬ G.t k = mI 6 → hrN D (G.l k) 501 ≤ mostV D G n
  | 0, k, hk, _ => absurd hk (by omega)
  | n + 1, k, hk, ht => by
    rw [mostV_s]
    by_cases e : k = n
    · subst e
      rw [if_neg ht]
      exact Nat.le_max_right _ _
    · have := mostV_ge (n := n) (D := D) (show k < n by omega) ht
      split
      · exact this
      · exact Nat.le_trans this (Nat.le_max_left _ _)
theorem mostV_is {D : DV} {G : GV} : ∀ n, mostV D G n = 0 ∨ ∃ k, k < n ∧ ¬ G.t k = mI 6 ∧ hrN D (G.l k) 501 = mostV D G n
  | 0 => Or.inl rfl
  | n + 1 => by
    rw [mostV_s]
    by_cases c : G.t n = mI 6
    · rw [if_pos c]
      rcases mostV_is (D := D) (G := G) n with h | ⟨k, k1, k2, k3⟩
      · exact Or.inl h
      · exact Or.inr ⟨k, by omega, k2, k3⟩
    · rw [if_neg c]
      rcases Nat.le_total (mostV D G n) (hrN D (G.l n) 501) with h | h
      · rw [Nat.max_eq_right h]
        exact Or.inr ⟨n, by omega, c, rfl⟩
      · rw [Nat.max_eq_left h]
        rcases mostV_is (D := D) (G := G) n with h | ⟨k, k1, k2, k3⟩
        · exact Or.inl h
        · exact Or.inr ⟨k, by omega, k2, k3⟩
/-- no hour is wanting just where all letters can be read -/
theorem most_0 {D : DV} {G : GV} : mostV D G 120 = 0 ↔ cn (fun k => isV D G k 0) 120 = cn (fun k => isV D G k 1) 120 := by
  have sub : ∀ j, j < 120 → isV D G j 1 = true → isV D G j 0 = true := fun j _ c => by
    rw [isV_1] at c
    rw [isV_0]
    unfold rdV at c
    simp at c ⊢
    exact c.1
  constructor
  · intro h
    refine cn_congr fun k hk => ?_
    rw [isV_0, isV_1]
    unfold rdV
    by_cases c : G.t k = mI 6
    · simp [c]
    · have h1 := mostV_ge (D := D) hk c
      have h2 := (hrN_0 (D := D) (x := G.l k) (show 0 < 501 by omega)).mp (by omega)
      simp [c, h2]
  · intro h
    rcases mostV_is (D := D) (G := G) 120 with c | ⟨k, k1, k2, k3⟩
    · exact c
    · rw [← k3]
      refine (hrN_0 (show 0 < 501 by omega)).mpr ?_
      have := cn_eq_sub sub (Nat.le_of_eq h) k1 (by rw [isV_0]; simp [k2])
      rw [isV_1] at this
      unfold rdV at this
      simp at this
      exact this.2
