/-! counting -/
theorem cn_0 (p : Nat → Bool) : cn p 0 = 0 := rfl
theorem cn_t {p : Nat → Bool} {n : Nat} (h : p n = true) : cn p (n + 1) = cn p n + 1 := by rw [cn_s, if_pos h]
theorem cn_f {p : Nat → Bool} {n : Nat} (h : p n = false) : cn p (n + 1) = cn p n := by rw [cn_s, if_neg (by rw [h]; decide)]
theorem bool_ft {b : Bool} (h : ¬ b = true) : b = false := by cases b <;> simp_all
theorem cn_sub {p q r : Nat → Bool} : ∀ {n : Nat}, (∀ j, j < n → p j = true → q j = true ∨ r j = true) → cn p n ≤ cn q n + cn r n
  | 0, _ => Nat.zero_le _
  | n + 1, h => by
    have ih := cn_sub (n := n) (fun j hj => h j (by omega))
    have h1 := h n (by omega)
    rw [cn_s, cn_s, cn_s]
    by_cases c1 : p n = true
    · rw [if_pos c1]
      rcases h1 c1 with c | c
      · rw [if_pos c]; split <;> omega
      · rw [if_pos c]; split <;> omega
    · rw [if_neg c1]
      split <;> split <;> omega
theorem cn_mono {p q : Nat → Bool} {n : Nat} (h : ∀ j, j < n → p j = true → q j = true) : cn p n ≤ cn q n := by
  have := cn_sub (p := p) (q := q) (r := fun _ => false) (n := n) (fun j hj c => Or.inl (h j hj c))
  have e : cn (fun _ => false) n = 0 := by
    have := cn_skip (p := fun _ => false) (m := 0) (n := n) (Nat.zero_le _) (fun _ _ _ => rfl)
    rw [this]; rfl
  omega
/-- one more at k -/
theorem cn_one {p q : Nat → Bool} {k : Nat} (hp : p k = true) (hq : q k = false) (h : ∀ j, ¬ j = k → p j = q j) : ∀ {n : Nat}, k < n → cn p n = cn q n + 1
  | 0, hk => absurd hk (by omega)
  | n + 1, hk => by
    by_cases c : k = n
    · subst c
      rw [cn_t hp, cn_f hq, cn_congr (fun j hj => h j (by omega))]
    · have ih := cn_one hp hq h (n := n) (by omega)
      have e := h n (by omega)
      by_cases c2 : q n = true
      · rw [cn_t (e.trans c2), cn_t c2, ih]
      · rw [cn_f (e.trans (bool_ft c2)), cn_f (bool_ft c2), ih]
theorem cn_same {p q : Nat → Bool} {n k : Nat} (hk : p k = q k) (h : ∀ j, ¬ j = k → p j = q j) : cn p n = cn q n := cn_congr fun j _ => by
  by_cases c : j = k
  · rw [c, hk]
  · exact h j c
/-- with k already: one more than all but k -/
theorem cn_sub1 {p q r : Nat → Bool} {n k : Nat} (hk : k < n) (hp : p k = false) (hq : q k = true) (h : ∀ j, j < n → p j = true → q j = true ∨ r j = true) : cn p n + 1 ≤ cn q n + cn r n := by
  have e := cn_one (p := fun j => if j = k then true else p j) (q := p) (k := k) (by simp) hp (fun j hj => by simp [hj]) hk
  rw [← e]
  refine cn_sub fun j hj => ?_
  by_cases c : j = k
  · subst c
    exact fun _ => Or.inl hq
  · simp only [c, if_false]
    exact h j hj
theorem cn_pos {p : Nat → Bool} {n k : Nat} (hk : k < n) (h : p k = true) : 0 < cn p n := by
  have e := cn_one (p := p) (q := fun j => if j = k then false else p j) (k := k) h (by simp) (fun j hj => by simp [hj]) hk
  omega
theorem cn_zero {p : Nat → Bool} {n : Nat} (h : cn p n = 0) {k : Nat} (hk : k < n) : p k = false := by
  refine bool_ft fun c => ?_
  have := cn_pos hk c
  omega
theorem cn_eq_sub {p q : Nat → Bool} {n : Nat} (h : ∀ j, j < n → p j = true → q j = true) (e : cn q n ≤ cn p n) {k : Nat} (hk : k < n) (hq : q k = true) : p k = true := by
  refine Decidable.byContradiction fun c => ?_
  have := cn_sub1 (p := p) (q := q) (r := fun _ => false) hk (bool_ft c) hq (fun j hj c => Or.inl (h j hj c))
  have e : cn (fun _ => false) n = 0 := by
    have := cn_skip (p := fun _ => false) (m := 0) (n := n) (Nat.zero_le _) (fun _ _ _ => rfl)
    rw [this]; rfl
  omega
/-- sums -/
def sm (f : Nat → Nat) (n : Nat) : Nat := fo (fun s j => s + f j) 0 n
theorem sm_0 (f : Nat → Nat) : sm f 0 = 0 := rfl
theorem sm_s (f : Nat → Nat) (n : Nat) : sm f (n + 1) = sm f n + f n := rfl
theorem sm_congr {f g : Nat → Nat} {n : Nat} (h : ∀ j, j < n → f j = g j) : sm f n = sm g n := fo_congr fun j hj x => by rw [h j hj]
theorem sm_le {f g : Nat → Nat} : ∀ {n : Nat}, (∀ j, j < n → f j ≤ g j) → sm f n ≤ sm g n
  | 0, _ => Nat.le_refl _
  | n + 1, h => by
    have := sm_le (n := n) (fun j hj => h j (by omega))
    have := h n (by omega)
    rw [sm_s, sm_s]
    omega
theorem sm_add (f g : Nat → Nat) : ∀ n, sm (fun j => f j + g j) n = sm f n + sm g n
  | 0 => rfl
  | n + 1 => by
    rw [sm_s, sm_s, sm_s, sm_add f g n]
    omega
theorem sm_bound {f : Nat → Nat} {b : Nat} : ∀ {n : Nat}, (∀ j, j < n → f j ≤ b) → sm f n ≤ n * b
  | 0, _ => Nat.zero_le _
  | n + 1, h => by
    have := sm_bound (n := n) (fun j hj => h j (by omega))
    have := h n (by omega)
    rw [sm_s, Nat.add_mul]
    omega
/-- one place changed -/
theorem sm_one {f g : Nat → Nat} {k d : Nat} (hk' : f k = g k + d) (h : ∀ j, ¬ j = k → f j = g j) : ∀ {n : Nat}, k < n → sm f n = sm g n + d
  | 0, hk => absurd hk (by omega)
  | n + 1, hk => by
    by_cases c : k = n
    · subst c
      rw [sm_s, sm_s, hk', sm_congr (fun j hj => h j (by omega))]
      omega
    · rw [sm_s, sm_s, sm_one hk' h (n := n) (by omega), h n (by omega)]
      omega
/-- a writer's places on a plate -/
def whB (D : DV) (w q : Nat) (G : GV) (k : Nat) : Bool := decide (whoV G k q = nI w) && isV D G k (q - 1)
theorem ofG_cn (D : DV) (G : GV) (w q c : Nat) : ∀ n, ofG D G w q n c = c + cn (whB D w q G) n
  | 0 => rfl
  | n + 1 => by
    rw [ofG_s, cn_s, ofG_cn D G w q c n]
    unfold whB
    by_cases h : whoV G n q = nI w ∧ isV D G n (q - 1) = true
    · rw [if_pos h, if_pos (by simp [h.1, h.2])]
      rfl
    · rw [if_neg h, if_neg (by simpa using h)]
theorem ofV_0 (D : DV) (w q : Nat) : ofV D w q 0 = 0 := rfl
theorem ofV_sm (D : DV) (w q : Nat) : ∀ n, ofV D w q n = sm (fun p => cn (whB D w q (D.g p)) 120) n
  | 0 => by rw [ofV_0, sm_0]
  | n + 1 => by rw [ofV_s, ofG_cn, ofV_sm D w q n, sm_s]
