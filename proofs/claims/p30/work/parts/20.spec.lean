/-! words for the contracts: numbers, states, folds -/
/-- a truth as a number -/
def bI (c : Prop) [Decidable c] : Int32 := if c then nI 1 else nI 0
theorem bI_t {c : Prop} [Decidable c] (h : c) : bI c = nI 1 := if_pos h
theorem bI_f {c : Prop} [Decidable c] (h : ¬ c) : bI c = nI 0 := if_neg h
theorem n10 : ¬ nI 1 = 0 := by decide
theorem n00 : nI 0 = 0 := by decide
theorem bI_0 {c : Prop} [Decidable c] : (bI c = 0) = ¬ c := by
  unfold bI
  by_cases h : c
  · rw [if_pos h]; simp [h, n10]
  · rw [if_neg h]; simp [h, n00]
theorem retI (x : Int32) : retOK .ireturn (some .int) (some (.int x)) = True := by
  simp only [retOK, eq_iff_iff, iff_true]
  exact ⟨.int, rfl, rfl⟩
theorem retZ1 : retOK .ireturn (some .boolean) (some (.int (nI 1))) = True := by
  simp only [retOK, eq_iff_iff, iff_true]
  exact ⟨.boolean, rfl, rfl⟩
theorem retZ0 : retOK .ireturn (some .boolean) (some (.int (nI 0))) = True := by
  simp only [retOK, eq_iff_iff, iff_true]
  exact ⟨.boolean, rfl, rfl⟩
theorem retZb {c : Prop} [Decidable c] : retOK .ireturn (some .boolean) (some (.int (bI c))) = True := by
  unfold bI
  split
  · exact retZ1
  · exact retZ0
theorem retF (x : UInt32) : retOK .freturn (some .float) (some (.float x)) = True := by simp [retOK]
theorem retL (x : Int64) : retOK .lreturn (some .long) (some (.long x)) = True := by simp [retOK]
theorem retV : retOK .return_ none none = True := by simp [retOK]
theorem retA (C : String) (a : Nat) : retOK .areturn (some (.object C)) (some (.ref a)) = True := by simp [retOK]
theorem retN (C : String) : retOK .areturn (some (.object C)) (some .null) = True := by simp [retOK]
/-- states -/
theorem sK_stI (S : SS) (a k : Nat) (v : Int32) : sK (stI S a k v) = sK S := rfl
theorem sR_stI (S : SS) (a k : Nat) (v : Int32) : sR (stI S a k v) = sR S := rfl
theorem sF_stI (S : SS) (a k : Nat) (v : Int32) : sF (stI S a k v) = sF S := rfl
theorem sZ_stI (S : SS) (a k : Nat) (v : Int32) : sZ (stI S a k v) = sZ S := rfl
theorem sK_stF (S : SS) (a k : Nat) (v : UInt32) : sK (stF S a k v) = sK S := rfl
theorem sR_stF (S : SS) (a k : Nat) (v : UInt32) : sR (stF S a k v) = sR S := rfl
theorem sI_stF (S : SS) (a k : Nat) (v : UInt32) : sI (stF S a k v) = sI S := rfl
theorem sZ_stF (S : SS) (a k : Nat) (v : UInt32) : sZ (stF S a k v) = sZ S := rfl
theorem sK_stIA (S : SS) (a : Nat) (f : Nat → Int32) : sK (stIA S a f) = sK S := rfl
theorem sR_stIA (S : SS) (a : Nat) (f : Nat → Int32) : sR (stIA S a f) = sR S := rfl
theorem sF_stIA (S : SS) (a : Nat) (f : Nat → Int32) : sF (stIA S a f) = sF S := rfl
theorem sZ_stIA (S : SS) (a : Nat) (f : Nat → Int32) : sZ (stIA S a f) = sZ S := rfl
theorem sK_stFA (S : SS) (a : Nat) (f : Nat → UInt32) : sK (stFA S a f) = sK S := rfl
theorem sR_stFA (S : SS) (a : Nat) (f : Nat → UInt32) : sR (stFA S a f) = sR S := rfl
theorem sI_stFA (S : SS) (a : Nat) (f : Nat → UInt32) : sI (stFA S a f) = sI S := rfl
theorem sZ_stFA (S : SS) (a : Nat) (f : Nat → UInt32) : sZ (stFA S a f) = sZ S := rfl
theorem sI_stI (S : SS) (a k : Nat) (v : Int32) (b j : Nat) : sI (stI S a k v) b j = if b = a ∧ j = k then v else sI S b j := rfl
theorem sF_stF (S : SS) (a k : Nat) (v : UInt32) (b j : Nat) : sF (stF S a k v) b j = if b = a ∧ j = k then v else sF S b j := rfl
theorem sI_stIA (S : SS) (a : Nat) (f : Nat → Int32) (b : Nat) : sI (stIA S a f) b = if b = a then f else sI S b := rfl
theorem sF_stFA (S : SS) (a : Nat) (f : Nat → UInt32) (b : Nat) : sF (stFA S a f) b = if b = a then f else sF S b := rfl
theorem stI_row' (S : SS) (a k : Nat) (v : Int32) : stI S a k v = stIA S a (fun j => if j = k then v else sI S a j) := by
  show (S.1, S.2.1, S.2.2.1, _, S.2.2.2.2) = (S.1, S.2.1, S.2.2.1, _, S.2.2.2.2)
  congr 4
  funext b j
  show (if b = a ∧ j = k then v else S.2.2.2.1 b j) = (if b = a then (fun j => if j = k then v else sI S a j) else S.2.2.2.1 b) j
  by_cases h : b = a
  · subst h
    by_cases h2 : j = k
    · simp [h2]
    · simp [h2, sI]
  · simp [h]
theorem stF_row' (S : SS) (a k : Nat) (v : UInt32) : stF S a k v = stFA S a (fun j => if j = k then v else sF S a j) := by
  show (S.1, S.2.1, S.2.2.1, S.2.2.2.1, _) = (S.1, S.2.1, S.2.2.1, S.2.2.2.1, _)
  congr 4
  funext b j
  show (if b = a ∧ j = k then v else S.2.2.2.2 b j) = (if b = a then (fun j => if j = k then v else sF S a j) else S.2.2.2.2 b) j
  by_cases h : b = a
  · subst h
    by_cases h2 : j = k
    · simp [h2]
    · simp [h2, sF]
  · simp [h]
theorem stIA_stIA (S : SS) (a : Nat) (f g : Nat → Int32) : stIA (stIA S a f) a g = stIA S a g := by
  show (S.1, S.2.1, S.2.2.1, upA (upA S.2.2.2.1 a f) a g, S.2.2.2.2) = (S.1, S.2.1, S.2.2.1, _, S.2.2.2.2)
  congr 4
  funext b
  unfold upA
  by_cases h : b = a <;> simp [h]
theorem stFA_stFA (S : SS) (a : Nat) (f g : Nat → UInt32) : stFA (stFA S a f) a g = stFA S a g := by
  show (S.1, S.2.1, S.2.2.1, S.2.2.2.1, upA (upA S.2.2.2.2 a f) a g) = (S.1, S.2.1, S.2.2.1, S.2.2.2.1, _)
  congr 4
  funext b
  unfold upA
  by_cases h : b = a <;> simp [h]
theorem stIA_self (S : SS) (a : Nat) : stIA S a (sI S a) = S := by
  obtain ⟨s1, s2, s3, s4, s5⟩ := S
  show (s1, s2, s3, upA s4 a (s4 a), s5) = _
  congr 4
  funext b
  unfold upA
  by_cases h : b = a <;> simp [h]
theorem stFA_self (S : SS) (a : Nat) : stFA S a (sF S a) = S := by
  obtain ⟨s1, s2, s3, s4, s5⟩ := S
  show (s1, s2, s3, s4, upA s5 a (s5 a)) = _
  congr 4
  funext b
  unfold upA
  by_cases h : b = a <;> simp [h]
/-- writing on in a row that was laid -/
theorem stI_stIA (S : SS) (a k : Nat) (f : Nat → Int32) (v : Int32) : stI (stIA S a f) a k v = stIA S a (fun j => if j = k then v else f j) := by
  rw [stI_row', stIA_stIA, sI_stIA, if_pos rfl]
theorem stF_stFA (S : SS) (a k : Nat) (f : Nat → UInt32) (v : UInt32) : stF (stFA S a f) a k v = stFA S a (fun j => if j = k then v else f j) := by
  rw [stF_row', stFA_stFA, sF_stFA, if_pos rfl]
/-- indices -/
theorem nI_cl {n : Nat} (h : n < 2 ^ 31) : (nI n).toNatClampNeg = n := nI_clamp h
theorem in_of {x : Int32} {n : Nat} (h : vp_in x n) (hn : n < 2 ^ 31) : x = nI x.toNatClampNeg ∧ x.toNatClampNeg < n := by
  obtain ⟨j, hj, rfl⟩ := vp_in_of h hn
  rw [nI_clamp (by omega)]
  exact ⟨rfl, hj⟩
theorem in_nI {k n : Nat} (hn : n < 2 ^ 31) (hk : k < 2 ^ 31) : vp_in (nI k) n ↔ k < n := by
  constructor
  · intro h
    have := (in_of h hn).2
    rwa [nI_clamp hk] at this
  · exact fun h => vp_in_nI h hn
theorem in_cmp {x : Int32} {n : Nat} (hn : n < 2 ^ 31) : vp_in x n ↔ (0 ≤ x ∧ x < nI n) := by
  constructor
  · intro h
    obtain ⟨j, hj, rfl⟩ := vp_in_of h hn
    exact ⟨nI_pos' (by omega), nI_lt hj hn⟩
  · intro ⟨h1, h2⟩
    rcases pk_ix x hn with h | h | ⟨j, hj, rfl⟩
    · exact absurd h1 (Int32.not_le.mpr h)
    · exact absurd h2 (Int32.not_lt.mpr h)
    · exact vp_in_nI hj hn
theorem nlt0 {k : Nat} (h : k < 2 ^ 31) : (nI k < 0) ↔ False := iff_of_false (nI_pos h) id
theorem not_lt0 {k : Nat} (h : k < 2 ^ 31) : ¬ nI k < 0 := nI_pos h
theorem nge0 {k : Nat} (h : k < 2 ^ 31) : (0 ≤ nI k) ↔ True := iff_of_true (nI_pos' h) trivial
theorem neq0 {k : Nat} (h : k < 2 ^ 31) : (nI k = 0) ↔ k = 0 := by
  rw [← nI_0, nI_eq h (by omega)]
theorem ngt0 {k : Nat} (h : k < 2 ^ 31) : (0 < nI k) ↔ 0 < k := by
  rw [← nI_0, nI_ltI (by omega) h]
theorem nle0 {k : Nat} (h : k < 2 ^ 31) : (nI k ≤ 0) ↔ k = 0 := by
  rw [← nI_0, nI_leI h (by omega)]
  omega
theorem nI_succ_sub {n : Nat} : nI (n + 1) - nI 1 = nI n := pk_sub (by omega)
/-- x is a natural number below n, or none -/
def okW (n : Nat) (x : Int32) : Prop := x = mI 6 ∨ vp_in x n
theorem nI_ne_mI {k j : Nat} (hk : k < 2 ^ 31) (hj : 0 < j) (hj2 : j < 2 ^ 31) : ¬ nI k = mI j := by
  intro h
  have h1 := nI_toInt hk
  have h2 : (mI j).toInt = -(j : Int) := sb_negT hj2
  rw [h, h2] at h1
  omega
theorem mI_lt0 {j : Nat} (hj : 0 < j) (hj2 : j < 2 ^ 31) : mI j < 0 := by
  rw [Int32.lt_iff_toInt_lt]
  have h2 : (mI j).toInt = -(j : Int) := sb_negT hj2
  rw [h2, Int32.toInt_zero]
  omega
theorem mI_eq {j k : Nat} (hj2 : j < 2 ^ 31) (hk2 : k < 2 ^ 31) : mI j = mI k ↔ j = k := by
  constructor
  · intro h
    have h2 : (mI j).toInt = -(j : Int) := sb_negT hj2
    have h3 : (mI k).toInt = -(k : Int) := sb_negT hk2
    rw [h, h3] at h2
    omega
  · intro h; rw [h]
/-- folds over 0 .. n-1 -/
def fo {α : Type} (f : α → Nat → α) (a : α) : Nat → α
  | 0 => a
  | n + 1 => f (fo f a n) n
theorem fo_s {α : Type} (f : α → Nat → α) (a : α) (n : Nat) : fo f a (n + 1) = f (fo f a n) n := rfl
theorem fo_congr {α : Type} {f g : α → Nat → α} {a : α} : ∀ {n : Nat}, (∀ j, j < n → ∀ x, f x j = g x j) → fo f a n = fo g a n
  | 0, _ => rfl
  | n + 1, h => by rw [fo_s, fo_s, fo_congr (fun j hj => h j (by omega)), h n (by omega)]
/-- where a stretch does nothing -/
theorem fo_skip {α : Type} {f : α → Nat → α} {a : α} {m n : Nat} (hmn : m ≤ n) (h : ∀ j, m ≤ j → j < n → ∀ x, f x j = x) : fo f a n = fo f a m := by
  induction n with
  | zero => rw [show m = 0 by omega]
  | succ n ih =>
    by_cases hm : m = n + 1
    · rw [hm]
    · rw [fo_s, h n (by omega) (by omega), ih (by omega) (fun j h1 h2 => h j h1 (by omega))]
theorem fo_inv {α : Type} {f : α → Nat → α} {a : α} (I : Nat → α → Prop) (h0 : I 0 a) (hs : ∀ n x, I n x → I (n + 1) (f x n)) : ∀ n, I n (fo f a n)
  | 0 => h0
  | n + 1 => hs n _ (fo_inv I h0 hs n)
/-- how many -/
def cn (p : Nat → Bool) (n : Nat) : Nat := fo (fun c j => if p j then c + 1 else c) 0 n
theorem cn_s (p : Nat → Bool) (n : Nat) : cn p (n + 1) = if p n then cn p n + 1 else cn p n := rfl
theorem cn_le (p : Nat → Bool) : ∀ n, cn p n ≤ n
  | 0 => Nat.le_refl _
  | n + 1 => by
    have := cn_le p n
    rw [cn_s]
    split <;> omega
theorem cn_congr {p q : Nat → Bool} {n : Nat} (h : ∀ j, j < n → p j = q j) : cn p n = cn q n := fo_congr (fun j hj x => by rw [h j hj])
theorem cn_skip {p : Nat → Bool} {m n : Nat} (hmn : m ≤ n) (h : ∀ j, m ≤ j → j < n → p j = false) : cn p n = cn p m := fo_skip hmn (fun j h1 h2 x => by rw [h j h1 h2]; rfl)
/-- loops that count up -/
theorem loopUp {P : Nat → Prop} (N : Nat) (step : ∀ k, k ≤ N → (k < N → P (k + 1)) → P k) : ∀ k, k ≤ N → P k := by
  have key : ∀ n k, k + n = N → P k := by
    intro n
    induction n with
    | zero => exact fun k hk => step k (by omega) (fun h => absurd h (by omega))
    | succ n ih => exact fun k hk => step k (by omega) (fun _ => ih (k + 1) (by omega))
  exact fun k hk => key (N - k) k (by omega)
