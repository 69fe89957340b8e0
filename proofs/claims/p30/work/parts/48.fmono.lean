/-! light: the nearest number; dimming keeps the order, takes away, leaves a sixteenth -/
section FN
variable {f : FP.Core.Fmt}
/-- no number is nearer -/
def Nr (f : FP.Core.Fmt) (n w d : Nat) : Prop := ∀ m, m < FP.Core.infBits f → ((w : Int) - ((FP.Core.unitsOf f n * d : Nat) : Int)).natAbs ≤ ((w : Int) - ((FP.Core.unitsOf f m * d : Nat) : Int)).natAbs
theorem nr_of (hf : FP.Core.Good f) {n A B : Nat} {e e0 : Int} (hn : n < FP.Core.infBits f) (hd : FP.Core.decode f n = FP.Core.roundRatio f false A B e) (hB : 0 < B) (h0 : e0 ≤ f.qmin) (h0e : e0 ≤ e) {w d : Nat} (hw : FP.Core.inUnits A e e0 = w) (hdd : 2 ^ (f.qmin - e0).toNat * B = d) : Nr f n w d := by
  intro m hm
  obtain ⟨c, q, x1, x2, x3⟩ := dec_nn hf hn
  obtain ⟨c', q', y1, y2, y3⟩ := dec_nn hf hm
  have h := FP.Core.roundRatio_nearest hf hB (hd.symm.trans x1) y2.1 y2.2.1 h0 h0e
  unfold FP.Core.distance at h
  rw [FP.Core.inUnits_move c h0 x2.2.1, FP.Core.inUnits_move c' h0 y2.2.1, x3, y3, hw, ← Int.natCast_mul, ← Int.natCast_mul, Nat.mul_assoc, Nat.mul_assoc, hdd] at h
  exact h
theorem near_mono {n n' w w' d : Nat} (h : Near f n w d) (h' : Near f n' w' d) (k : Nr f n w d) (k' : Nr f n' w' d) (hn : n < FP.Core.infBits f) (hn' : n' < FP.Core.infBits f) (hw : w < w') : n ≤ n' := by
  refine Nat.le_of_not_lt fun c => ?_
  have a1 : FP.Core.unitsOf f n' * d < w := Nat.lt_of_not_le fun q => absurd (h.2.1 n' q) (by omega)
  have a2 : w' < FP.Core.unitsOf f n * d := Nat.lt_of_not_le fun q => absurd (h'.2.2 n (Nat.le_of_lt hn) q) (by omega)
  have b1 := k n' hn'
  have b2 := k' n hn
  omega
theorem mul_nr (hf : FP.Core.Good f) {x y : Nat} (hx : x < FP.Core.infBits f) (hy : y < FP.Core.infBits f) (hn : FP.Core.mul f x y < FP.Core.infBits f) : Nr f (FP.Core.mul f x y) (FP.Core.unitsOf f x * FP.Core.unitsOf f y) (2 ^ (-f.qmin).toNat) := by
  obtain ⟨c, q, x1, x2, x3⟩ := dec_nn hf hx
  obtain ⟨d, r, y1, y2, y3⟩ := dec_nn hf hy
  obtain ⟨p1, p2, p3⟩ := FP.Core.product_units x2 y2
  have hq := FP.Core.qmin_neg hf
  have hd : FP.Core.decode f (FP.Core.mul f x y) = FP.Core.roundRatio f false (c * d) 1 (q + r) := by
    unfold FP.Core.mul
    rw [FP.Core.decode_enc hf (FP.Core.round_fits hf _), x1, y1, p1]
    rfl
  have hu : FP.Core.inUnits (c * d) (q + r) (2 * f.qmin) = FP.Core.unitsOf f x * FP.Core.unitsOf f y := by
    rw [p3, ← x3, ← y3]
    rfl
  have pz : (f.qmin - 2 * f.qmin).toNat = (-f.qmin).toNat := by omega
  exact nr_of hf hn hd (by decide) (e0 := 2 * f.qmin) (by omega) p2 hu (by rw [pz, Nat.mul_one])
theorem div_nr (hf : FP.Core.Good f) {x y : Nat} (hx : x < FP.Core.infBits f) (hy : y < FP.Core.infBits f) (hy0 : 0 < y) (hn : FP.Core.div f x y < FP.Core.infBits f) : Nr f (FP.Core.div f x y) (FP.Core.unitsOf f x * 2 ^ (-f.qmin).toNat) (FP.Core.unitsOf f y) := by
  obtain ⟨c, q, x1, x2, x3⟩ := dec_nn hf hx
  obtain ⟨d, r, y1, y2, y3⟩ := dec_nn hf hy
  have hq := FP.Core.qmin_neg hf
  have hd0 : d ≠ 0 := by
    rintro rfl
    have h1 : FP.Core.unitsOf f y = 0 := by rw [← y3]; exact Nat.zero_mul _
    have := FP.Core.unitsOf_eq_zero.mp h1
    omega
  have hd : FP.Core.decode f (FP.Core.div f x y) = FP.Core.roundRatio f false c d (q - r) := by
    unfold FP.Core.div
    rw [FP.Core.decode_enc hf (FP.Core.quotient_fits hf _ _), x1, y1]
    simp only [FP.Core.quotient, if_neg hd0]
    rfl
  have hx1 := x2.2.1
  have hy1 := y2.2.1
  have e1 : FP.Core.inUnits c (q - r) (2 * f.qmin - r) = FP.Core.unitsOf f x * 2 ^ (-f.qmin).toNat := by
    rw [← x3]
    show c * _ = c * _ * _
    rw [Nat.mul_assoc, ← Nat.pow_add]
    congr 2
    omega
  have e2 : 2 ^ (f.qmin - (2 * f.qmin - r)).toNat * d = FP.Core.unitsOf f y := by
    rw [← y3]
    show _ = d * _
    rw [Nat.mul_comm]
    congr 2
    omega
  exact nr_of hf hn hd (by omega) (e0 := 2 * f.qmin - r) (by omega) (by omega) e1 e2
end FN
theorem mul32_nr {x y : UInt32} (hx : x.toNat < 2139095040) (hy : y.toNat < 2139095040) (hn : (FP.fmul x y).toNat < 2139095040) : Nr FP.Core.b32 (FP.fmul x y).toNat (u32 x.toNat * u32 y.toNat) (2 ^ 149) := by
  have e : (FP.fmul x y).toNat = FP.Core.mul FP.Core.b32 x.toNat y.toNat := FP.Core.toNat_of32 (FP.Core.round_fits FP.Core.good_b32 _)
  rw [e] at hn ⊢
  rw [← q32]
  exact mul_nr FP.Core.good_b32 (inf32 hx) (inf32 hy) (inf32 hn)
theorem div32_nr {x y : UInt32} (hx : x.toNat < 2139095040) (hy : y.toNat < 2139095040) (h0 : 0 < y.toNat) (hn : (FP.fdiv x y).toNat < 2139095040) : Nr FP.Core.b32 (FP.fdiv x y).toNat (u32 x.toNat * 2 ^ 149) (u32 y.toNat) := by
  have e : (FP.fdiv x y).toNat = FP.Core.div FP.Core.b32 x.toNat y.toNat := FP.Core.toNat_of32 (FP.Core.quotient_fits FP.Core.good_b32 _ _)
  rw [e] at hn ⊢
  rw [← q32]
  exact div_nr FP.Core.good_b32 (inf32 hx) (inf32 hy) h0 (inf32 hn)
theorem u32_lt {a b : Nat} (h : a < b) : u32 a < u32 b := Nat.lt_of_not_le fun q => absurd (u32_le.mp q) (by omega)
theorem mul32_mono {x x' y : UInt32} (hx : x'.toNat < 2139095040) (hy : y.toNat < 2139095040) (hy0 : 0 < y.toNat) (h : x.toNat ≤ x'.toNat) (h1 : (FP.fmul x y).toNat < 2139095040) (h2 : (FP.fmul x' y).toNat < 2139095040) : (FP.fmul x y).toNat ≤ (FP.fmul x' y).toNat := by
  rcases Nat.lt_or_ge x.toNat x'.toNat with c | c
  · have p : 0 < u32 y.toNat := Nat.lt_of_le_of_lt (Nat.zero_le _) (u32_lt hy0)
    exact near_mono (mul32 (by omega) hy) (mul32 hx hy) (mul32_nr (by omega) hy h1) (mul32_nr hx hy h2) (inf32 h1) (inf32 h2) (Nat.mul_lt_mul_of_pos_right (u32_lt c) p)
  · have e : x = x' := UInt32.toNat.inj (by omega)
    rw [e]
    exact Nat.le_refl _
theorem div32_mono {x x' y : UInt32} (hx : x'.toNat < 2139095040) (hy : y.toNat < 2139095040) (hy0 : 0 < y.toNat) (h : x.toNat ≤ x'.toNat) (h1 : (FP.fdiv x y).toNat < 2139095040) (h2 : (FP.fdiv x' y).toNat < 2139095040) : (FP.fdiv x y).toNat ≤ (FP.fdiv x' y).toNat := by
  rcases Nat.lt_or_ge x.toNat x'.toNat with c | c
  · exact near_mono (div32 (by omega) hy hy0) (div32 hx hy hy0) (div32_nr (by omega) hy hy0 h1) (div32_nr hx hy hy0 h2) (inf32 h1) (inf32 h2) (Nat.mul_lt_mul_of_pos_right (u32_lt c) (Nat.two_pow_pos _))
  · have e : x = x' := UInt32.toNat.inj (by omega)
    rw [e]
    exact Nat.le_refl _
/-- dimmed by m hundredths -/
def dmN (m : Nat) (x : UInt32) : UInt32 := FP.fdiv (FP.fmul x (FP.i2f (nI m))) f100
/-- the steps are numbers -/
theorem dm_fin {x : UInt32} {m : Nat} (hx : okL x) (h1 : 10 ≤ m) (h2 : m ≤ 100) : (FP.fmul x (FP.i2f (nI m))).toNat ≤ (FP.i2f (nI m)).toNat ∧ (FP.i2f (nI m)).toNat < 2139095040 ∧ 0 < (FP.i2f (nI m)).toNat := by
  unfold okL at hx
  obtain ⟨i1, i2⟩ := u32_i m (by omega)
  have hx1 : u32 x.toNat ≤ 2 ^ 149 := by rw [← u32_1]; exact u32_le.mpr hx
  have hm := mul32 (x := x) (y := FP.i2f (nI m)) (by omega) i2
  refine ⟨hm.2.1 _ (by rw [Nat.mul_comm]; exact Nat.mul_le_mul_left _ hx1), i2, Nat.pos_of_ne_zero fun q => ?_⟩
  rw [q, show u32 0 = 0 from FP.Core.unitsOf_zero _] at i1
  have := Nat.two_pow_pos 149
  have := Nat.mul_le_mul_right (2 ^ 149) h1
  omega
theorem dm_mono {x y : UInt32} {m : Nat} (hy : okL y) (h : x.toNat ≤ y.toNat) (h1 : 10 ≤ m) (h2 : m ≤ 100) : (dmN m x).toNat ≤ (dmN m y).toNat := by
  have hx : okL x := by unfold okL at hy ⊢; omega
  obtain ⟨a1, a2, a3⟩ := dm_fin hx h1 h2
  obtain ⟨b1, -, -⟩ := dm_fin hy h1 h2
  have c1 := (fl_dm hx h1 h2).2.2
  have c2 := (fl_dm hy h1 h2).2.2
  unfold okL at c1 c2 hx hy
  refine div32_mono (by omega) (by rw [u32_100.2]; omega) (by rw [u32_100.2]; omega) ?_ (by omega) (by omega)
  exact mul32_mono (by omega) a2 a3 h (by omega) (by omega)
/-- numbers of 24 digits -/
theorem u32_small {n : Nat} (h : n < 16777216) : u32 n = n := by
  have ht : FP.Core.b32.tails = 8388608 := by decide
  by_cases c : n < 8388608
  · unfold u32 FP.Core.unitsOf
    rw [ht, if_pos c]
  · have e := u32_val (e := 1) (T := n - 8388608) (Nat.le_refl _) (by omega)
    rw [show 1 * 8388608 + (n - 8388608) = n by omega] at e
    rw [e, show 1 - 1 = 0 from rfl, Nat.pow_zero, Nat.mul_one]
theorem rep32 {N s : Nat} (hN : N < 16777216) (hs : s ≤ 200) : ∃ m, m < 2139095040 ∧ u32 m = N * 2 ^ s := by
  by_cases h : N * 2 ^ s < 16777216
  · exact ⟨N * 2 ^ s, by omega, u32_small h⟩
  · have h0 : ¬ N = 0 := by
      rintro rfl
      rw [Nat.zero_mul] at h
      omega
    obtain ⟨t, t1, t2, t3⟩ := two_up (A := 8388608) 23 N hN (by
      have : 1 * 2 ^ 23 ≤ N * 2 ^ 23 := Nat.mul_le_mul_right _ (by omega)
      omega)
    have ts : t ≤ s := by
      refine Nat.le_of_not_lt fun c => h ?_
      have : N * 2 ^ s ≤ N * 2 ^ t := Nat.mul_le_mul_left _ (Nat.pow_le_pow_right (by omega) (by omega))
      omega
    have um := u32_val (e := s - t + 1) (T := N * 2 ^ t - 8388608) (by omega) (by omega)
    refine ⟨(s - t + 1) * 8388608 + (N * 2 ^ t - 8388608), ?_, ?_⟩
    · have : (s - t + 1) * 8388608 ≤ 201 * 8388608 := Nat.mul_le_mul_right _ (by omega)
      omega
    · rw [um, show 8388608 + (N * 2 ^ t - 8388608) = N * 2 ^ t by omega, Nat.mul_assoc, ← Nat.pow_add, show t + (s - t + 1 - 1) = s by omega]
/-- 99 hundredths and less take light away -/
theorem dm_dec {x : UInt32} {m : Nat} (hx : okL x) (h1 : 10 ≤ m) (h2 : m ≤ 99) : (dmN m x).toNat ≤ x.toNat := by
  have hx0 := hx
  unfold okL at hx
  obtain ⟨i1, i2⟩ := u32_i m (by omega)
  obtain ⟨N, s, hd⟩ := DecF.ex x.toNat
  have hu := hd.u
  have hN := hd.N
  have hs : s ≤ 126 := by rcases hd with ⟨d1, d2, d3⟩ | ⟨d1, d2, d3⟩ <;> omega
  have ex : ∃ z, z < 2139095040 ∧ u32 x.toNat * 99 ≤ u32 z ∧ u32 z ≤ u32 x.toNat * 100 := by
    by_cases c : N < 128
    · obtain ⟨z, z1, z2⟩ := rep32 (N := 99 * N) (s := s) (by omega) (by omega)
      refine ⟨z, z1, ?_, ?_⟩
      · rw [z2, hu, Nat.mul_right_comm N (2 ^ s) 99]
        exact Nat.mul_le_mul_right _ (by omega)
      · rw [z2, hu, Nat.mul_right_comm N (2 ^ s) 100]
        exact Nat.mul_le_mul_right _ (by omega)
    · obtain ⟨z, z1, z2⟩ := rep32 (N := (99 * N + 127) / 128) (s := 7 + s) (by omega) (by omega)
      rw [Nat.pow_add, ← Nat.mul_assoc] at z2
      refine ⟨z, z1, ?_, ?_⟩
      · rw [z2, hu, Nat.mul_right_comm N (2 ^ s) 99]
        exact Nat.mul_le_mul_right _ (by omega)
      · rw [z2, hu, Nat.mul_right_comm N (2 ^ s) 100]
        exact Nat.mul_le_mul_right _ (by omega)
  obtain ⟨z, z1, z2, z3⟩ := ex
  have hm := mul32 (x := x) (y := FP.i2f (nI m)) (by omega) i2
  have p1 : (FP.fmul x (FP.i2f (nI m))).toNat ≤ z := hm.2.1 z (by
    show _ ≤ u32 z * _
    rw [i1, ← Nat.mul_assoc]
    exact Nat.mul_le_mul_right _ (Nat.le_trans (Nat.mul_le_mul_left _ h2) z2))
  have p2 : u32 (FP.fmul x (FP.i2f (nI m))).toNat ≤ u32 x.toNat * 100 := Nat.le_trans (u32_le.mpr p1) z3
  have p3 : (FP.fmul x (FP.i2f (nI m))).toNat < 2139095040 := Nat.lt_of_le_of_lt p1 z1
  exact cent32 p3 p2
/-- light that is no less than 2 ^ (-4 w) -/
def lowL (w : Nat) (x : UInt32) : Prop := (127 - 4 * w) * 8388608 ≤ x.toNat
theorem dm_low {x : UInt32} {m w : Nat} (hx : okL x) (h1 : 10 ≤ m) (h2 : m ≤ 100) (hw : w < 31) (h : lowL w x) : lowL (w + 1) (dmN m x) := by
  unfold lowL at h ⊢
  have hx0 := hx
  unfold okL at hx
  obtain ⟨i1, i2⟩ := u32_i m (by omega)
  obtain ⟨f1, f2, f3⟩ := dm_fin hx0 h1 h2
  have ux : 8388608 * 2 ^ (126 - 4 * w) ≤ u32 x.toNat := by
    have := u32_val (e := 127 - 4 * w) (T := 0) (by omega) (by omega)
    rw [Nat.add_zero, Nat.add_zero, show 127 - 4 * w - 1 = 126 - 4 * w by omega] at this
    rw [← this]
    exact u32_le.mpr h
  have hm := mul32 (x := x) (y := FP.i2f (nI m)) (by omega) i2
  have um := u32_val (e := 130 - 4 * w) (T := 2097152) (by omega) (by omega)
  rw [show 130 - 4 * w - 1 = 3 + (126 - 4 * w) by omega, Nat.pow_add, ← Nat.mul_assoc] at um
  have p1 : (130 - 4 * w) * 8388608 + 2097152 ≤ (FP.fmul x (FP.i2f (nI m))).toNat := hm.2.2 _ (by
    have : (130 - 4 * w) * 8388608 ≤ 130 * 8388608 := Nat.mul_le_mul_right _ (by omega)
    exact Nat.le_of_lt (inf32 (by omega))) (by
    show u32 _ * _ ≤ _
    rw [um, i1, ← Nat.mul_assoc]
    refine Nat.mul_le_mul_right _ ?_
    refine Nat.le_trans ?_ (Nat.mul_le_mul ux h1)
    omega)
  have hd := div32 (x := FP.fmul x (FP.i2f (nI m))) (y := f100) (by omega) (by rw [u32_100.2]; omega) (by rw [u32_100.2]; omega)
  rw [u32_100.1] at hd
  have uz := u32_val (e := 127 - 4 * (w + 1)) (T := 0) (by omega) (by omega)
  rw [Nat.add_zero, Nat.add_zero] at uz
  refine hd.2.2 _ (by
    have : (127 - 4 * (w + 1)) * 8388608 ≤ 127 * 8388608 := Nat.mul_le_mul_right _ (by omega)
    exact Nat.le_of_lt (inf32 (by omega))) ?_
  show u32 _ * _ ≤ _
  rw [uz, ← Nat.mul_assoc]
  refine Nat.mul_le_mul_right _ (Nat.le_trans ?_ (u32_le.mpr p1))
  rw [um, show 126 - 4 * w = 4 + (127 - 4 * (w + 1) - 1) by omega, Nat.pow_add]
  have := Nat.two_pow_pos (127 - 4 * (w + 1) - 1)
  omega
theorem low_mono {w : Nat} {x y : UInt32} (h : lowL w x) (k : x.toNat ≤ y.toNat) : lowL w y := Nat.le_trans h k
theorem low_up {w v : Nat} {x : UInt32} (h : lowL w x) (k : w ≤ v) : lowL v x := by
  unfold lowL at h ⊢
  exact Nat.le_trans (Nat.mul_le_mul_right _ (by omega)) h
theorem low_pos {w : Nat} {x : UInt32} (hw : w ≤ 31) (h : lowL w x) : 8388608 ≤ x.toNat := by
  unfold lowL at h
  have : 3 * 8388608 ≤ (127 - 4 * w) * 8388608 := Nat.mul_le_mul_right _ (by omega)
  omega
/-- a letter rubbed out leaves no less light -/
theorem rub_ge {x : UInt32} (hx : okL x) (h : 8388608 ≤ x.toNat) : x.toNat ≤ (FP.fdiv (FP.fadd x FP.fconst1) FP.fconst2).toNat := by
  unfold okL at hx
  have e1 : FP.fconst1.toNat = 1065353216 := rfl
  have e2 : FP.fconst2.toNat = 1073741824 := rfl
  have hx1 : u32 x.toNat ≤ 2 ^ 149 := by rw [← u32_1]; exact u32_le.mpr hx
  have ha := add32 (x := x) (y := FP.fconst1) (by omega) (by omega)
  rw [e1, u32_1] at ha
  have up := u32_up h 1
  rw [Nat.one_mul, show 2 ^ 1 = 2 from rfl] at up
  have p0 : (FP.fadd x FP.fconst1).toNat ≤ 1073741824 := ha.2.1 _ (by show _ ≤ u32 1073741824 * 1; rw [u32_2]; omega)
  have p1 : x.toNat + 8388608 ≤ (FP.fadd x FP.fconst1).toNat := ha.2.2 _ (Nat.le_of_lt (inf32 (by omega))) (by show u32 (x.toNat + 8388608) * 1 ≤ _; rw [up]; omega)
  have hd := div32 (x := FP.fadd x FP.fconst1) (y := FP.fconst2) (by omega) (by omega) (by omega)
  rw [e2, u32_2] at hd
  have h3 := u32_le.mpr p1
  rw [up] at h3
  have h4 : u32 x.toNat * 2 ^ 150 ≤ u32 (FP.fadd x FP.fconst1).toNat * 2 ^ 149 := by
    have e : (2 : Nat) ^ 150 = 2 * 2 ^ 149 := Nat.pow_succ'
    rw [e, ← Nat.mul_assoc]
    exact Nat.mul_le_mul_right _ h3
  exact hd.2.2 _ (Nat.le_of_lt (inf32 (by omega))) h4
