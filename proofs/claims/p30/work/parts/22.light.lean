/-! light: the words -/
def okL (x : UInt32) : Prop := x.toNat ≤ 1065353216
def dmF (loss : Int32) (x : UInt32) : UInt32 := FP.fdiv (FP.fmul x (FP.i2f (nI 100 - loss))) f100
def enF (rd : Int32) (x : UInt32) : Bool := !decide (Op.cmpValue (FP.fcmp x (FP.fdiv (FP.i2f rd) f100)) CmpOp.l < 0)
def clF (cl : Int32) (x : UInt32) : UInt32 := FP.fadd x (FP.fdiv (FP.fmul (FP.fsub FP.fconst1 x) (FP.i2f cl)) f100)
def ltF (a b : UInt32) : Bool := decide (Op.cmpValue (FP.fcmp a b) CmpOp.g < 0)
def suF (f : Nat → UInt32) : Nat → UInt32 := fo (fun s j => FP.fadd s (f j)) FP.fconst0
def leF (f : Nat → UInt32) : Nat → UInt32 := fo (fun m j => if ltF (f (j + 1)) m then f (j + 1) else m) (f 0)
/-- light as it is told: not below 0, at most 120 -/
def bfOK (v : UInt32) : Prop := v.toNat ≤ 1123024896
theorem bfOK_L {v : UInt32} (h : okL v) : bfOK v := by unfold okL at h; unfold bfOK; omega
def d120 : UInt64 := UInt64.ofNat 4638144666238189568
def smD (f : Nat → UInt32) (n : Nat) : UInt64 := fo (fun s j => FP.dadd s (FP.f2d (f j))) 0 n
def meOK (v : UInt64) : Prop := v.toNat ≤ 4607182418800017408
def gtF (a b : UInt32) : Bool := !decide (Op.cmpValue (FP.fcmp a b) CmpOp.l ≤ 0)
/-! light: the laws of its floats -/
abbrev u32 (n : Nat) : Nat := FP.Core.unitsOf FP.Core.b32 n
abbrev u64 (n : Nat) : Nat := FP.Core.unitsOf FP.Core.b64 n
theorem u32_1 : u32 1065353216 = 2 ^ 149 := by decide +kernel
theorem u32_2 : u32 1073741824 = 2 ^ 150 := by decide +kernel
theorem u32_h : u32 1056964608 = 2 ^ 148 := by decide +kernel
theorem u32_i : ∀ k, k < 129 → u32 (FP.i2f (nI k)).toNat = k * 2 ^ 149 ∧ (FP.i2f (nI k)).toNat < 2139095040 := by decide +kernel
theorem u32_100 : u32 f100.toNat = 100 * 2 ^ 149 ∧ f100.toNat = 1120403456 := by decide +kernel
theorem u32_le {a b : Nat} : u32 a ≤ u32 b ↔ a ≤ b := FP.Core.unitsOf_le_iff
theorem inf32 {n : Nat} (h : n < 2139095040) : n < FP.Core.infBits FP.Core.b32 := by rw [FP.Core.infBits_b32]; exact h
theorem q32 : (-FP.Core.b32.qmin).toNat = 149 := by rw [FP.Core.qmin_b32]; rfl
theorem vf32 {r : UInt32} (h : r.toNat ≤ 2139095040) : vf_n32 r := by
  unfold vf_n32
  rw [UInt32.le_iff_toNat_le, UInt32.toNat_and]
  have e : r.toNat &&& (0x7fffffff : UInt32).toNat = r.toNat % 2 ^ 31 := Nat.and_two_pow_sub_one_eq_mod r.toNat 31
  rw [e]
  exact Nat.le_trans (Nat.mod_le _ _) h
theorem add32 {x y : UInt32} (hx : x.toNat < 2139095040) (hy : y.toNat < 2139095040) : Near FP.Core.b32 (FP.fadd x y).toNat (u32 x.toNat + u32 y.toNat) 1 := by
  have e : (FP.fadd x y).toNat = FP.Core.add FP.Core.b32 x.toNat y.toNat := FP.Core.toNat_of32 (FP.Core.round_fits FP.Core.good_b32 _)
  rw [e]
  exact add_nn FP.Core.good_b32 (inf32 hx) (inf32 hy)
theorem sub32 {x y : UInt32} (hx : x.toNat < 2139095040) (hy : y.toNat ≤ x.toNat) : Near FP.Core.b32 (FP.fsub x y).toNat (u32 x.toNat - u32 y.toNat) 1 := by
  have e : (FP.fsub x y).toNat = FP.Core.sub FP.Core.b32 x.toNat y.toNat := FP.Core.toNat_of32 (FP.Core.round_fits FP.Core.good_b32 _)
  rw [e]
  exact sub_nn FP.Core.good_b32 (inf32 hx) (inf32 (Nat.lt_of_le_of_lt hy hx)) (u32_le.mpr hy)
theorem mul32 {x y : UInt32} (hx : x.toNat < 2139095040) (hy : y.toNat < 2139095040) : Near FP.Core.b32 (FP.fmul x y).toNat (u32 x.toNat * u32 y.toNat) (2 ^ 149) := by
  have e : (FP.fmul x y).toNat = FP.Core.mul FP.Core.b32 x.toNat y.toNat := FP.Core.toNat_of32 (FP.Core.round_fits FP.Core.good_b32 _)
  rw [e, ← q32]
  exact mul_nn FP.Core.good_b32 (inf32 hx) (inf32 hy)
theorem div32 {x y : UInt32} (hx : x.toNat < 2139095040) (hy : y.toNat < 2139095040) (h0 : 0 < y.toNat) : Near FP.Core.b32 (FP.fdiv x y).toNat (u32 x.toNat * 2 ^ 149) (u32 y.toNat) := by
  have e : (FP.fdiv x y).toNat = FP.Core.div FP.Core.b32 x.toNat y.toNat := FP.Core.toNat_of32 (FP.Core.quotient_fits FP.Core.good_b32 _ _)
  rw [e, ← q32]
  exact div_nn FP.Core.good_b32 (inf32 hx) (inf32 hy) h0
/-- divided by 100: at most m, if the worth is at most 100 times m's -/
theorem cent32 {x : UInt32} (hx : x.toNat < 2139095040) {m : Nat} (h : u32 x.toNat ≤ u32 m * 100) : (FP.fdiv x f100).toNat ≤ m := by
  have hd := div32 (y := f100) hx (by rw [u32_100.2]; omega) (by rw [u32_100.2]; omega)
  rw [u32_100.1] at hd
  refine hd.2.1 m ?_
  show u32 x.toNat * 2 ^ 149 ≤ u32 m * (100 * 2 ^ 149)
  rw [← Nat.mul_assoc]
  exact Nat.mul_le_mul_right _ h
theorem fl_dm {x : UInt32} {m : Nat} (hx : okL x) (h1 : 10 ≤ m) (h2 : m ≤ 100) : vf_n32 (FP.fmul x (FP.i2f (nI m))) ∧ vf_n32 (FP.fdiv (FP.fmul x (FP.i2f (nI m))) f100) ∧ okL (FP.fdiv (FP.fmul x (FP.i2f (nI m))) f100) := by
  unfold okL at hx ⊢
  obtain ⟨i1, i2⟩ := u32_i m (by omega)
  have hx1 : u32 x.toNat ≤ 2 ^ 149 := by rw [← u32_1]; exact u32_le.mpr hx
  have hm := mul32 (x := x) (y := FP.i2f (nI m)) (by omega) i2
  have p1 : (FP.fmul x (FP.i2f (nI m))).toNat ≤ (FP.i2f (nI m)).toNat := hm.2.1 _ (by rw [Nat.mul_comm]; exact Nat.mul_le_mul_left _ hx1)
  have p2 : u32 (FP.fmul x (FP.i2f (nI m))).toNat ≤ 100 * 2 ^ 149 := Nat.le_trans (u32_le.mpr p1) (by rw [i1]; exact Nat.mul_le_mul_right _ h2)
  have d1 := cent32 (x := FP.fmul x (FP.i2f (nI m))) (by omega) (m := 1065353216) (by rw [u32_1, Nat.mul_comm]; exact p2)
  exact ⟨vf32 (by omega), vf32 (by omega), d1⟩
theorem fl_rd {r : Nat} (h1 : 1 ≤ r) (h2 : r ≤ 99) : vf_n32 (FP.fdiv (FP.i2f (nI r)) f100) := by
  obtain ⟨i1, i2⟩ := u32_i r (by omega)
  have d1 := cent32 (x := FP.i2f (nI r)) i2 (m := 1065353216) (by rw [u32_1, i1, Nat.mul_comm]; exact Nat.mul_le_mul_left _ (by omega))
  exact vf32 (by omega)
theorem fl_rub {x : UInt32} (hx : okL x) : vf_n32 (FP.fadd x FP.fconst1) ∧ vf_n32 (FP.fdiv (FP.fadd x FP.fconst1) FP.fconst2) ∧ okL (FP.fdiv (FP.fadd x FP.fconst1) FP.fconst2) := by
  unfold okL at hx ⊢
  have e1 : FP.fconst1.toNat = 1065353216 := rfl
  have e2 : FP.fconst2.toNat = 1073741824 := rfl
  have hx1 : u32 x.toNat ≤ 2 ^ 149 := by rw [← u32_1]; exact u32_le.mpr hx
  have ha := add32 (x := x) (y := FP.fconst1) (by omega) (by omega)
  rw [e1, u32_1] at ha
  have p1 : (FP.fadd x FP.fconst1).toNat ≤ 1073741824 := ha.2.1 _ (by show _ ≤ u32 1073741824 * 1; rw [u32_2]; omega)
  have hd := div32 (x := FP.fadd x FP.fconst1) (y := FP.fconst2) (by omega) (by omega) (by omega)
  rw [e2, u32_2] at hd
  have p2 : (FP.fdiv (FP.fadd x FP.fconst1) FP.fconst2).toNat ≤ 1065353216 := hd.2.1 _ (by
    show _ ≤ u32 1065353216 * _
    rw [u32_1]
    have := u32_le.mpr p1
    rw [u32_2] at this
    rw [Nat.mul_comm]
    exact Nat.mul_le_mul_left _ this)
  exact ⟨vf32 (by omega), vf32 (by omega), p2⟩
theorem nan32 {x : UInt32} (h : x.toNat ≤ 2139095040) : FP.Core.val32 x ≠ .nan := by
  rw [FP.Core.ne_nan32]
  exact Nat.le_trans (Nat.mod_le _ _) h
theorem cmp32 {x y : UInt32} (hx : x.toNat ≤ 2139095040) (hy : y.toNat ≤ 2139095040) : FP.fcmp x y = some (compare x.toNat y.toNat) := by
  obtain ⟨h1, h2, h3⟩ := FP.Core.mono_bits32 (nan32 hx) (nan32 hy) (by omega) (by omega)
  rcases Nat.lt_trichotomy x.toNat y.toNat with h | h | h
  · rw [Nat.compare_eq_lt.mpr h]; exact h1.mpr h
  · rw [Nat.compare_eq_eq.mpr h]; exact h2.mpr h
  · rw [Nat.compare_eq_gt.mpr h]; exact h3.mpr h
theorem fl_eq {x y : UInt32} (hx : okL x) (hy : okL y) (h : Op.cmpValue (FP.fcmp x y) CmpOp.l = 0) : x = y := by
  unfold okL at hx hy
  rw [cmp32 (by omega) (by omega)] at h
  rcases Nat.lt_trichotomy x.toNat y.toNat with c | c | c
  · rw [Nat.compare_eq_lt.mpr c] at h; exact absurd h (by decide)
  · exact UInt32.toNat.inj c
  · rw [Nat.compare_eq_gt.mpr c] at h; exact absurd h (by decide)
theorem fl_su0 {f : Nat → UInt32} (hf : ∀ j, j < 120 → okL (f j)) : ∀ n, n ≤ 120 → (suF f n).toNat ≤ (FP.i2f (nI n)).toNat
  | 0, _ => Nat.zero_le _
  | n + 1, hn => by
    have ih := fl_su0 hf n (by omega)
    obtain ⟨i1, i2⟩ := u32_i n (by omega)
    obtain ⟨j1, j2⟩ := u32_i (n + 1) (by omega)
    have hx := hf n (by omega)
    unfold okL at hx
    have hx1 : u32 (f n).toNat ≤ 2 ^ 149 := by rw [← u32_1]; exact u32_le.mpr hx
    have hs : u32 (suF f n).toNat ≤ n * 2 ^ 149 := by rw [← i1]; exact u32_le.mpr ih
    have ha := add32 (x := suF f n) (y := f n) (by omega) (by omega)
    have e : suF f (n + 1) = FP.fadd (suF f n) (f n) := rfl
    rw [e]
    exact ha.2.1 _ (by show _ ≤ u32 (FP.i2f (nI (n + 1))).toNat * 1; rw [j1, Nat.add_mul]; omega)
theorem fl_su {f : Nat → UInt32} (hf : ∀ j, j < 120 → okL (f j)) (n : Nat) (hn : n ≤ 120) : vf_n32 (suF f n) := by
  have h1 := fl_su0 hf n hn
  have h2 := (u32_i n (by omega)).2
  exact vf32 (by omega)
theorem bf_su {f : Nat → UInt32} (h : ∀ k, k < 120 → okL (f k)) : bfOK (suF f 120) := by
  have h1 := fl_su0 h 120 (by omega)
  have h2 : (FP.i2f (nI 120)).toNat = 1123024896 := by decide +kernel
  unfold bfOK
  omega
theorem fl_self {v : UInt32} (h : bfOK v) : Op.cmpValue (FP.fcmp v v) CmpOp.l = 0 := by
  unfold bfOK at h
  rw [cmp32 (by omega) (by omega), Nat.compare_eq_eq.mpr rfl]
  decide
theorem fl_rdbits : ∀ r, r < 100 → 1 ≤ r → enF (nI r) 0 = false ∧ (FP.fdiv (FP.i2f (nI r)) f100).toNat ≤ 1065353216 := by decide +kernel
theorem fl_gt0 {r : Nat} {x : UInt32} (h1 : 1 ≤ r) (h2 : r ≤ 99) (hx : okL x) (h : enF (nI r) x = true) : gtF x FP.fconst0 = true := by
  unfold okL at hx
  by_cases c : x.toNat = 0
  · have e : x = 0 := UInt32.toNat.inj c
    rw [e, (fl_rdbits r (by omega) h1).1] at h
    exact absurd h (by decide)
  · unfold gtF
    have e0 : FP.fconst0.toNat = 0 := rfl
    rw [cmp32 (by omega) (by omega), e0, Nat.compare_eq_gt.mpr (by omega)]
    decide
theorem enF_iff {r : Nat} {x : UInt32} (h1 : 1 ≤ r) (h2 : r ≤ 99) (hx : okL x) : enF (nI r) x = true ↔ (FP.fdiv (FP.i2f (nI r)) f100).toNat ≤ x.toNat := by
  unfold okL at hx
  have hr := (fl_rdbits r (by omega) h1).2
  unfold enF
  rw [cmp32 (by omega) (by omega)]
  rcases Nat.lt_trichotomy x.toNat (FP.fdiv (FP.i2f (nI r)) f100).toNat with c | c | c
  · rw [Nat.compare_eq_lt.mpr c]
    exact iff_of_false (by decide) (by omega)
  · rw [Nat.compare_eq_eq.mpr c]
    exact iff_of_true (by decide) (by omega)
  · rw [Nat.compare_eq_gt.mpr c]
    exact iff_of_true (by decide) (by omega)
theorem two_up {A : Nat} : ∀ (k N : Nat), N < 2 * A → A ≤ N * 2 ^ k → ∃ t, t ≤ k ∧ A ≤ N * 2 ^ t ∧ N * 2 ^ t < 2 * A
  | 0, N, h1, h2 => ⟨0, Nat.le_refl _, h2, by rw [Nat.pow_zero, Nat.mul_one]; exact h1⟩
  | k + 1, N, h1, h2 => by
    by_cases c : A ≤ N * 2 ^ k
    · obtain ⟨t, t1, t2, t3⟩ := two_up k N h1 c
      exact ⟨t, by omega, t2, t3⟩
    · refine ⟨k + 1, Nat.le_refl _, h2, ?_⟩
      rw [Nat.pow_succ, ← Nat.mul_assoc]
      omega
theorem u32_val {e T : Nat} (he : 1 ≤ e) (hT : T < 8388608) : u32 (e * 8388608 + T) = (8388608 + T) * 2 ^ (e - 1) := by
  have ht : FP.Core.b32.tails = 8388608 := by decide
  unfold u32 FP.Core.unitsOf
  rw [ht, if_neg (by omega), show e * 8388608 + T = T + e * 8388608 by omega, Nat.add_mul_mod_self_right, Nat.add_mul_div_right _ _ (by omega), Nat.mod_eq_of_lt hT, Nat.div_eq_of_lt hT, Nat.zero_add]
/-- twice as much: one more in the exponent -/
theorem u32_up {n : Nat} (h : 8388608 ≤ n) (k : Nat) : u32 (n + k * 8388608) = u32 n * 2 ^ k := by
  have ht : FP.Core.b32.tails = 8388608 := by decide
  unfold u32 FP.Core.unitsOf
  rw [ht, if_neg (by omega), if_neg (by omega), Nat.add_mul_mod_self_right, Nat.add_mul_div_right _ _ (by omega)]
  have hd : 1 ≤ n / 8388608 := (Nat.le_div_iff_mul_le (by omega)).mpr (by omega)
  rw [show n / 8388608 + k - 1 = (n / 8388608 - 1) + k by omega, Nat.pow_add, Nat.mul_assoc]
theorem ar0 {k W : Nat} (h : k ≤ 23) : 8388608 ≤ (126 - k) * 8388608 + W := by omega
theorem ar1 {k W : Nat} (h : W < 2 * 8388608) : (126 - k) * 8388608 + (W - 8388608) ≤ 1065353216 := by
  have hA : 126 - k ≤ 126 := Nat.sub_le _ _
  have hB : W - 8388608 ≤ 8388607 := by omega
  exact Nat.le_trans (Nat.add_le_add (Nat.mul_le_mul_right _ hA) hB) (by decide)
theorem Near.le {f : FP.Core.Fmt} {n w d m U : Nat} (h : Near f n w d) (e : FP.Core.unitsOf f m = U) (hw : w ≤ U * d) : n ≤ m := h.2.1 m (by rw [e]; exact hw)
theorem fl_cl1 {x : UInt32} {c : Nat} (hx : okL x) (h : c ≤ 50) : vf_n32 (FP.fsub FP.fconst1 x) ∧ vf_n32 (FP.fmul (FP.fsub FP.fconst1 x) (FP.i2f (nI c))) ∧ vf_n32 (FP.fdiv (FP.fmul (FP.fsub FP.fconst1 x) (FP.i2f (nI c))) f100) ∧ vf_n32 (clF (nI c) x) ∧ okL (clF (nI c) x) ∧ x.toNat ≤ (clF (nI c) x).toNat := by
  unfold okL at hx ⊢
  have e1 : FP.fconst1.toNat = 1065353216 := rfl
  have hx1 : u32 x.toNat ≤ 2 ^ 149 := by rw [← u32_1]; exact u32_le.mpr hx
  obtain ⟨i1, i2⟩ := u32_i c (by omega)
  have hs := sub32 (x := FP.fconst1) (y := x) (by omega) (by omega)
  rw [e1, u32_1] at hs
  obtain ⟨s, es⟩ : ∃ s, s = FP.fsub FP.fconst1 x := ⟨_, rfl⟩
  rw [← es] at hs ⊢
  have s1 : s.toNat ≤ 1065353216 := hs.2.1 _ (by show _ ≤ u32 1065353216 * 1; rw [u32_1]; omega)
  have su : u32 s.toNat ≤ 2 ^ 149 := by rw [← u32_1]; exact u32_le.mpr s1
  have hm := mul32 (x := s) (y := FP.i2f (nI c)) (by omega) i2
  rw [i1] at hm
  obtain ⟨p, ep⟩ : ∃ p, p = FP.fmul s (FP.i2f (nI c)) := ⟨_, rfl⟩
  rw [← ep] at hm ⊢
  have p1 : p.toNat ≤ (FP.i2f (nI c)).toNat := hm.2.1 _ (by show _ ≤ u32 (FP.i2f (nI c)).toNat * _; rw [i1, Nat.mul_comm]; exact Nat.mul_le_mul_left _ su)
  have pu : u32 p.toNat ≤ c * 2 ^ 149 := by rw [← i1]; exact u32_le.mpr p1
  have t1 : (FP.fdiv p f100).toNat ≤ 1056964608 := cent32 (by omega) (by rw [u32_h]; exact Nat.le_trans pu (by omega))
  obtain ⟨t, et⟩ : ∃ t, t = FP.fdiv p f100 := ⟨_, rfl⟩
  have ecl : clF (nI c) x = FP.fadd x t := by rw [et, ep, es]; rfl
  rw [← et] at t1 ⊢
  -- the worth of what comes back is no more than what is missing
  have tu : u32 x.toNat + u32 t.toNat ≤ 2 ^ 149 := by
    by_cases cx : x.toNat < 1056964608
    · have h1 : u32 x.toNat ≤ 2 ^ 148 := by rw [← u32_h]; exact u32_le.mpr (by omega)
      have h2 : u32 t.toNat ≤ 2 ^ 148 := by rw [← u32_h]; exact u32_le.mpr t1
      omega
    · have ex : ∃ m, u32 m = 2 ^ 149 - u32 x.toNat ∧ (m = 0 ∨ 8388608 ≤ m) ∧ m ≤ 1065353216 := by
        by_cases c1 : x.toNat = 1065353216
        · exact ⟨0, by rw [c1, u32_1, Nat.sub_self]; exact FP.Core.unitsOf_zero _, Or.inl rfl, by omega⟩
        · obtain ⟨T, hT⟩ : ∃ T, x.toNat = 126 * 8388608 + T := ⟨x.toNat - 126 * 8388608, by omega⟩
          have ux := u32_val (e := 126) (T := T) (by omega) (by omega)
          obtain ⟨k, k1, k2, k3⟩ := two_up (A := 8388608) 23 (8388608 - T) (by omega) (by
            have : 1 * 2 ^ 23 ≤ (8388608 - T) * 2 ^ 23 := Nat.mul_le_mul_right _ (by omega)
            omega)
          have um := u32_val (e := 126 - k) (T := (8388608 - T) * 2 ^ k - 8388608) (by omega) (by omega)
          refine ⟨(126 - k) * 8388608 + ((8388608 - T) * 2 ^ k - 8388608), ?_, Or.inr ?_, ?_⟩
          · rw [um, hT, ux, show 8388608 + ((8388608 - T) * 2 ^ k - 8388608) = (8388608 - T) * 2 ^ k by omega, Nat.mul_assoc, ← Nat.pow_add, show k + (126 - k - 1) = 125 by omega, show 126 - 1 = 125 from rfl]
            omega
          · exact ar0 k1
          · exact ar1 k3
      obtain ⟨m, m1, m2, m3⟩ := ex
      have sm : s.toNat ≤ m := hs.2.1 _ (by show _ ≤ u32 m * 1; omega)
      have ts : t.toNat ≤ m := by
        rcases m2 with m0 | m2
        · have s0 : u32 s.toNat = 0 := by
            have : s.toNat = 0 := by omega
            rw [this]
            exact FP.Core.unitsOf_zero _
          have p0 : p.toNat ≤ 0 := hm.2.1 _ (by rw [s0]; omega)
          rw [et]
          exact cent32 (by omega) (by
            have : p.toNat = 0 := by omega
            rw [this]
            have : u32 0 = 0 := FP.Core.unitsOf_zero _
            omega)
        · have u6 := u32_up m2 6
          have pm : p.toNat ≤ m + 6 * 8388608 := hm.2.1 _ (by
            show _ ≤ u32 (m + 6 * 8388608) * _
            rw [u6, ← Nat.mul_assoc]
            refine Nat.mul_le_mul_right _ (Nat.mul_le_mul (u32_le.mpr sm) (by omega)))
          rw [et]
          refine cent32 (by omega) ?_
          have := u32_le.mpr pm
          rw [u6] at this
          exact Nat.le_trans this (Nat.mul_le_mul_left _ (by omega))
      have := u32_le.mpr ts
      omega
  have ha := add32 (x := x) (y := t) (by omega) (by omega)
  rw [ecl]
  have a1 : (FP.fadd x t).toNat ≤ 1065353216 := ha.2.1 _ (by show _ ≤ u32 1065353216 * 1; rw [u32_1]; omega)
  have a2 : x.toNat ≤ (FP.fadd x t).toNat := ha.2.2 _ (by rw [FP.Core.infBits_b32]; omega) (by show u32 x.toNat * 1 ≤ _; omega)
  exact ⟨vf32 (by omega), vf32 (by omega), vf32 (by omega), vf32 (by omega), a1, a2⟩
theorem fl_cl {x : UInt32} {c : Nat} (hx : okL x) (h : c ≤ 50) : vf_n32 (FP.fsub FP.fconst1 x) ∧ vf_n32 (FP.fmul (FP.fsub FP.fconst1 x) (FP.i2f (nI c))) ∧ vf_n32 (FP.fdiv (FP.fmul (FP.fsub FP.fconst1 x) (FP.i2f (nI c))) f100) ∧ vf_n32 (clF (nI c) x) ∧ okL (clF (nI c) x) := by
  obtain ⟨a1, a2, a3, a4, a5, -⟩ := fl_cl1 hx h
  exact ⟨a1, a2, a3, a4, a5⟩
theorem fl_clmono {x : UInt32} {c r : Nat} (hx : okL x) (hc : c ≤ 50) (h1 : 1 ≤ r) (h2 : r ≤ 99) (h : enF (nI r) x = true) : enF (nI r) (clF (nI c) x) = true := by
  obtain ⟨-, -, -, -, a1, a2⟩ := fl_cl1 hx hc
  rw [enF_iff h1 h2 hx] at h
  rw [enF_iff h1 h2 a1]
  omega
/-! the same for doubles -/
theorem u64_1 : u64 4607182418800017408 = 2 ^ 1074 := by decide +kernel
theorem u64_i : ∀ k, k < 129 → u64 (FP.i2d (nI k)).toNat = k * 2 ^ 1074 ∧ (FP.i2d (nI k)).toNat < 9218868437227405312 := by decide +kernel
theorem u64_120 : u64 d120.toNat = 120 * 2 ^ 1074 ∧ d120.toNat = 4638144666238189568 := by decide +kernel
theorem u64_le {a b : Nat} : u64 a ≤ u64 b ↔ a ≤ b := FP.Core.unitsOf_le_iff
theorem inf64 {n : Nat} (h : n < 9218868437227405312) : n < FP.Core.infBits FP.Core.b64 := by rw [FP.Core.infBits_b64]; exact h
theorem q64 : (-FP.Core.b64.qmin).toNat = 1074 := by rw [FP.Core.qmin_b64]; rfl
theorem vf64 {r : UInt64} (h : r.toNat ≤ 9218868437227405312) : vf_n64 r := by
  unfold vf_n64
  rw [UInt64.le_iff_toNat_le, UInt64.toNat_and]
  have e : r.toNat &&& (0x7fffffffffffffff : UInt64).toNat = r.toNat % 2 ^ 63 := Nat.and_two_pow_sub_one_eq_mod r.toNat 63
  rw [e]
  exact Nat.le_trans (Nat.mod_le _ _) h
theorem add64 {x y : UInt64} (hx : x.toNat < 9218868437227405312) (hy : y.toNat < 9218868437227405312) : Near FP.Core.b64 (FP.dadd x y).toNat (u64 x.toNat + u64 y.toNat) 1 := by
  have e : (FP.dadd x y).toNat = FP.Core.add FP.Core.b64 x.toNat y.toNat := FP.Core.toNat_of64 (FP.Core.round_fits FP.Core.good_b64 _)
  rw [e]
  exact add_nn FP.Core.good_b64 (inf64 hx) (inf64 hy)
theorem sub64 {x y : UInt64} (hx : x.toNat < 9218868437227405312) (hy : y.toNat ≤ x.toNat) : Near FP.Core.b64 (FP.dsub x y).toNat (u64 x.toNat - u64 y.toNat) 1 := by
  have e : (FP.dsub x y).toNat = FP.Core.sub FP.Core.b64 x.toNat y.toNat := FP.Core.toNat_of64 (FP.Core.round_fits FP.Core.good_b64 _)
  rw [e]
  exact sub_nn FP.Core.good_b64 (inf64 hx) (inf64 (Nat.lt_of_le_of_lt hy hx)) (u64_le.mpr hy)
theorem mul64 {x y : UInt64} (hx : x.toNat < 9218868437227405312) (hy : y.toNat < 9218868437227405312) : Near FP.Core.b64 (FP.dmul x y).toNat (u64 x.toNat * u64 y.toNat) (2 ^ 1074) := by
  have e : (FP.dmul x y).toNat = FP.Core.mul FP.Core.b64 x.toNat y.toNat := FP.Core.toNat_of64 (FP.Core.round_fits FP.Core.good_b64 _)
  rw [e, ← q64]
  exact mul_nn FP.Core.good_b64 (inf64 hx) (inf64 hy)
theorem div64 {x y : UInt64} (hx : x.toNat < 9218868437227405312) (hy : y.toNat < 9218868437227405312) (h0 : 0 < y.toNat) : Near FP.Core.b64 (FP.ddiv x y).toNat (u64 x.toNat * 2 ^ 1074) (u64 y.toNat) := by
  have e : (FP.ddiv x y).toNat = FP.Core.div FP.Core.b64 x.toNat y.toNat := FP.Core.toNat_of64 (FP.Core.quotient_fits FP.Core.good_b64 _ _)
  rw [e, ← q64]
  exact div_nn FP.Core.good_b64 (inf64 hx) (inf64 hy) h0
theorem nan64 {x : UInt64} (h : x.toNat ≤ 9218868437227405312) : FP.Core.val64 x ≠ .nan := by
  rw [FP.Core.ne_nan]
  exact Nat.le_trans (Nat.mod_le _ _) h
theorem cmp64 {x y : UInt64} (hx : x.toNat ≤ 9218868437227405312) (hy : y.toNat ≤ 9218868437227405312) : FP.dcmp x y = some (compare x.toNat y.toNat) := by
  obtain ⟨h1, h2, h3⟩ := FP.Core.mono_bits (nan64 hx) (nan64 hy) (by omega) (by omega)
  rcases Nat.lt_trichotomy x.toNat y.toNat with h | h | h
  · rw [Nat.compare_eq_lt.mpr h]; exact h1.mpr h
  · rw [Nat.compare_eq_eq.mpr h]; exact h2.mpr h
  · rw [Nat.compare_eq_gt.mpr h]; exact h3.mpr h
theorem fl_selfD {v : UInt64} (h : meOK v) : Op.cmpValue (FP.dcmp v v) CmpOp.l = 0 := by
  unfold meOK at h
  rw [cmp64 (by omega) (by omega), Nat.compare_eq_eq.mpr rfl]
  decide
theorem mean0 : vf_n64 (FP.ddiv FP.dconst0 (UInt64.ofNat 4638144666238189568)) ∧ meOK (FP.ddiv FP.dconst0 (UInt64.ofNat 4638144666238189568)) ∧ (FP.ddiv FP.dconst0 (UInt64.ofNat 4638144666238189568)).toInt64 = lN ((0 : Fin 2) : Nat) := by
  have e : FP.ddiv FP.dconst0 (UInt64.ofNat 4638144666238189568) = 0 := by decide +kernel
  rw [e]
  exact ⟨vf64 (by decide), by unfold meOK; decide, by decide⟩
theorem cvt_nn {x : Nat} (hx : x < 2139095040) : Near FP.Core.b64 (FP.Core.convert FP.Core.b32 FP.Core.b64 x) (u32 x * 2 ^ 925) 1 := by
  obtain ⟨c, q, x1, x2, x3⟩ := dec_nn FP.Core.good_b32 (inf32 hx)
  have hq := x2.2.1
  rw [FP.Core.qmin_b32] at hq
  have hd : FP.Core.decode FP.Core.b64 (FP.Core.convert FP.Core.b32 FP.Core.b64 x) = FP.Core.roundRatio FP.Core.b64 false c 1 q := by
    unfold FP.Core.convert
    rw [FP.Core.decode_enc FP.Core.good_b64 (FP.Core.round_fits FP.Core.good_b64 _), x1]
    rfl
  obtain ⟨r1, r2⟩ := rr_nn (n := FP.Core.convert FP.Core.b32 FP.Core.b64 x) (enc_lt FP.Core.good_b64 (FP.Core.round_fits FP.Core.good_b64 _)) hd
  have hu : FP.Core.inUnits c q FP.Core.b64.qmin = u32 x * 2 ^ 925 := by
    unfold u32
    rw [← x3, FP.Core.qmin_b64, FP.Core.qmin_b32]
    unfold FP.Core.inUnits
    rw [Nat.mul_assoc, ← Nat.pow_add]
    congr 2
    omega
  have pz : 2 ^ (FP.Core.b64.qmin - FP.Core.b64.qmin).toNat = 1 := by rw [Int.sub_self]; rfl
  refine ⟨r1, fun m hm => ?_, fun m h1 hm => ?_⟩
  · rw [← r2]
    exact FP.Core.mag_le FP.Core.good_b64 hd (by decide) (e0 := FP.Core.b64.qmin) (by omega) (by rw [FP.Core.qmin_b64]; omega) (by rw [hu, pz, Nat.mul_one]; exact hm)
  · rw [← r2]
    exact FP.Core.mag_ge FP.Core.good_b64 hd (by decide) (e0 := FP.Core.b64.qmin) (by omega) (by rw [FP.Core.qmin_b64]; omega) h1 (by rw [hu, pz, Nat.mul_one]; exact hm)
theorem f2d_nn {x : UInt32} (hx : x.toNat < 2139095040) : Near FP.Core.b64 (FP.f2d x).toNat (u32 x.toNat * 2 ^ 925) 1 := by
  have hn : FP.Core.fIsNaN x = false := (FP.Core.notNaN_iff32 x).mpr (nan32 (by omega))
  have e : (FP.f2d x).toNat = FP.Core.convert FP.Core.b32 FP.Core.b64 x.toNat := by
    unfold FP.f2d
    rw [hn, if_neg (by decide)]
    exact FP.Core.toNat_of64 (FP.Core.round_fits FP.Core.good_b64 _)
  rw [e]
  exact cvt_nn hx
theorem f2d_le1 {x : UInt32} (hx : okL x) : (FP.f2d x).toNat ≤ 4607182418800017408 := by
  unfold okL at hx
  have h1 := f2d_nn (x := x) (by omega)
  have hx1 : u32 x.toNat ≤ 2 ^ 149 := by rw [← u32_1]; exact u32_le.mpr hx
  refine h1.le u64_1 ?_
  rw [Nat.mul_one]
  exact Nat.le_trans (Nat.mul_le_mul_right _ hx1) (by rw [← Nat.pow_add]; exact Nat.le_refl _)
theorem sm0 {f : Nat → UInt32} (hf : ∀ j, j < 120 → okL (f j)) : ∀ n, n ≤ 120 → (smD f n).toNat ≤ (FP.i2d (nI n)).toNat
  | 0, _ => Nat.zero_le _
  | n + 1, hn => by
    have ih := sm0 hf n (by omega)
    obtain ⟨i1, i2⟩ := u64_i n (by omega)
    obtain ⟨j1, j2⟩ := u64_i (n + 1) (by omega)
    have hx := f2d_le1 (hf n (by omega))
    have hx1 : u64 (FP.f2d (f n)).toNat ≤ 2 ^ 1074 := by rw [← u64_1]; exact u64_le.mpr hx
    have hs : u64 (smD f n).toNat ≤ n * 2 ^ 1074 := by rw [← i1]; exact u64_le.mpr ih
    have ha := add64 (x := smD f n) (y := FP.f2d (f n)) (by omega) (by omega)
    have e : smD f (n + 1) = FP.dadd (smD f n) (FP.f2d (f n)) := rfl
    rw [e]
    exact ha.2.1 _ (by show _ ≤ u64 (FP.i2d (nI (n + 1))).toNat * 1; rw [j1, Nat.add_mul]; omega)
theorem fl_mean {f : Nat → UInt32} (h : ∀ k, k < 120 → okL (f k)) : (∀ k, k < 120 → vf_n64 (FP.f2d (f k))) ∧ (∀ n, n ≤ 120 → vf_n64 (smD f n)) ∧ vf_n64 (FP.ddiv (smD f 120) d120) ∧ meOK (FP.ddiv (smD f 120) d120) := by
  have hs := sm0 h 120 (by omega)
  obtain ⟨i1, i2⟩ := u64_i 120 (by omega)
  have hu : u64 (smD f 120).toNat ≤ 120 * 2 ^ 1074 := by rw [← i1]; exact u64_le.mpr hs
  have hd := div64 (x := smD f 120) (y := d120) (by omega) (by rw [u64_120.2]; omega) (by rw [u64_120.2]; omega)
  rw [u64_120.1] at hd
  have d1 : (FP.ddiv (smD f 120) d120).toNat ≤ 4607182418800017408 := hd.le u64_1 (by
    rw [Nat.mul_comm (2 ^ 1074)]
    exact Nat.mul_le_mul_right _ hu)
  refine ⟨fun k hk => vf64 (by have := f2d_le1 (h k hk); omega), fun n hn => vf64 ?_, vf64 (by omega), d1⟩
  have h1 := sm0 h n hn
  have h2 := (u64_i n (by omega)).2
  omega
