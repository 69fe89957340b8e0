/-! floats that are not negative: their bits by their worth -/
section FU
variable {f : FP.Core.Fmt}
theorem dec_nn (hf : FP.Core.Good f) {x : Nat} (hx : x < FP.Core.infBits f) : ∃ c q, FP.Core.decode f x = .fin false c q ∧ FP.Core.fits f (.fin false c q) ∧ FP.Core.inUnits c q f.qmin = FP.Core.unitsOf f x := by
  have hl := FP.Core.infBits_lt f
  have hm : FP.Core.mag f x = x := FP.Core.mag_of_lt (by omega)
  obtain ⟨s, c, q, h1, h2, h3⟩ := FP.Core.fin_of_mag hf (n := x) (by rw [hm]; exact hx)
  have hs := FP.Core.sgn_decode (f := f) (n := x) (by rw [hm]; omega) (by omega)
  rw [h1] at hs
  have hs : s = decide (FP.Core.half f ≤ x) := hs
  rw [decide_eq_false (by omega)] at hs
  subst hs
  rw [hm] at h3
  exact ⟨c, q, h1, h2, h3⟩
theorem rr_nn {n A B : Nat} {e : Int} (hn2 : n < 2 * FP.Core.half f) (hn : FP.Core.decode f n = FP.Core.roundRatio f false A B e) : n ≤ FP.Core.infBits f ∧ FP.Core.mag f n = n := by
  have h1 : FP.Core.mag f n ≤ FP.Core.infBits f := Nat.le_of_not_lt fun h1 => FP.Core.roundRatio_ne_nan f false A B e (hn ▸ (FP.Core.decode_nan n).mpr h1)
  have hs := FP.Core.sgn_decode h1 hn2
  rw [hn, FP.Core.sgn_roundRatio] at hs
  have h2 : ¬ FP.Core.half f ≤ n := of_decide_eq_false hs.symm
  have hm : FP.Core.mag f n = n := FP.Core.mag_of_lt (by omega)
  exact ⟨by omega, hm⟩
theorem enc_lt (hf : FP.Core.Good f) {d : FP.Core.Datum} (h : FP.Core.fits f d) : FP.Core.encode f d < 2 * FP.Core.half f := by
  have := FP.Core.encode_lt hf d h
  unfold FP.Core.half
  rwa [← Nat.mul_assoc]
/-- what is told of a result by its exact worth w, in halves of B -/
def Near (f : FP.Core.Fmt) (n : Nat) (w d : Nat) : Prop := n ≤ FP.Core.infBits f ∧ (∀ m, w ≤ FP.Core.unitsOf f m * d → n ≤ m) ∧ ∀ m, m ≤ FP.Core.infBits f → FP.Core.unitsOf f m * d ≤ w → m ≤ n
theorem add_nn (hf : FP.Core.Good f) {x y : Nat} (hx : x < FP.Core.infBits f) (hy : y < FP.Core.infBits f) : Near f (FP.Core.add f x y) (FP.Core.unitsOf f x + FP.Core.unitsOf f y) 1 := by
  obtain ⟨c, q, x1, x2, x3⟩ := dec_nn hf hx
  obtain ⟨d, r, y1, y2, y3⟩ := dec_nn hf hy
  obtain ⟨sg, n, e, p1, p2, p3⟩ := FP.Core.sum_units x2 y2
  have hz : FP.Core.zval f (.fin false c q) + FP.Core.zval f (.fin false d r) = ((FP.Core.unitsOf f x + FP.Core.unitsOf f y : Nat) : Int) := by
    rw [← x3, ← y3, Int.natCast_add]
    rfl
  have hs : sg = false := by
    have e1 := p1
    unfold FP.Core.exactSum at e1
    injection e1 with e1 _ _
    rw [← e1]
    unfold FP.Core.sumSign FP.Core.sumUnits FP.Core.signed
    simp only [Bool.false_eq_true, if_false, Bool.and_self]
    split
    · rfl
    · exact decide_eq_false (by omega)
  subst hs
  have hd : FP.Core.decode f (FP.Core.add f x y) = FP.Core.roundRatio f false n 1 e := by
    unfold FP.Core.add
    rw [FP.Core.decode_enc hf (FP.Core.round_fits hf _), x1, y1, p1]
    rfl
  obtain ⟨r1, r2⟩ := rr_nn (n := FP.Core.add f x y) (enc_lt hf (FP.Core.round_fits hf _)) hd
  have hu : FP.Core.inUnits n e f.qmin = FP.Core.unitsOf f x + FP.Core.unitsOf f y := by
    rw [hz] at p3
    unfold FP.Core.signed at p3
    simp only [Bool.false_eq_true, if_false] at p3
    exact Int.ofNat.inj p3
  have pz : 2 ^ (f.qmin - f.qmin).toNat = 1 := by rw [Int.sub_self]; rfl
  refine ⟨r1, fun m hm => ?_, fun m h1 hm => ?_⟩
  · rw [← r2]
    exact FP.Core.mag_le hf hd (by decide) (e0 := f.qmin) (by omega) p2 (by rw [hu, pz]; omega)
  · rw [← r2]
    exact FP.Core.mag_ge hf hd (by decide) (e0 := f.qmin) (by omega) p2 h1 (by rw [hu, pz]; omega)
theorem sub_nn (hf : FP.Core.Good f) {x y : Nat} (hx : x < FP.Core.infBits f) (hy : y < FP.Core.infBits f) (hxy : FP.Core.unitsOf f y ≤ FP.Core.unitsOf f x) : Near f (FP.Core.sub f x y) (FP.Core.unitsOf f x - FP.Core.unitsOf f y) 1 := by
  obtain ⟨c, q, x1, x2, x3⟩ := dec_nn hf hx
  obtain ⟨d, r, y1, y2, y3⟩ := dec_nn hf hy
  have y2' : FP.Core.fits f (.fin true d r) := FP.Core.negate_fits (d := .fin false d r) y2
  obtain ⟨sg, n, e, p1, p2, p3⟩ := FP.Core.sum_units x2 y2'
  have hz : FP.Core.zval f (.fin false c q) + FP.Core.zval f (.fin true d r) = ((FP.Core.unitsOf f x - FP.Core.unitsOf f y : Nat) : Int) := by
    show ((FP.Core.inUnits c q f.qmin : Nat) : Int) + -((FP.Core.inUnits d r f.qmin : Nat) : Int) = _
    rw [x3, y3]
    omega
  have hs : sg = false := by
    have e1 := p1
    unfold FP.Core.exactSum at e1
    injection e1 with e1 e2 e3
    have hp : (0 : Int) ≤ FP.Core.sumUnits false c q true d r (min q r) := by
      have h1 := x2.2.1
      have h2 := y2.2.1
      have m1 := FP.Core.inUnits_move c (q := q) (e := f.qmin) (r := min q r) (by omega) (by omega)
      have m2 := FP.Core.inUnits_move d (q := r) (e := f.qmin) (r := min q r) (by omega) (by omega)
      rw [x3] at m1
      rw [y3] at m2
      unfold FP.Core.sumUnits FP.Core.signed
      simp only [Bool.false_eq_true, if_false, if_true]
      have hP := Nat.two_pow_pos (min q r - f.qmin).toNat
      have k1 : FP.Core.inUnits d r (min q r) * 2 ^ (min q r - f.qmin).toNat ≤ FP.Core.inUnits c q (min q r) * 2 ^ (min q r - f.qmin).toNat := by omega
      have k2 := Nat.le_of_mul_le_mul_right k1 hP
      omega
    rw [← e1]
    unfold FP.Core.sumSign
    split
    · rfl
    · exact decide_eq_false (by omega)
  subst hs
  have hd : FP.Core.decode f (FP.Core.sub f x y) = FP.Core.roundRatio f false n 1 e := by
    unfold FP.Core.sub
    rw [FP.Core.decode_enc hf (FP.Core.round_fits hf _), x1, y1]
    show FP.Core.round f (FP.Core.exactSum (.fin false c q) (.fin true d r)) = _
    rw [p1]
    rfl
  obtain ⟨r1, r2⟩ := rr_nn (n := FP.Core.sub f x y) (enc_lt hf (FP.Core.round_fits hf _)) hd
  have hu : FP.Core.inUnits n e f.qmin = FP.Core.unitsOf f x - FP.Core.unitsOf f y := by
    rw [hz] at p3
    unfold FP.Core.signed at p3
    simp only [Bool.false_eq_true, if_false] at p3
    exact Int.ofNat.inj p3
  have pz : 2 ^ (f.qmin - f.qmin).toNat = 1 := by rw [Int.sub_self]; rfl
  refine ⟨r1, fun m hm => ?_, fun m h1 hm => ?_⟩
  · rw [← r2]
    exact FP.Core.mag_le hf hd (by decide) (e0 := f.qmin) (by omega) p2 (by rw [hu, pz]; omega)
  · rw [← r2]
    exact FP.Core.mag_ge hf hd (by decide) (e0 := f.qmin) (by omega) p2 h1 (by rw [hu, pz]; omega)
theorem mul_nn (hf : FP.Core.Good f) {x y : Nat} (hx : x < FP.Core.infBits f) (hy : y < FP.Core.infBits f) : Near f (FP.Core.mul f x y) (FP.Core.unitsOf f x * FP.Core.unitsOf f y) (2 ^ (-f.qmin).toNat) := by
  obtain ⟨c, q, x1, x2, x3⟩ := dec_nn hf hx
  obtain ⟨d, r, y1, y2, y3⟩ := dec_nn hf hy
  obtain ⟨p1, p2, p3⟩ := FP.Core.product_units x2 y2
  have hq := FP.Core.qmin_neg hf
  have hd : FP.Core.decode f (FP.Core.mul f x y) = FP.Core.roundRatio f false (c * d) 1 (q + r) := by
    unfold FP.Core.mul
    rw [FP.Core.decode_enc hf (FP.Core.round_fits hf _), x1, y1, p1]
    rfl
  obtain ⟨r1, r2⟩ := rr_nn (n := FP.Core.mul f x y) (enc_lt hf (FP.Core.round_fits hf _)) hd
  have hu : FP.Core.inUnits (c * d) (q + r) (2 * f.qmin) = FP.Core.unitsOf f x * FP.Core.unitsOf f y := by
    rw [p3, ← x3, ← y3]
    rfl
  have pz : (f.qmin - 2 * f.qmin).toNat = (-f.qmin).toNat := by omega
  refine ⟨r1, fun m hm => ?_, fun m h1 hm => ?_⟩
  · rw [← r2]
    exact FP.Core.mag_le hf hd (by decide) (e0 := 2 * f.qmin) (by omega) p2 (by rw [hu, pz, Nat.mul_one]; exact hm)
  · rw [← r2]
    exact FP.Core.mag_ge hf hd (by decide) (e0 := 2 * f.qmin) (by omega) p2 h1 (by rw [hu, pz, Nat.mul_one]; exact hm)
theorem div_nn (hf : FP.Core.Good f) {x y : Nat} (hx : x < FP.Core.infBits f) (hy : y < FP.Core.infBits f) (hy0 : 0 < y) : Near f (FP.Core.div f x y) (FP.Core.unitsOf f x * 2 ^ (-f.qmin).toNat) (FP.Core.unitsOf f y) := by
  obtain ⟨c, q, x1, x2, x3⟩ := dec_nn hf hx
  obtain ⟨d, r, y1, y2, y3⟩ := dec_nn hf hy
  have hq := FP.Core.qmin_neg hf
  have hd0 : d ≠ 0 := by
    rintro rfl
    have h1 : FP.Core.unitsOf f y = 0 := by rw [← y3]; exact Nat.zero_mul _
    have := FP.Core.unitsOf_eq_zero.mp h1
    omega
  have hd : FP.Core.decode f (FP.Core.div f x y) = FP.Core.roundRatio f false c d (q - r) := by
    unfold FP.Core.div
    rw [FP.Core.decode_enc hf (FP.Core.quotient_fits hf _ _), x1, y1]
    simp only [FP.Core.quotient, if_neg hd0]
    rfl
  obtain ⟨r1, r2⟩ := rr_nn (n := FP.Core.div f x y) (enc_lt hf (FP.Core.quotient_fits hf _ _)) hd
  have hx1 := x2.2.1
  have hy1 := y2.2.1
  have e1 : FP.Core.inUnits c (q - r) (2 * f.qmin - r) = FP.Core.unitsOf f x * 2 ^ (-f.qmin).toNat := by
    rw [← x3]
    show c * _ = c * _ * _
    rw [Nat.mul_assoc, ← Nat.pow_add]
    congr 2
    omega
  have e2 : 2 ^ (f.qmin - (2 * f.qmin - r)).toNat * d = FP.Core.unitsOf f y := by
    rw [← y3]
    show _ = d * _
    rw [Nat.mul_comm]
    congr 2
    omega
  refine ⟨r1, fun m hm => ?_, fun m h1 hm => ?_⟩
  · rw [← r2]
    exact FP.Core.mag_le hf hd (by omega) (e0 := 2 * f.qmin - r) (by omega) (by omega) (by rw [e1, Nat.mul_assoc, e2]; exact hm)
  · rw [← r2]
    exact FP.Core.mag_ge hf hd (by omega) (e0 := 2 * f.qmin - r) (by omega) (by omega) h1 (by rw [e1, Nat.mul_assoc, e2]; exact hm)
end FU
