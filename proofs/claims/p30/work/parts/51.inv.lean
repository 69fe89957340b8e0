/-! light by its bits; dimming on a desk; what holds at each step of the law -/
theorem tI (x : UInt32) : x.toInt32 = nI x.toNat := by
  show x.toInt32 = Int32.ofNat x.toNat
  have e : (UInt32.ofNat x.toNat).toInt32 = Int32.ofNat x.toNat := rfl
  rw [← e, UInt32.ofNat_toNat]
theorem ltF_iff {a b : UInt32} (ha : a.toNat ≤ 2139095040) (hb : b.toNat ≤ 2139095040) : ltF a b = true ↔ a.toNat < b.toNat := by
  unfold ltF
  rw [cmp32 ha hb]
  rcases Nat.lt_trichotomy a.toNat b.toNat with c | c | c
  · rw [Nat.compare_eq_lt.mpr c]; exact iff_of_true (by decide) c
  · rw [Nat.compare_eq_eq.mpr c]; exact iff_of_false (by decide) (by omega)
  · rw [Nat.compare_eq_gt.mpr c]; exact iff_of_false (by decide) (by omega)
theorem gtF_iff {a b : UInt32} (ha : a.toNat ≤ 2139095040) (hb : b.toNat ≤ 2139095040) : gtF a b = true ↔ b.toNat < a.toNat := by
  unfold gtF
  rw [cmp32 ha hb]
  rcases Nat.lt_trichotomy a.toNat b.toNat with c | c | c
  · rw [Nat.compare_eq_lt.mpr c]; exact iff_of_false (by decide) (by omega)
  · rw [Nat.compare_eq_eq.mpr c]; exact iff_of_false (by decide) (by omega)
  · rw [Nat.compare_eq_gt.mpr c]; exact iff_of_true (by decide) c
theorem okL_inf {x : UInt32} (h : okL x) : x.toNat ≤ 2139095040 := by unfold okL at h; omega
/-- the least light so far -/
def leN (f : Nat → UInt32) (k : Nat) : Nat := if k = 0 then 1065353216 else (leF f (k - 1)).toNat
theorem leN_0 (f : Nat → UInt32) : leN f 0 = 1065353216 := rfl
theorem leF_0 (f : Nat → UInt32) : leF f 0 = f 0 := rfl
theorem leF_s (f : Nat → UInt32) (n : Nat) : leF f (n + 1) = if ltF (f (n + 1)) (leF f n) then f (n + 1) else leF f n := rfl
theorem leN_s {f : Nat → UInt32} {k : Nat} (h : ∀ k, k < 120 → okL (f k)) (hk : k < 120) : leN f (k + 1) = if (f k).toNat < leN f k then (f k).toNat else leN f k := by
  have e : leN f (k + 1) = (leF f k).toNat := rfl
  rw [e]
  match k with
  | 0 =>
    rw [leF_0, leN_0]
    have := h 0 (by omega)
    unfold okL at this
    split <;> omega
  | k + 1 =>
    have e : leN f (k + 1) = (leF f k).toNat := rfl
    have o1 := okL_inf (okL_leF h k (by omega))
    have o2 := okL_inf (h (k + 1) hk)
    rw [e, leF_s]
    by_cases c : (f (k + 1)).toNat < (leF f k).toNat
    · rw [if_pos ((ltF_iff o2 o1).mpr c), if_pos c]
    · rw [if_neg (fun q => c ((ltF_iff o2 o1).mp q)), if_neg c]
theorem leN_le {f : Nat → UInt32} (h : ∀ k, k < 120 → okL (f k)) : ∀ k, k ≤ 120 → leN f k ≤ 1065353216
  | 0, _ => Nat.le_refl _
  | k + 1, hk => by
    have := leN_le h k (by omega)
    rw [leN_s h (by omega)]
    split <;> omega
/-- a desk's dimming is by hundredths -/
theorem lossV {D : DV} {w : Nat} (hs : StV D) (hw : w < 5) (r : Nat) (hr : r < 2) : ∃ m, 10 ≤ m ∧ m ≤ 100 ∧ nI 100 - D.st r * D.pr w = nI m ∧ (∀ a b, 1 ≤ a → 1 ≤ b → a < 100 → b < 100 → D.st r = nI a → D.pr w = nI b → m ≤ 99) := by
  obtain ⟨⟨a, ha, ea⟩, ⟨b, hb, eb⟩, -, -, hp⟩ := hs
  obtain ⟨q, hq, eq⟩ := hp w hw
  match r, hr with
  | 0, _ =>
    have := Nat.mul_le_mul ha hq
    refine ⟨100 - a * q, by omega, by omega, by rw [ea, eq, pk_mul, pk_sub (by omega)], fun x y hx hy hx2 hy2 e1 e2 => ?_⟩
    rw [ea, nI_eq (by omega) (by omega)] at e1
    rw [eq, nI_eq (by omega) (by omega)] at e2
    have : 1 * 1 ≤ a * q := Nat.mul_le_mul (by omega) (by omega)
    omega
  | 1, _ =>
    have := Nat.mul_le_mul hb hq
    refine ⟨100 - b * q, by omega, by omega, by rw [eb, eq, pk_mul, pk_sub (by omega)], fun x y hx hy hx2 hy2 e1 e2 => ?_⟩
    rw [eb, nI_eq (by omega) (by omega)] at e1
    rw [eq, nI_eq (by omega) (by omega)] at e2
    have : 1 * 1 ≤ b * q := Nat.mul_le_mul (by omega) (by omega)
    omega
/-- both rings lose -/
def FD (D : DV) : Prop := (∃ a, 1 ≤ a ∧ a < 100 ∧ D.st 0 = nI a) ∧ ∃ a, 1 ≤ a ∧ a < 100 ∧ D.st 1 = nI a
def PR (D : DV) : Prop := ∀ i, i < 3 → ∃ a, 1 ≤ a ∧ a ≤ 5 ∧ D.pr i = nI a
theorem dimV_cases {D : DV} {w : Nat} (hs : StV D) (hw : w < 5) (t : Nat) : (∀ x, dimV D x w t = x) ∨ ∃ m, 10 ≤ m ∧ m ≤ 100 ∧ (∀ x, dimV D x w t = dmN m x) ∧ (FD D → PR D → w < 3 → m ≤ 99) := by
  have key : ∀ r, r < 2 → (∀ x, dimV D x w t = dmF (D.st r * D.pr w) x) → ∃ m, 10 ≤ m ∧ m ≤ 100 ∧ (∀ x, dimV D x w t = dmN m x) ∧ (FD D → PR D → w < 3 → m ≤ 99) := fun r hr he => by
    obtain ⟨m, m1, m2, m3, m4⟩ := lossV hs hw r hr
    refine ⟨m, m1, m2, fun x => ?_, fun hF hP h3 => ?_⟩
    · rw [he]
      unfold dmF dmN
      rw [m3]
    · obtain ⟨⟨a, a1, a2, ea⟩, b, b1, b2, eb⟩ := hF
      obtain ⟨c, c1, c2, ec⟩ := hP w h3
      have c100 : c < 100 := by omega
      rcases (show r = 0 ∨ r = 1 by omega) with r0 | r1
      · rw [← r0] at ea
        exact m4 a c a1 c1 a2 c100 ea ec
      · rw [← r1] at eb
        exact m4 b c b1 c1 b2 c100 eb ec
  by_cases c1 : t = 1
  · exact Or.inr (key 0 (by omega) fun x => by unfold dimV; rw [if_pos c1])
  · by_cases c2 : t = 2
    · exact Or.inr (key 1 (by omega) fun x => by unfold dimV; rw [if_neg c1, if_pos c2])
    · exact Or.inl fun x => by unfold dimV; rw [if_neg c1, if_neg c2]
theorem dimV_low {D : DV} {w v t : Nat} {x : UInt32} (hs : StV D) (hw : w < 5) (hx : okL x) (hv : v < 31) (h : lowL v x) : lowL (v + 1) (dimV D x w t) := by
  rcases dimV_cases hs hw t with c | ⟨m, m1, m2, m3, -⟩
  · rw [c]; exact low_up h (by omega)
  · rw [m3]; exact dm_low hx m1 m2 hv h
theorem dimV_mono {D : DV} {w t : Nat} {x y : UInt32} (hs : StV D) (hw : w < 5) (hy : okL y) (h : x.toNat ≤ y.toNat) : (dimV D x w t).toNat ≤ (dimV D y w t).toNat := by
  rcases dimV_cases hs hw t with c | ⟨m, m1, m2, m3, -⟩
  · rw [c, c]; exact h
  · rw [m3, m3]; exact dm_mono hy h m1 m2
theorem dimV_dec {D : DV} {w t : Nat} {x : UInt32} (hs : StV D) (hF : FD D) (hP : PR D) (hw : w < 3) (hx : okL x) : (dimV D x w t).toNat ≤ x.toNat := by
  rcases dimV_cases hs (show w < 5 by omega) t with c | ⟨m, m1, m2, m3, m4⟩
  · rw [c]; exact Nat.le_refl _
  · rw [m3]; exact dm_dec hx m1 (m4 hF hP hw)
/-- what stands on a plate: letters are not promised, writers and promises are of the three -/
def GI (G : GV) : Prop := ∀ k, k < 120 → (G.t k = mI 6 ∨ G.p k = mI 6) ∧ (G.w k = mI 6 ∨ ∃ b, b < 3 ∧ G.w k = nI b) ∧ (G.p k = mI 6 ∨ ∃ b, b < 3 ∧ G.p k = nI b)
def prG (G : GV) (n : Nat) : Nat := cn (fun j => !decide (G.p j = mI 6)) n
def GL (w : Nat) (G : GV) : Prop := ∀ k, k < 120 → lowL w (G.l k)
def Inv (n m : Nat) (D : DV) : Prop := DOK D ∧ (2 ≤ m ∧ m ≤ 4 ∧ D.pl = nI m) ∧ (∃ p, p < m ∧ D.dk = nI p) ∧ D.pp = nI 3 ∧ PR D ∧ (∃ w q, w + q ≤ n ∧ ∀ p, p < m → GI (D.g p) ∧ GL w (D.g p) ∧ prG (D.g p) 120 ≤ q) ∧ (∀ i, i < 3 → ∃ c, c ≤ n ∧ D.wr i = nI c ∧ ofV D i 1 m ≤ c) ∧ ∃ h, h ≤ 48 * n ∧ D.hr = nI h
theorem Inv.on {n m : Nat} {D : DV} (h : Inv n m D) : ∃ p, p < m ∧ OnD D p := by
  obtain ⟨-, ⟨h2, h4, e⟩, ⟨p, hp, ep⟩, -⟩ := h
  exact ⟨p, hp, ep, by omega, by rw [e]; exact (nI_ltI (by omega) (by omega)).mpr hp⟩
theorem Inv.ok {n m : Nat} {D : DV} (h : Inv n m D) {p : Nat} (hp : p < m) : GOK (D.g p) := by
  obtain ⟨h1, ⟨h2, h4, e⟩, -⟩ := h
  exact h1.2.2.2.2 p (by rw [e]; exact (nI_ltI (by omega) (by omega)).mpr hp) (by omega)
theorem prG_s (G : GV) (n : Nat) : prG G (n + 1) = if G.p n = mI 6 then prG G n else prG G n + 1 := by
  unfold prG
  rw [cn_s]
  by_cases c : G.p n = mI 6
  · rw [if_neg (by simp [c]), if_pos c]
  · rw [if_pos (by simp [c]), if_neg c]
theorem prG_0 (G : GV) : prG G 0 = 0 := rfl
theorem aheadV_low {D : DV} {G : GV} {v k : Nat} {x : UInt32} (hs : StV D) (hG : GOK G) (hx : okL x) (h : lowL v x) : ∀ n, n ≤ 120 → v + prG G n ≤ 31 → lowL (v + prG G n) (aheadV D G x k n) := by
  intro n
  induction n with
  | zero =>
    intro _ _
    rw [aheadV_0, prG_0, Nat.add_zero]
    exact h
  | succ n ih =>
    intro hn hb
    rw [prG_s] at hb ⊢
    rw [aheadV_s]
    by_cases c : G.p n = mI 6
    · rw [if_pos c] at hb ⊢
      rw [if_pos c]
      exact ih (by omega) hb
    · rw [if_neg c] at hb ⊢
      rw [if_neg c]
      obtain ⟨-, -, c2 | ⟨b, hb2, eb⟩⟩ := hG n (by omega)
      · exact absurd c2 c
      · rw [eb, nI_cl (by omega), ← Nat.add_assoc]
        exact dimV_low hs hb2 (okL_aheadV hs hG hx n (by omega)) (by omega) (ih (by omega) (by omega))
/-- light is above 0 and at most 1, also what is told ahead -/
theorem Inv.light {n m : Nat} {D : DV} (h : Inv n m D) (hn : n ≤ 31) {p k : Nat} (hp : p < m) (hk : k < 120) : (8388608 ≤ ((D.g p).l k).toNat ∧ okL ((D.g p).l k)) ∧ 8388608 ≤ (ahV D (D.g p) k).toNat ∧ okL (ahV D (D.g p) k) := by
  have hG := h.ok hp
  obtain ⟨hD, -, -, -, -, ⟨w, q, hwq, h6⟩, -⟩ := h
  obtain ⟨g1, g2, g3⟩ := h6 p hp
  have o := (hG k hk).1
  have a := aheadV_low hD.1 hG o (g2 k hk) (k := k) 120 (Nat.le_refl _) (by omega)
  exact ⟨⟨low_pos (by omega) (g2 k hk), o⟩, low_pos (by omega) a, okL_aheadV hD.1 hG o 120 (Nat.le_refl _)⟩
theorem bestV_0 (D : DV) (G : GV) : bestV D G 0 = (mI 6, FP.fconst0) := rfl
theorem bestV_ok {D : DV} {G : GV} (h : ∀ k, k < 120 → okL (ahV D G k)) : ∀ n, n ≤ 120 → okL (bestV D G n).2
  | 0, _ => by rw [bestV_0]; exact Nat.zero_le _
  | n + 1, hn => by
    have ih := bestV_ok h n (by omega)
    rw [bestV_s]
    split
    · exact h n (by omega)
    · exact ih
set_option maxRecDepth 100000 in
theorem bitZ : ∀ b0 b1 b2 b3 b4 b5 b6 b7 b8 b9 b10 b11 : Bool, ∀ c, c < 12 → (setB (fun c => match c with | 0 => b0 | 1 => b1 | 2 => b2 | 3 => b3 | 4 => b4 | 5 => b5 | 6 => b6 | 7 => b7 | 8 => b8 | 9 => b9 | 10 => b10 | _ => b11) 12 >>> (nI c &&& 31) &&& nI 1) = if (match c with | 0 => b0 | 1 => b1 | 2 => b2 | 3 => b3 | 4 => b4 | 5 => b5 | 6 => b6 | 7 => b7 | 8 => b8 | 9 => b9 | 10 => b10 | _ => b11) = true then nI 1 else nI 0 := by decide +kernel
theorem bitI (p : Nat → Bool) {c : Nat} (hc : c < 12) : (setB p 12 >>> (nI c &&& 31) &&& nI 1) = bI (p c = true) := by
  have e : ∀ j, j < 12 → p j = (match j with | 0 => p 0 | 1 => p 1 | 2 => p 2 | 3 => p 3 | 4 => p 4 | 5 => p 5 | 6 => p 6 | 7 => p 7 | 8 => p 8 | 9 => p 9 | 10 => p 10 | _ => p 11) := fun j hj => by
    match j, hj with
    | 0, _ => rfl
    | 1, _ => rfl
    | 2, _ => rfl
    | 3, _ => rfl
    | 4, _ => rfl
    | 5, _ => rfl
    | 6, _ => rfl
    | 7, _ => rfl
    | 8, _ => rfl
    | 9, _ => rfl
    | 10, _ => rfl
    | 11, _ => rfl
  have e2 : setB p 12 = setB (fun c => match c with | 0 => p 0 | 1 => p 1 | 2 => p 2 | 3 => p 3 | 4 => p 4 | 5 => p 5 | 6 => p 6 | 7 => p 7 | 8 => p 8 | 9 => p 9 | 10 => p 10 | _ => p 11) 12 := fo_congr (fun j hj x => by rw [e j hj])
  have h := bitZ (p 0) (p 1) (p 2) (p 3) (p 4) (p 5) (p 6) (p 7) (p 8) (p 9) (p 10) (p 11) c hc
  rw [← e2, ← e c hc] at h
  exact h
