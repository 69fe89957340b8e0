-- needs: 18.nums 19.proj 20.spec 21.shape 22.leaf 23.fl 23.view 24.loops 26.near 27.quest 28.hours
/-! the same desks and plates answer the same -/
def DS (A B : DV) : Prop := (∀ i, i < 4 → A.st i = B.st i) ∧ ∀ i, i < 5 → A.pr i = B.pr i
theorem DS.refl (A : DV) : DS A A := ⟨fun _ _ => rfl, fun _ _ => rfl⟩
theorem DS.symm {A B : DV} (h : DS A B) : DS B A := ⟨fun i hi => (h.1 i hi).symm, fun i hi => (h.2 i hi).symm⟩
theorem DS.trans {A B C : DV} (h : DS A B) (k : DS B C) : DS A C := ⟨fun i hi => (h.1 i hi).trans (k.1 i hi), fun i hi => (h.2 i hi).trans (k.2 i hi)⟩
theorem DE.ds {A B : DV} (h : DE A B) : DS A B := ⟨h.1, fun i hi => (h.2.1 i hi).1⟩
theorem StV.ds {A B : DV} (h : DS A B) (k : StV A) : StV B := by
  obtain ⟨h1, h2⟩ := h
  obtain ⟨k1, k2, k3, k4, k5⟩ := k
  rw [h1 0 (by omega)] at k1
  rw [h1 1 (by omega)] at k2
  rw [h1 2 (by omega)] at k3
  rw [h1 3 (by omega)] at k4
  exact ⟨k1, k2, k3, k4, fun i hi => by rw [← h2 i hi]; exact k5 i hi⟩
theorem Fr.ds {S T : SS} {lo hi d : Nat} (h : Fr S T lo hi) (k : d + 3 ≤ lo ∨ hi ≤ d) : DS (dV T d) (dV S d) := by
  refine ⟨fun i _ => ?_, fun i _ => ?_⟩
  · show sI T (d + 1) i = sI S (d + 1) i
    rw [h.i (by omega)]
  · show sI T (d + 2) i = sI S (d + 2) i
    rw [h.i (by omega)]
theorem Fr.dsG {S T : SS} {g d i : Nat} (h : Fr S T (d + 6 + 5 * i) (d + 6 + 5 * i + 5)) : DS (dV T d) (dV S d) := h.ds (by omega)
theorem dimV_ds {A B : DV} (h : DS A B) {w : Nat} (hw : w < 5) (x : UInt32) (t : Nat) : dimV A x w t = dimV B x w t := by
  unfold dimV
  rw [h.1 0 (by omega), h.1 1 (by omega), h.2 w hw]
theorem enV_ds {A B : DV} (h : DS A B) (x : UInt32) : enV A x = enV B x := by
  unfold enV
  rw [h.1 2 (by omega)]
theorem clV_ds {A B : DV} (h : DS A B) (x : UInt32) : clV A x = clV B x := by
  unfold clV
  rw [h.1 3 (by omega)]
theorem itV_ds {A B : DV} (h : DS A B) (x : UInt32) (n : Nat) : itV A x n = itV B x n := fo_congr (fun _ _ x => clV_ds h x)
theorem aheadV_0 (D : DV) (G : GV) (x : UInt32) (k : Nat) : aheadV D G x k 0 = x := rfl
theorem leftV_0 (D : DV) (G : GV) (w k : Nat) : leftV D G w k 0 = FP.fconst1 := rfl
theorem mostV_0 (D : DV) (G : GV) : mostV D G 0 = 0 := rfl
theorem aheadV_ds {A B : DV} {G H : GV} (h : DS A B) (k : GE G H) (hG : GOK G) (x : UInt32) (j : Nat) : ∀ n, n ≤ 120 → aheadV A G x j n = aheadV B H x j n := by
  intro n
  induction n with
  | zero => intro _; rw [aheadV_0, aheadV_0]
  | succ n ih =>
    intro hn
    rw [aheadV_s, aheadV_s, ih (by omega), (k n (by omega)).2.2.2]
    obtain ⟨-, -, c | ⟨b, hb, eb⟩⟩ := hG n (by omega)
    · rw [← (k n (by omega)).2.2.2, if_pos c, if_pos c]
    · rw [← (k n (by omega)).2.2.2, eb, nI_cl (by omega), dimV_ds h hb]
theorem rdV_ds {A B : DV} {G H : GV} (h : DS A B) (k : GE G H) {j : Nat} (hj : j < 120) : rdV A G j = rdV B H j := by
  unfold rdV
  rw [(k j hj).1, (k j hj).2.1, enV_ds h]
theorem roV_ds {A B : DV} {G H : GV} (h : DS A B) (k : GE G H) (hG : GOK G) {j : Nat} (hj : j < 120) : roV A G j = roV B H j := by
  unfold roV
  rw [(k j hj).1, (k j hj).2.1, (k j hj).2.2.2, enV_ds h, aheadV_ds h k hG _ _ 120 (Nat.le_refl _)]
theorem isV_ds {A B : DV} {G H : GV} (h : DS A B) (k : GE G H) (hG : GOK G) {j : Nat} (hj : j < 120) (q : Nat) : isV A G j q = isV B H j q := by
  unfold isV
  rw [(k j hj).2.1, (k j hj).2.2.2, rdV_ds h k hj, roV_ds h k hG hj]
theorem leftV_ds {A B : DV} {G H : GV} (h : DS A B) (k : GE G H) {w : Nat} (hw : w < 5) (j : Nat) : ∀ n, n ≤ 120 → leftV A G w j n = leftV B H w j n := by
  intro n
  induction n with
  | zero => intro _; rw [leftV_0, leftV_0]
  | succ n ih =>
    intro hn
    have ih := ih (by omega)
    unfold leftV at ih ⊢
    rw [fo_s, fo_s, ih, (k n (by omega)).2.1, (k n (by omega)).2.2.1, dimV_ds h hw]
theorem lostV_ds {A B : DV} {G H : GV} (h : DS A B) (k : GE G H) {w : Nat} (hw : w < 5) (j : Nat) {n : Nat} (hn : n ≤ 120) : lostV A G w j n = lostV B H w j n :=
  cn_congr (fun i hi => by rw [rdV_ds h k (show i < 120 by omega), enV_ds h, dimV_ds h hw, (k i (by omega)).1])
theorem markV_ds {A B : DV} {G H : GV} (h : DS A B) (k : GE G H) {w : Nat} (hw : w < 5) (j : Nat) (a : Int32) : GE (markV A G w j a) (markV B H w j a) := by
  intro i hi
  obtain ⟨k1, k2, k3, k4⟩ := k i hi
  refine ⟨?_, ?_, ?_, ?_⟩
  · show dimV A (G.l i) w (dist j i) = dimV B (H.l i) w (dist j i)
    rw [k1, dimV_ds h hw]
  · show upV G.t j a i = upV H.t j a i
    unfold upV
    rw [k2]
  · show upV G.w j (nI w) i = upV H.w j (nI w) i
    unfold upV
    rw [k3]
  · show upV G.p j (mI 6) i = upV H.p j (mI 6) i
    unfold upV
    rw [k4]
theorem GOK_mark {D : DV} {G : GV} (hs : StV D) (hG : GOK G) {w j a : Nat} (hw : w < 5) (ha : a < 26) : GOK (markV D G w j (nI a)) := by
  intro i hi
  obtain ⟨h1, h2, h3⟩ := hG i hi
  refine ⟨okL_dimV hs h1 hw, ?_, ?_⟩
  · show (upV G.t j (nI a) i = mI 6 ∧ upV G.w j (nI w) i = mI 6) ∨ ∃ a' b, a' < 26 ∧ b < 5 ∧ upV G.t j (nI a) i = nI a' ∧ upV G.w j (nI w) i = nI b
    unfold upV
    by_cases c : i = j
    · rw [if_pos c, if_pos c]
      exact Or.inr ⟨a, w, ha, hw, rfl, rfl⟩
    · rw [if_neg c, if_neg c]
      exact h2
  · show upV G.p j (mI 6) i = mI 6 ∨ ∃ b, b < 5 ∧ upV G.p j (mI 6) i = nI b
    unfold upV
    by_cases c : i = j
    · rw [if_pos c]
      exact Or.inl rfl
    · rw [if_neg c]
      exact h3
theorem hrN_ds {A B : DV} (h : DS A B) (x : UInt32) (n : Nat) : hrN A x n = hrN B x n := fo_congr (fun j _ _ => by rw [itV_ds h, enV_ds h])
theorem mostV_ds {A B : DV} {G H : GV} (h : DS A B) (k : GE G H) : ∀ n, n ≤ 120 → mostV A G n = mostV B H n := by
  intro n
  induction n with
  | zero => intro _; rw [mostV_0, mostV_0]
  | succ n ih =>
    intro hn
    rw [mostV_s, mostV_s, ih (by omega), (k n (by omega)).1, (k n (by omega)).2.1, hrN_ds h]
