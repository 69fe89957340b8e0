/-! what a letter would do is what it does -/
theorem dist_self (k : Nat) : dist k k = 0 := by
  unfold dist adiff
  simp
theorem aheadV_p {D : DV} {A B : GV} (h : A.p = B.p) (x : UInt32) (k n : Nat) : aheadV D A x k n = aheadV D B x k n := by
  unfold aheadV
  rw [h]
theorem lost_le (D : DV) (G : GV) (w k : Nat) : lostV D G w k 120 ≤ cn (fun j => isV D G j 1) 120 := by
  unfold lostV
  refine cn_mono fun j _ c => ?_
  rw [isV_1]
  simp only [Bool.and_eq_true] at c
  exact c.1
theorem dark_le (D : DV) (G : GV) (w k : Nat) : darkV D G w k 120 ≤ cn (fun j => isV D G j 2) 120 := by
  unfold darkV
  refine cn_mono fun j _ c => ?_
  rw [isV_2]
  simp only [Bool.and_eq_true] at c
  exact c.1.1.2
theorem mark_ro (D : DV) (G : GV) (w k : Nat) {a b : Nat} (ha : a < 26) (hb : b < 26) (j : Nat) : roV D (markV D G w k (nI a)) j = roV D (markV D G w k (nI b)) j := by
  unfold roV
  have e1 : decide ((markV D G w k (nI a)).t j = mI 6) = decide ((markV D G w k (nI b)).t j = mI 6) := by
    show decide (upV G.t k (nI a) j = mI 6) = decide (upV G.t k (nI b) j = mI 6)
    unfold upV
    by_cases c : j = k
    · rw [if_pos c, if_pos c, decide_eq_false (nI_ne_mI (by omega) (by omega) (by omega)), decide_eq_false (nI_ne_mI (by omega) (by omega) (by omega))]
    · rw [if_neg c, if_neg c]
  have e2 := aheadV_p (D := D) (A := markV D G w k (nI a)) (B := markV D G w k (nI b)) rfl ((markV D G w k (nI a)).l j) j 120
  rw [e1, e2]
  rfl
theorem mark_l (D : DV) (G : GV) (w k : Nat) (a : Int32) : (markV D G w k a).l k = G.l k := by
  show dimV D (G.l k) w (dist k k) = G.l k
  exact dimV_far (Or.inl (dist_self k))
theorem up_at {α : Type} (f : Nat → α) (k : Nat) (v : α) : upV f k v k = v := if_pos rfl
theorem up_no {α : Type} (f : Nat → α) {k j : Nat} (h : ¬ j = k) (v : α) : upV f k v j = f j := if_neg h
theorem mark_rd {D : DV} {G : GV} {w k a : Nat} (ha : a < 26) (h : wrOK D G w k = true) : rdV D (markV D G w k (nI a)) k = true := by
  unfold rdV
  rw [mark_l]
  have e : (markV D G w k (nI a)).t k = nI a := up_at _ _ _
  rw [e]
  unfold wrOK at h
  simp only [Bool.and_eq_true] at h
  have n : ¬ nI a = mI 6 := nI_ne_mI (by omega) (by omega) (by omega)
  simp [n, h.2]
theorem mark_read {D : DV} {G : GV} {w k a : Nat} (hk : k < 120) (ha : a < 26) (h : wrOK D G w k = true) : cn (fun j => isV D G j 1) 120 + 1 ≤ cn (fun j => isV D (markV D G w k (nI a)) j 1) 120 + lostV D G w k 120 := by
  unfold lostV
  have ht : G.t k = mI 6 := by
    unfold wrOK at h
    simp only [Bool.and_eq_true, decide_eq_true_eq] at h
    exact h.1.1
  refine cn_sub1 hk ?_ ?_ fun j hj c => ?_
  · rw [isV_1]; unfold rdV; simp [ht]
  · rw [isV_1]; exact mark_rd ha h
  · rw [isV_1] at c ⊢
    by_cases e : j = k
    · rw [e]; exact Or.inl (mark_rd ha h)
    · have et : (markV D G w k (nI a)).t j = G.t j := up_no _ e _
      have el : (markV D G w k (nI a)).l j = dimV D (G.l j) w (dist k j) := rfl
      by_cases c2 : enV D (dimV D (G.l j) w (dist k j)) = true
      · left
        unfold rdV at c ⊢
        rw [et, el, c2]
        simp only [Bool.and_eq_true] at c
        rw [c.1]
        rfl
      · right
        rw [c, bool_ft c2]
        rfl
theorem mark_pr {D : DV} {G : GV} {w k : Nat} (a : Int32) (hk : k < 120) : cn (fun j => isV D (markV D G w k a) j 2) 120 = if G.p k = mI 6 then cn (fun j => isV D G j 2) 120 else cn (fun j => isV D G j 2) 120 - 1 := by
  have ek : isV D (markV D G w k a) k 2 = false := by
    rw [isV_2]
    have e : (markV D G w k a).p k = mI 6 := up_at _ _ _
    rw [e]
    simp
  have ej : ∀ j, ¬ j = k → isV D (markV D G w k a) j 2 = isV D G j 2 := fun j hj => by
    rw [isV_2, isV_2]
    have e : (markV D G w k a).p j = G.p j := up_no _ hj _
    rw [e]
  by_cases c : G.p k = mI 6
  · rw [if_pos c]
    refine cn_same (k := k) ?_ ej
    show isV D (markV D G w k a) k 2 = isV D G k 2
    rw [ek, isV_2, c]
    simp
  · rw [if_neg c]
    have := cn_one (p := fun j => isV D G j 2) (q := fun j => isV D (markV D G w k a) j 2) (k := k) (by rw [isV_2]; simp [c]) ek (fun j hj => (ej j hj).symm) hk
    omega
theorem iw_0 (D : DV) (G : GV) (w k : Nat) : iwV D G w k (nI 0) = nI (lostV D G w k 120) := by unfold iwV; rw [if_pos rfl]
theorem iw_1 (D : DV) (G : GV) (w k : Nat) : iwV D G w k (nI 1) = nI (darkV D G w k 120) := by unfold iwV; rw [if_neg (by decide), if_pos rfl]
theorem iw_2 (D : DV) (G : GV) (w k : Nat) : iwV D G w k (nI 2) = nI (cn (fun j => roV D (markV D G w k (nI 0)) j) 120) := by unfold iwV; rw [if_neg (by decide), if_neg (by decide), if_pos rfl]
/-- a letter that is refused, if nothing else hinders it, for want of light -/
theorem wr_no {D : DV} {G : GV} (hs : StV D) {w k : Nat} (ho : okL (G.l k)) (h : ¬ wrOK D G w k = true) (ht : G.t k = mI 6) (hp : G.p k = mI 6 ∨ G.p k = nI w) : (G.l k).toNat < 1065353216 := by
  have e : enV D (G.l k) = false := by
    refine bool_ft fun c => h ?_
    unfold wrOK
    rw [c, ht]
    rcases hp with hp | hp
    · simp [hp]
    · simp [hp]
  obtain ⟨-, -, ⟨r, ⟨r1, r2⟩, er⟩, -⟩ := hs
  unfold enV at e
  rw [er] at e
  have i := enF_iff r1 r2 ho
  rw [e] at i
  have b := (fl_rdbits r (by omega) r1).2
  have : ¬ (FP.fdiv (FP.i2f (nI r)) f100).toNat ≤ (G.l k).toNat := fun q => absurd (i.mpr q) (by decide)
  omega
theorem wri_ds (D : DV) (p w k : Nat) (a : Int32) : DS (wriV D p w k a) D := ⟨fun _ _ => rfl, fun _ _ => rfl⟩
theorem isC_D {A B : DV} (h : DS A B) {G : GV} (hG : GOK G) (q : Nat) : cn (fun j => isV A G j q) 120 = cn (fun j => isV B G j q) 120 := isC_ds h (GE.refl G) hG q
