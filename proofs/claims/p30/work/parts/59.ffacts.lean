/-! filling a plate letter by letter -/
theorem best_ro (D : DV) (G : GV) : ∀ n, (bestV D G n).1 = mI 6 ∨ ∃ k, k < n ∧ (bestV D G n).1 = nI k ∧ roV D G k = true
  | 0 => Or.inl rfl
  | n + 1 => by
    rw [bestV_s]
    by_cases c : roV D G n = true ∧ gtF (ahV D G n) (bestV D G n).2 = true
    · rw [if_pos c]
      exact Or.inr ⟨n, by omega, rfl, c.1⟩
    · rw [if_neg c]
      rcases best_ro D G n with h | ⟨k, k1, k2, k3⟩
      · exact Or.inl h
      · exact Or.inr ⟨k, by omega, k2, k3⟩
theorem enV_up {D : DV} (hs : StV D) {x y : UInt32} (hy : okL y) (h : x.toNat ≤ y.toNat) (e : enV D x = true) : enV D y = true := by
  obtain ⟨-, -, ⟨r, ⟨r1, r2⟩, er⟩, -⟩ := hs
  have hx : okL x := by unfold okL at hy ⊢; omega
  unfold enV at e ⊢
  rw [er] at e ⊢
  exact (enF_iff r1 r2 hy).mpr (Nat.le_trans ((enF_iff r1 r2 hx).mp e) h)
theorem ahead_mono {D : DV} {G : GV} (hs : StV D) (hG : GOK G) {x y : UInt32} {k : Nat} (hy : okL y) (h : x.toNat ≤ y.toNat) : ∀ n, n ≤ 120 → (aheadV D G x k n).toNat ≤ (aheadV D G y k n).toNat := by
  intro n
  induction n with
  | zero => intro _; rw [aheadV_0, aheadV_0]; exact h
  | succ n ih =>
    intro hn
    rw [aheadV_s, aheadV_s]
    by_cases c : G.p n = mI 6
    · rw [if_pos c, if_pos c]; exact ih (by omega)
    · rw [if_neg c, if_neg c]
      obtain ⟨-, -, c2 | ⟨b, hb, eb⟩⟩ := hG n (by omega)
      · exact absurd c2 c
      · rw [eb, nI_cl (by omega)]
        exact dimV_mono hs hb (okL_aheadV hs hG hy n (by omega)) (ih (by omega))
theorem ahead_dec {D : DV} {G : GV} (hs : StV D) (hF : FD D) (hP : PR D) (hG : GOK G) (hI : GI G) {x : UInt32} {k : Nat} (hx : okL x) : ∀ n, n ≤ 120 → (aheadV D G x k n).toNat ≤ x.toNat := by
  intro n
  induction n with
  | zero => intro _; rw [aheadV_0]; exact Nat.le_refl _
  | succ n ih =>
    intro hn
    rw [aheadV_s]
    by_cases c : G.p n = mI 6
    · rw [if_pos c]; exact ih (by omega)
    · rw [if_neg c]
      obtain ⟨-, -, c2 | ⟨b, hb, eb⟩⟩ := hI n (by omega)
      · exact absurd c2 c
      · rw [eb, nI_cl (by omega)]
        exact Nat.le_trans (dimV_dec hs hF hP hb (okL_aheadV hs hG hx n (by omega))) (ih (by omega))
theorem ro_t {D : DV} {G : GV} {k : Nat} (h : roV D G k = true) : G.t k = mI 6 ∧ G.p k = mI 6 ∧ enV D (ahV D G k) = true := by
  have := roV_fr.mp h
  exact ⟨this.1.1, this.1.2, this.2⟩
/-- where there is room, a letter may be written -/
theorem ro_en {D : DV} {G : GV} (hs : StV D) (hF : FD D) (hP : PR D) (hG : GOK G) (hI : GI G) {k : Nat} (hk : k < 120) (h : roV D G k = true) : enV D (G.l k) = true := by
  obtain ⟨-, -, h3⟩ := ro_t h
  exact enV_up hs (hG k hk).1 (ahead_dec hs hF hP hG hI (hG k hk).1 120 (Nat.le_refl _)) h3
/-- a letter leaves no more room -/
theorem mark_ro_le {D : DV} {G : GV} (hs : StV D) (hF : FD D) (hP : PR D) (hG : GOK G) {w k j : Nat} (hw : w < 3) (hr : roV D G k = true) (hj : j < 120) (h : roV D (markV D G w k (nI 0)) j = true) : roV D G j = true ∧ ¬ j = k := by
  obtain ⟨h1, h2, h3⟩ := ro_t h
  obtain ⟨r1, r2, r3⟩ := ro_t hr
  have jk : ¬ j = k := fun e => by
    subst e
    have e : (markV D G w j (nI 0)).t j = nI 0 := up_at _ _ _
    rw [e] at h1
    exact nI_ne_mI (by omega) (by omega) (by omega) h1
  refine ⟨roV_fr.mpr ⟨⟨?_, ?_⟩, ?_⟩, jk⟩
  · have e : (markV D G w k (nI 0)).t j = G.t j := up_no _ jk _
    rw [← e]; exact h1
  · have e : (markV D G w k (nI 0)).p j = G.p j := up_no _ jk _
    rw [← e]; exact h2
  · have ep : (markV D G w k (nI 0)).p = G.p := by
      funext i
      show upV G.p k (mI 6) i = G.p i
      by_cases c : i = k
      · rw [c, up_at, r2]
      · rw [up_no _ c]
    have el : (markV D G w k (nI 0)).l j = dimV D (G.l j) w (dist k j) := rfl
    have ea : ahV D (markV D G w k (nI 0)) j = aheadV D G (dimV D (G.l j) w (dist k j)) j 120 := by
      unfold ahV
      rw [el, aheadV_p ep]
    rw [ea] at h3
    exact enV_up hs (okL_aheadV hs hG (hG j hj).1 120 (Nat.le_refl _)) (ahead_mono hs hG (hG j hj).1 (dimV_dec hs hF hP hw (hG j hj).1) 120 (Nat.le_refl _)) h3
def roN (D : DV) (G : GV) : Nat := cn (fun j => isV D G j 3) 120
theorem mark_rooms {D : DV} {G : GV} (hs : StV D) (hF : FD D) (hP : PR D) (hG : GOK G) {w k : Nat} (hw : w < 3) (hk : k < 120) (hr : roV D G k = true) : roN D (markV D G w k (nI 0)) + 1 ≤ roN D G := by
  unfold roN
  have := cn_sub1 (p := fun j => isV D (markV D G w k (nI 0)) j 3) (q := fun j => isV D G j 3) (r := fun _ => false) hk (by
    refine bool_ft fun c => ?_
    rw [isV_3] at c
    exact (mark_ro_le hs hF hP hG hw hr hk c).2 rfl) (by rw [isV_3]; exact hr) (fun j hj c => Or.inl (by
    rw [isV_3] at c ⊢
    exact (mark_ro_le hs hF hP hG hw hr hj c).1))
  have e : cn (fun _ => false) 120 = 0 := by
    have := cn_skip (p := fun _ => false) (m := 0) (n := 120) (Nat.zero_le _) (fun _ _ _ => rfl)
    rw [this]; rfl
  omega
def frN (G : GV) : Nat := cn (fun j => decide (G.t j = mI 6) && decide (G.p j = mI 6)) 120
theorem mark_free {D : DV} {G : GV} {w k : Nat} (hk : k < 120) (hr : roV D G k = true) : frN G = frN (markV D G w k (nI 0)) + 1 := by
  obtain ⟨r1, r2, r3⟩ := ro_t hr
  unfold frN
  refine cn_one (k := k) (by simp [r1, r2]) ?_ (fun j hj => ?_) hk
  · have e : (markV D G w k (nI 0)).t k = nI 0 := up_at _ _ _
    have n : ¬ nI 0 = mI 6 := nI_ne_mI (by omega) (by omega) (by omega)
    simp [e, n]
  · have e : (markV D G w k (nI 0)).t j = G.t j := up_no _ hj _
    have e2 : (markV D G w k (nI 0)).p j = G.p j := up_no _ hj _
    rw [e, e2]
/-- step by step -/
theorem fiV_step {D : DV} {w n : Nat} {G : GV} : fiV D w G (n + 1) = fiV D w G n ∧ (bestV D (fiV D w G n).1 120).1 = mI 6 ∨ ∃ k, k < 120 ∧ roV D (fiV D w G n).1 k = true ∧ fiV D w G (n + 1) = (markV D (fiV D w G n).1 w k (nI 0), (fiV D w G n).2 + 1) := by
  rw [fiV_s]
  rcases best_ro D (fiV D w G n).1 120 with c | ⟨k, k1, k2, k3⟩
  · rw [if_pos c]
    exact Or.inl ⟨rfl, c⟩
  · have n6 : ¬ nI k = mI 6 := nI_ne_mI (by omega) (by omega) (by omega)
    rw [k2, if_neg n6, nI_cl (by omega)]
    exact Or.inr ⟨k, k1, k3, rfl⟩
theorem fiV_all {D : DV} {w : Nat} {G : GV} (hs : StV D) (hF : FD D) (hP : PR D) (hG : GOK G) (hw : w < 3) : ∀ n, GOK (fiV D w G n).1 ∧ (fiV D w G n).2 + roN D (fiV D w G n).1 ≤ roN D G
  | 0 => by
    rw [fiV_0]
    exact ⟨hG, Nat.le_of_eq (Nat.zero_add _)⟩
  | n + 1 => by
    obtain ⟨i1, i2⟩ := fiV_all hs hF hP hG hw n
    rcases fiV_step (D := D) (w := w) (n := n) (G := G) with ⟨e, -⟩ | ⟨k, k1, k2, e⟩
    · rw [e]; exact ⟨i1, i2⟩
    · rw [e]
      have := mark_rooms hs hF hP i1 hw k1 k2
      refine ⟨GOK_mark hs i1 (by omega) (by omega), ?_⟩
      show (fiV D w G n).2 + 1 + roN D (markV D (fiV D w G n).1 w k (nI 0)) ≤ roN D G
      omega
/-- no more letters than places with room -/
theorem fi_rooms {D : DV} {w : Nat} {G : GV} (hs : StV D) (hF : FD D) (hP : PR D) (hG : GOK G) (hw : w < 3) : (fiV D w G 120).2 ≤ cn (fun j => isV D G j 3) 120 := by
  have := (fiV_all hs hF hP hG hw 120).2
  unfold roN at this
  omega
theorem fiV_free {D : DV} {w : Nat} {G : GV} : ∀ n, frN G = (fiV D w G n).2 + frN (fiV D w G n).1 ∧ ((bestV D (fiV D w G n).1 120).1 = mI 6 ∨ (fiV D w G n).2 = n)
  | 0 => by
    rw [fiV_0]
    exact ⟨(Nat.zero_add _).symm, Or.inr rfl⟩
  | n + 1 => by
    obtain ⟨i1, i2⟩ := fiV_free (D := D) (w := w) (G := G) n
    rcases fiV_step (D := D) (w := w) (n := n) (G := G) with ⟨e, e2⟩ | ⟨k, k1, k2, e⟩
    · rw [e]; exact ⟨i1, Or.inl e2⟩
    · rw [e]
      have h := mark_free (w := w) k1 k2
      refine ⟨?_, Or.inr ?_⟩
      · show frN G = (fiV D w G n).2 + 1 + frN (markV D (fiV D w G n).1 w k (nI 0))
        omega
      · show (fiV D w G n).2 + 1 = n + 1
        rcases i2 with c | c
        · rcases best_ro D (fiV D w G n).1 120 with _ | _
          · exfalso
            have := fiV_s D w G n
            rw [if_pos c, e] at this
            have h2 := congrArg Prod.snd this
            have h3 : (fiV D w G n).2 + 1 = (fiV D w G n).2 := h2
            omega
          · exfalso
            have := fiV_s D w G n
            rw [if_pos c, e] at this
            have h2 := congrArg Prod.snd this
            have h3 : (fiV D w G n).2 + 1 = (fiV D w G n).2 := h2
            omega
        · omega
/-- when no place is free, nothing is best -/
theorem no_free {D : DV} {G : GV} (h : frN G = 0) : (bestV D G 120).1 = mI 6 := by
  rcases best_ro D G 120 with c | ⟨k, k1, k2, k3⟩
  · exact c
  · obtain ⟨r1, r2, -⟩ := ro_t k3
    have := cn_zero h k1
    simp [r1, r2] at this
/-- the first step ahead of all others -/
theorem fiV_first {D : DV} {w k : Nat} {G : GV} (hk : k < 120) (e : (bestV D G 120).1 = nI k) : ∀ n, fiV D w G (n + 1) = ((fiV D w (markV D G w k (nI 0)) n).1, (fiV D w (markV D G w k (nI 0)) n).2 + 1) := by
  have n6 : ¬ nI k = mI 6 := nI_ne_mI (by omega) (by omega) (by omega)
  intro n
  induction n with
  | zero =>
    rw [fiV_s, fiV_0, fiV_0]
    show (if (bestV D G 120).1 = mI 6 then (G, 0) else (markV D G w (bestV D G 120).1.toNatClampNeg (nI 0), 0 + 1)) = _
    rw [e, if_neg n6, nI_cl (by omega)]
  | succ n ih =>
    rw [fiV_s, ih, fiV_s]
    by_cases c : (bestV D (fiV D w (markV D G w k (nI 0)) n).1 120).1 = mI 6
    · rw [if_pos c, if_pos c]
    · rw [if_neg c, if_neg c]
/-- a letter at the best place: one less is left -/
theorem fi_less {D : DV} {w k : Nat} {G : GV} (hk : k < 120) (e : (bestV D G 120).1 = nI k) (hr : roV D G k = true) : (fiV D w G 120).2 = (fiV D w (markV D G w k (nI 0)) 120).2 + 1 := by
  rw [show 120 = 119 + 1 from rfl, fiV_first hk e 119]
  show (fiV D w (markV D G w k (nI 0)) 119).2 + 1 = (fiV D w (markV D G w k (nI 0)) 120).2 + 1
  have stop : (bestV D (fiV D w (markV D G w k (nI 0)) 119).1 120).1 = mI 6 := by
    obtain ⟨i1, i2⟩ := fiV_free (D := D) (w := w) (G := markV D G w k (nI 0)) 119
    rcases i2 with c | c
    · exact c
    · have h := mark_free (D := D) (G := G) (w := w) hk hr
      have b : frN G ≤ 120 := cn_le _ _
      exact no_free (by omega)
  rw [fiV_stop stop 120 (by omega)]
/-- none at all just where nothing is best -/
theorem fi_none {D : DV} {w : Nat} {G : GV} : (fiV D w G 120).2 = 0 ↔ (bestV D G 120).1 = mI 6 := by
  constructor
  · intro h
    rcases best_ro D G 120 with c | ⟨k, k1, k2, k3⟩
    · exact c
    · have := fi_less (w := w) k1 k2 k3
      omega
  · intro h
    have := fiV_stop (D := D) (w := w) (G := G) (m := 0) (by rw [fiV_0]; exact h) 120 (by omega)
    rw [this, fiV_0]
