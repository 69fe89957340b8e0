/-! what stands on a plate and on a desk -/
abbrev GV : Type := (Nat → UInt32) × (Nat → Int32) × (Nat → Int32) × (Nat → Int32)
abbrev GV.l (G : GV) : Nat → UInt32 := G.1
abbrev GV.t (G : GV) : Nat → Int32 := G.2.1
abbrev GV.w (G : GV) : Nat → Int32 := G.2.2.1
abbrev GV.p (G : GV) : Nat → Int32 := G.2.2.2
def sf_l (G : GV) (v : Nat → UInt32) : GV := (v, G.t, G.w, G.p)
def sf_t (G : GV) (v : Nat → Int32) : GV := (G.l, v, G.w, G.p)
def sf_w (G : GV) (v : Nat → Int32) : GV := (G.l, G.t, v, G.p)
def sf_p (G : GV) (v : Nat → Int32) : GV := (G.l, G.t, G.w, v)
abbrev DV : Type := (Nat → Int32) × (Nat → Int32) × (Nat → Int32) × (Nat → Int32) × Int32 × Int32 × Int32 × Int32 × (Nat → GV)
abbrev DV.st (D : DV) : Nat → Int32 := D.1
abbrev DV.pr (D : DV) : Nat → Int32 := D.2.1
abbrev DV.wr (D : DV) : Nat → Int32 := D.2.2.1
abbrev DV.sp (D : DV) : Nat → Int32 := D.2.2.2.1
abbrev DV.hr (D : DV) : Int32 := D.2.2.2.2.1
abbrev DV.pl (D : DV) : Int32 := D.2.2.2.2.2.1
abbrev DV.dk (D : DV) : Int32 := D.2.2.2.2.2.2.1
abbrev DV.pp (D : DV) : Int32 := D.2.2.2.2.2.2.2.1
abbrev DV.g (D : DV) : Nat → GV := D.2.2.2.2.2.2.2.2
def sf_st (D : DV) (v : Nat → Int32) : DV := (v, D.pr, D.wr, D.sp, D.hr, D.pl, D.dk, D.pp, D.g)
def sf_pr (D : DV) (v : Nat → Int32) : DV := (D.st, v, D.wr, D.sp, D.hr, D.pl, D.dk, D.pp, D.g)
def sf_wr (D : DV) (v : Nat → Int32) : DV := (D.st, D.pr, v, D.sp, D.hr, D.pl, D.dk, D.pp, D.g)
def sf_sp (D : DV) (v : Nat → Int32) : DV := (D.st, D.pr, D.wr, v, D.hr, D.pl, D.dk, D.pp, D.g)
def sf_hr (D : DV) (v : Int32) : DV := (D.st, D.pr, D.wr, D.sp, v, D.pl, D.dk, D.pp, D.g)
def sf_pl (D : DV) (v : Int32) : DV := (D.st, D.pr, D.wr, D.sp, D.hr, v, D.dk, D.pp, D.g)
def sf_dk (D : DV) (v : Int32) : DV := (D.st, D.pr, D.wr, D.sp, D.hr, D.pl, v, D.pp, D.g)
def sf_pp (D : DV) (v : Int32) : DV := (D.st, D.pr, D.wr, D.sp, D.hr, D.pl, D.dk, v, D.g)
def sf_g (D : DV) (v : Nat → GV) : DV := (D.st, D.pr, D.wr, D.sp, D.hr, D.pl, D.dk, D.pp, v)
def gV (S : SS) (g : Nat) : GV := ⟨sF S (g + 1), sI S (g + 2), sI S (g + 3), sI S (g + 4)⟩
def dV (S : SS) (d : Nat) : DV := ⟨sI S (d + 1), sI S (d + 2), sI S (d + 3), sI S (d + 4), sI S d 5, sI S d 6, sI S d 7, sI S d 8, fun i => gV S (d + 6 + 5 * i)⟩
/-- the same on all places -/
def GE (A B : GV) : Prop := ∀ k, k < 120 → A.l k = B.l k ∧ A.t k = B.t k ∧ A.w k = B.w k ∧ A.p k = B.p k
theorem GE.refl (A : GV) : GE A A := fun _ _ => ⟨rfl, rfl, rfl, rfl⟩
theorem GE.symm {A B : GV} (h : GE A B) : GE B A := fun k hk => ⟨(h k hk).1.symm, (h k hk).2.1.symm, (h k hk).2.2.1.symm, (h k hk).2.2.2.symm⟩
theorem GE.trans {A B C : GV} (h : GE A B) (h2 : GE B C) : GE A C := fun k hk => ⟨(h k hk).1.trans (h2 k hk).1, (h k hk).2.1.trans (h2 k hk).2.1, (h k hk).2.2.1.trans (h2 k hk).2.2.1, (h k hk).2.2.2.trans (h2 k hk).2.2.2⟩
/-- the same on a desk, as far as there are plates -/
def DE (A B : DV) : Prop := (∀ i, i < 4 → A.st i = B.st i) ∧ (∀ i, i < 5 → A.pr i = B.pr i ∧ A.wr i = B.wr i ∧ A.sp i = B.sp i) ∧ A.hr = B.hr ∧ A.pl = B.pl ∧ A.dk = B.dk ∧ A.pp = B.pp ∧ ∀ p, nI p < A.pl → p < 4 → GE (A.g p) (B.g p)
theorem DE.refl (A : DV) : DE A A := ⟨fun _ _ => rfl, fun _ _ => ⟨rfl, rfl, rfl⟩, rfl, rfl, rfl, rfl, fun _ _ _ => GE.refl _⟩
theorem DE.symm {A B : DV} (h : DE A B) : DE B A := by
  obtain ⟨h1, h2, h3, h4, h5, h6, h7⟩ := h
  exact ⟨fun i hi => (h1 i hi).symm, fun i hi => ⟨(h2 i hi).1.symm, (h2 i hi).2.1.symm, (h2 i hi).2.2.symm⟩, h3.symm, h4.symm, h5.symm, h6.symm, fun p hp h8 => (h7 p (by rw [h4]; exact hp) h8).symm⟩
theorem DE.trans {A B C : DV} (h : DE A B) (k : DE B C) : DE A C := by
  obtain ⟨h1, h2, h3, h4, h5, h6, h7⟩ := h
  obtain ⟨k1, k2, k3, k4, k5, k6, k7⟩ := k
  exact ⟨fun i hi => (h1 i hi).trans (k1 i hi), fun i hi => ⟨(h2 i hi).1.trans (k2 i hi).1, (h2 i hi).2.1.trans (k2 i hi).2.1, (h2 i hi).2.2.trans (k2 i hi).2.2⟩, h3.trans k3, h4.trans k4, h5.trans k5, h6.trans k6, fun p hp h8 => (h7 p hp h8).trans (k7 p (by rw [← h4]; exact hp) h8)⟩
/-- all in its range -/
def StV (D : DV) : Prop := (∃ a, a ≤ 18 ∧ D.st 0 = nI a) ∧ (∃ a, a ≤ 9 ∧ D.st 1 = nI a) ∧ (∃ a, (1 ≤ a ∧ a ≤ 99) ∧ D.st 2 = nI a) ∧ (∃ a, a ≤ 50 ∧ D.st 3 = nI a) ∧ ∀ i, i < 5 → ∃ a, a ≤ 5 ∧ D.pr i = nI a
def GOK (G : GV) : Prop := ∀ k, k < 120 → okL (G.l k) ∧ (G.t k = mI 6 ∧ G.w k = mI 6 ∨ ∃ a b, a < 26 ∧ b < 5 ∧ G.t k = nI a ∧ G.w k = nI b) ∧ (G.p k = mI 6 ∨ ∃ b, b < 5 ∧ G.p k = nI b)
def DOK (D : DV) : Prop := StV D ∧ (∃ h, h ≤ 9999 ∧ D.hr = nI h) ∧ (∃ n, n ≤ 4 ∧ D.pl = nI n ∧ (D.dk = mI 6 ∧ n = 0 ∨ ∃ p, p < n ∧ D.dk = nI p)) ∧ (∃ n, n ≤ 5 ∧ D.pp = nI n) ∧ ∀ p, nI p < D.pl → p < 4 → GOK (D.g p)
theorem StV.set {S : SS} {d : Nat} (h : StV (dV S d)) : SetV S d := h
theorem GOK.congr {A B : GV} (h : GE A B) (k : GOK A) : GOK B := by
  intro j hj
  obtain ⟨h1, h2, h3, h4⟩ := h j hj
  have := k j hj
  rw [h1, h2, h3, h4] at this
  exact this
theorem StV.congr {A B : DV} (h : DE A B) (k : StV A) : StV B := by
  obtain ⟨h1, h2, -⟩ := h
  obtain ⟨k1, k2, k3, k4, k5⟩ := k
  rw [h1 0 (by omega)] at k1
  rw [h1 1 (by omega)] at k2
  rw [h1 2 (by omega)] at k3
  rw [h1 3 (by omega)] at k4
  exact ⟨k1, k2, k3, k4, fun i hi => by rw [← (h2 i hi).1]; exact k5 i hi⟩
theorem DOK.congr {A B : DV} (h : DE A B) (k : DOK A) : DOK B := by
  have h0 := h
  obtain ⟨h1, h2, h3, h4, h5, h6, h7⟩ := h
  obtain ⟨k1, k2, k3, k4, k5⟩ := k
  rw [h3] at k2
  rw [h4, h5] at k3
  rw [h6] at k4
  exact ⟨k1.congr h0, k2, k3, k4, fun p hp h8 => (k5 p (by rw [h4]; exact hp) h8).congr (h7 p (by rw [h4]; exact hp) h8)⟩
/-- cells apart -/
def Ap (g n o m : Nat) : Prop := g + n ≤ o ∨ o + m ≤ g
theorem Ap.ne {g n o m : Nat} (h : Ap g n o m) (i j : Nat) (hi : i < n) (hj : j < m) : ¬ o + j = g + i := by unfold Ap at h; omega
theorem Ap.ne0 {g n o m : Nat} (h : Ap g n o m) (j : Nat) (hi : 0 < n) (hj : j < m) : (o + j = g) = False := by unfold Ap at h; apply eq_false; omega
theorem Ap.n1 {d n o m : Nat} (h : Ap d n o m) (i j : Nat) (hi : i < n) (hj : j < m) : (o + j = d + i) = False := by unfold Ap at h; apply eq_false; omega
theorem Ap.n2 {d n o m : Nat} (h : Ap d n o m) (i j : Nat) (hi : i < n) (hj : j < m) : (d + i = o + j) = False := by unfold Ap at h; apply eq_false; omega
theorem Ap.n3 {d n o m : Nat} (h : Ap d n o m) (j : Nat) (hi : 0 < n) (hj : j < m) : (o + j = d) = False := by unfold Ap at h; apply eq_false; omega
theorem Ap.n4 {d n o m : Nat} (h : Ap d n o m) (i : Nat) (hi : i < n) (hj : 0 < m) : (o = d + i) = False := by unfold Ap at h; apply eq_false; omega
theorem Ap.n5 {d n o m : Nat} (h : Ap d n o m) (j : Nat) (hi : 0 < n) (hj : j < m) : (d = o + j) = False := by unfold Ap at h; apply eq_false; omega
theorem Ap.n6 {d n o m : Nat} (h : Ap d n o m) (i : Nat) (hi : i < n) (hj : 0 < m) : (d + i = o) = False := by unfold Ap at h; apply eq_false; omega
theorem Ap.n7 {d n o m : Nat} (h : Ap d n o m) (hi : 0 < n) (hj : 0 < m) : (o = d) = False := by unfold Ap at h; apply eq_false; omega
theorem Ap.n8 {d n o m : Nat} (h : Ap d n o m) (hi : 0 < n) (hj : 0 < m) : (d = o) = False := by unfold Ap at h; apply eq_false; omega
/-- nothing changed but the numbers and lights in cells lo .. hi-1 -/
def Fr (S S' : SS) (lo hi : Nat) : Prop := sK S' = sK S ∧ sR S' = sR S ∧ sZ S' = sZ S ∧ ∀ a, a < lo ∨ hi ≤ a → sI S' a = sI S a ∧ sF S' a = sF S a
theorem Fr.refl (S : SS) (lo hi : Nat) : Fr S S lo hi := ⟨rfl, rfl, rfl, fun _ _ => ⟨rfl, rfl⟩⟩
theorem Fr.trans {S T U : SS} {lo hi : Nat} (h : Fr S T lo hi) (k : Fr T U lo hi) : Fr S U lo hi := ⟨k.1.trans h.1, k.2.1.trans h.2.1, k.2.2.1.trans h.2.2.1, fun a ha => ⟨(k.2.2.2 a ha).1.trans (h.2.2.2 a ha).1, (k.2.2.2 a ha).2.trans (h.2.2.2 a ha).2⟩⟩
theorem Fr.mono {S T : SS} {lo hi lo' hi' : Nat} (h : Fr S T lo hi) (h1 : lo' ≤ lo) (h2 : hi ≤ hi') : Fr S T lo' hi' := ⟨h.1, h.2.1, h.2.2.1, fun a ha => h.2.2.2 a (by omega)⟩
theorem Fr.stI {S T : SS} {lo hi : Nat} (h : Fr S T lo hi) (a k : Nat) (v : Int32) (h1 : lo ≤ a) (h2 : a < hi) : Fr S (stI T a k v) lo hi :=
  ⟨h.1, h.2.1, h.2.2.1, fun b hb => ⟨by
    rw [← (h.2.2.2 b hb).1]
    funext j
    rw [sI_stI, if_neg (by omega)], (h.2.2.2 b hb).2⟩⟩
theorem Fr.stF {S T : SS} {lo hi : Nat} (h : Fr S T lo hi) (a k : Nat) (v : UInt32) (h1 : lo ≤ a) (h2 : a < hi) : Fr S (stF T a k v) lo hi :=
  ⟨h.1, h.2.1, h.2.2.1, fun b hb => ⟨(h.2.2.2 b hb).1, by
    rw [← (h.2.2.2 b hb).2]
    funext j
    rw [sF_stF, if_neg (by omega)]⟩⟩
theorem Fr.stIA {S T : SS} {lo hi : Nat} (h : Fr S T lo hi) (a : Nat) (f : Nat → Int32) (h1 : lo ≤ a) (h2 : a < hi) : Fr S (stIA T a f) lo hi :=
  ⟨h.1, h.2.1, h.2.2.1, fun b hb => ⟨by rw [← (h.2.2.2 b hb).1, sI_stIA, if_neg (by omega)], (h.2.2.2 b hb).2⟩⟩
theorem Fr.stFA {S T : SS} {lo hi : Nat} (h : Fr S T lo hi) (a : Nat) (f : Nat → UInt32) (h1 : lo ≤ a) (h2 : a < hi) : Fr S (stFA T a f) lo hi :=
  ⟨h.1, h.2.1, h.2.2.1, fun b hb => ⟨(h.2.2.2 b hb).1, by rw [← (h.2.2.2 b hb).2, sF_stFA, if_neg (by omega)]⟩⟩
theorem Fr.glass {S T : SS} {lo hi g : Nat} (h : Fr S T lo hi) (k : GlassAt S g) : GlassAt T g := k.mk' h.1 h.2.1
theorem Fr.desk {S T : SS} {lo hi d : Nat} (h : Fr S T lo hi) (k : DeskAt S d) : DeskAt T d := k.mk' h.1 h.2.1
theorem Fr.i {S T : SS} {lo hi : Nat} (h : Fr S T lo hi) {a : Nat} (ha : a < lo ∨ hi ≤ a) : sI T a = sI S a := (h.2.2.2 a ha).1
theorem Fr.f {S T : SS} {lo hi : Nat} (h : Fr S T lo hi) {a : Nat} (ha : a < lo ∨ hi ≤ a) : sF T a = sF S a := (h.2.2.2 a ha).2
theorem Fr.gV {S T : SS} {lo hi g : Nat} (h : Fr S T lo hi) (k : g + 5 ≤ lo ∨ hi ≤ g) : gV T g = gV S g := by
  unfold Jvm.Pilot.CPlateWritersLaw_law_r5600_de46fe.gV
  rw [h.f (by omega), h.i (by omega), h.i (by omega), h.i (by omega)]
/-- light, and what can be read -/
def dimV (D : DV) (x : UInt32) (w t : Nat) : UInt32 := if t = 1 then dmF (D.st 0 * D.pr w) x else if t = 2 then dmF (D.st 1 * D.pr w) x else x
theorem dimD_dimV (S : SS) (d : Nat) (x : UInt32) (w t : Nat) : dimD S d x w t = dimV (dV S d) x w t := rfl
theorem dimV_far {D : DV} {x : UInt32} {w t : Nat} (h : t = 0 ∨ 2 < t) : dimV D x w t = x := by
  unfold dimV
  rw [if_neg (by omega), if_neg (by omega)]
def aheadV (D : DV) (G : GV) (x : UInt32) (k n : Nat) : UInt32 := fo (fun x j => if G.p j = mI 6 then x else dimV D x (G.p j).toNatClampNeg (dist k j)) x n
def enV (D : DV) (x : UInt32) : Bool := enF (D.st 2) x
def rdV (D : DV) (G : GV) (k : Nat) : Bool := !decide (G.t k = mI 6) && enV D (G.l k)
def roV (D : DV) (G : GV) (k : Nat) : Bool := decide (G.t k = mI 6) && decide (G.p k = mI 6) && enV D (aheadV D G (G.l k) k 120)
def isV (D : DV) (G : GV) (k what : Nat) : Bool := if what = 0 then !decide (G.t k = mI 6) else if what = 1 then rdV D G k else if what = 2 then !decide (G.p k = mI 6) else roV D G k
def leftV (D : DV) (G : GV) (w k n : Nat) : UInt32 := fo (fun x j => if ¬ G.t j = mI 6 ∧ G.w j = nI w then dimV D x w (dist k j) else x) FP.fconst1 n
def lostV (D : DV) (G : GV) (w k n : Nat) : Nat := cn (fun j => rdV D G j && !enV D (dimV D (G.l j) w (dist k j))) n
def upV {α : Type} (f : Nat → α) (k : Nat) (v : α) : Nat → α := fun j => if j = k then v else f j
def markV (D : DV) (G : GV) (w k : Nat) (a : Int32) : GV := ⟨fun j => dimV D (G.l j) w (dist k j), upV G.t k a, upV G.w k (nI w), upV G.p k (mI 6)⟩
def newV : GV := ⟨fun _ => FP.fconst1, fun _ => mI 6, fun _ => mI 6, fun _ => mI 6⟩
/-- laying one plate anew among those of a desk -/
def putG (D : DV) (p : Nat) (G : GV) : DV := (sf_g D (upV D.g p G))
theorem Fr.dE {S T : SS} {lo hi d : Nat} (h : Fr S T lo hi) (k : d + 26 ≤ lo ∨ hi ≤ d) : DE (dV T d) (dV S d) := by
  have e : ∀ i, i < 26 → sI T (d + i) = sI S (d + i) := fun i hi => h.i (by omega)
  have e0 : sI T d = sI S d := h.i (by omega)
  refine ⟨fun i _ => ?_, fun i _ => ⟨?_, ?_, ?_⟩, ?_, ?_, ?_, ?_, fun p _ hp => ?_⟩
  · show sI T (d + 1) i = sI S (d + 1) i
    rw [e 1 (by omega)]
  · show sI T (d + 2) i = sI S (d + 2) i
    rw [e 2 (by omega)]
  · show sI T (d + 3) i = sI S (d + 3) i
    rw [e 3 (by omega)]
  · show sI T (d + 4) i = sI S (d + 4) i
    rw [e 4 (by omega)]
  · show sI T d 5 = sI S d 5
    rw [e0]
  · show sI T d 6 = sI S d 6
    rw [e0]
  · show sI T d 7 = sI S d 7
    rw [e0]
  · show sI T d 8 = sI S d 8
    rw [e0]
  · show GE (Jvm.Pilot.CPlateWritersLaw_law_r5600_de46fe.gV T (d + 6 + 5 * p)) _
    rw [h.gV (by omega)]
    exact GE.refl _
theorem Fr.putG {S T : SS} {d k : Nat} (h : Fr S T (d + 6 + 5 * k) (d + 6 + 5 * k + 5)) : dV T d = putG (dV S d) k (Jvm.Pilot.CPlateWritersLaw_law_r5600_de46fe.gV T (d + 6 + 5 * k)) := by
  have e : ∀ i, i < 6 → sI T (d + i) = sI S (d + i) := fun i hi => h.i (by omega)
  have e0 : sI T d = sI S d := h.i (by omega)
  unfold dV Jvm.Pilot.CPlateWritersLaw_law_r5600_de46fe.putG
  rw [e 1 (by omega), e 2 (by omega), e 3 (by omega), e 4 (by omega), e0]
  have e2 : (fun i => Jvm.Pilot.CPlateWritersLaw_law_r5600_de46fe.gV T (d + 6 + 5 * i)) = upV (fun i => Jvm.Pilot.CPlateWritersLaw_law_r5600_de46fe.gV S (d + 6 + 5 * i)) k (Jvm.Pilot.CPlateWritersLaw_law_r5600_de46fe.gV T (d + 6 + 5 * k)) := by
    funext p
    unfold upV
    by_cases hp : p = k
    · rw [if_pos hp, hp]
    · rw [if_neg hp, h.gV (by omega)]
  rw [e2]
  rfl
theorem sI_row (S : SS) (a k : Nat) (v : Int32) (b : Nat) : sI (stI S a k v) b = if b = a then upV (sI S a) k v else sI S b := by
  rw [stI_row', sI_stIA]
  rfl
theorem sF_row (S : SS) (a k : Nat) (v : UInt32) (b : Nat) : sF (stF S a k v) b = if b = a then upV (sF S a) k v else sF S b := by
  rw [stF_row', sF_stFA]
  rfl
theorem Fr.low {S T : SS} {d : Nat} (h : Fr S T d (d + 5)) (p : Nat) : Jvm.Pilot.CPlateWritersLaw_law_r5600_de46fe.gV T (d + 6 + 5 * p) = Jvm.Pilot.CPlateWritersLaw_law_r5600_de46fe.gV S (d + 6 + 5 * p) := h.gV (by omega)
theorem dV_lowI (S : SS) (d j k : Nat) (hj : j < 5) (v : Int32) : (fun i => gV (stI S (d + j) k v) (d + 6 + 5 * i)) = fun i => gV S (d + 6 + 5 * i) := funext fun p => ((Fr.refl S d (d + 5)).stI (d + j) k v (by omega) (by omega)).low p
theorem add_self1 (d : Nat) : (d + 1 = d) = False := eq_false (by omega)
theorem add_self2 (d : Nat) : (d + 2 = d) = False := eq_false (by omega)
theorem add_self3 (d : Nat) : (d + 3 = d) = False := eq_false (by omega)
theorem add_self4 (d : Nat) : (d + 4 = d) = False := eq_false (by omega)
theorem self_add (d k : Nat) : (d = d + (k + 1)) = False := eq_false (by omega)
theorem self_add1 (d : Nat) : (d = d + 1) = False := eq_false (by omega)
theorem self_add2 (d : Nat) : (d = d + 2) = False := eq_false (by omega)
theorem self_add3 (d : Nat) : (d = d + 3) = False := eq_false (by omega)
theorem self_add4 (d : Nat) : (d = d + 4) = False := eq_false (by omega)
theorem dV_st (S : SS) (d k : Nat) (v : Int32) : dV (stI S (d + 1) k v) d = (sf_st (dV S d) (upV (dV S d).st k v)) := by
  unfold dV
  rw [dV_lowI S d 1 k (by omega)]
  simp only [sI_row, Nat.add_left_cancel_iff, Nat.reduceEqDiff, if_true, if_false, self_add1]
  rfl
theorem dV_pr (S : SS) (d k : Nat) (v : Int32) : dV (stI S (d + 2) k v) d = (sf_pr (dV S d) (upV (dV S d).pr k v)) := by
  unfold dV
  rw [dV_lowI S d 2 k (by omega)]
  simp only [sI_row, Nat.add_left_cancel_iff, Nat.reduceEqDiff, if_true, if_false, self_add2]
  rfl
theorem dV_wr (S : SS) (d k : Nat) (v : Int32) : dV (stI S (d + 3) k v) d = (sf_wr (dV S d) (upV (dV S d).wr k v)) := by
  unfold dV
  rw [dV_lowI S d 3 k (by omega)]
  simp only [sI_row, Nat.add_left_cancel_iff, Nat.reduceEqDiff, if_true, if_false, self_add3]
  rfl
theorem dV_sp (S : SS) (d k : Nat) (v : Int32) : dV (stI S (d + 4) k v) d = (sf_sp (dV S d) (upV (dV S d).sp k v)) := by
  unfold dV
  rw [dV_lowI S d 4 k (by omega)]
  simp only [sI_row, Nat.add_left_cancel_iff, Nat.reduceEqDiff, if_true, if_false, self_add4]
  rfl
theorem dV_hr (S : SS) (d : Nat) (v : Int32) : dV (stI S d 5 v) d = (sf_hr (dV S d) (v)) := by
  unfold dV
  rw [show d = d + 0 from rfl, dV_lowI S d 0 5 (by omega)]
  simp [sI_row, upV, GV.l, GV.t, GV.w, GV.p, DV.st, DV.pr, DV.wr, DV.sp, DV.hr, DV.pl, DV.dk, DV.pp, DV.g, sf_l, sf_t, sf_w, sf_p, sf_st, sf_pr, sf_wr, sf_sp, sf_hr, sf_pl, sf_dk, sf_pp, sf_g]
theorem dV_pl (S : SS) (d : Nat) (v : Int32) : dV (stI S d 6 v) d = (sf_pl (dV S d) (v)) := by
  unfold dV
  rw [show d = d + 0 from rfl, dV_lowI S d 0 6 (by omega)]
  simp [sI_row, upV, GV.l, GV.t, GV.w, GV.p, DV.st, DV.pr, DV.wr, DV.sp, DV.hr, DV.pl, DV.dk, DV.pp, DV.g, sf_l, sf_t, sf_w, sf_p, sf_st, sf_pr, sf_wr, sf_sp, sf_hr, sf_pl, sf_dk, sf_pp, sf_g]
theorem dV_dk (S : SS) (d : Nat) (v : Int32) : dV (stI S d 7 v) d = (sf_dk (dV S d) (v)) := by
  unfold dV
  rw [show d = d + 0 from rfl, dV_lowI S d 0 7 (by omega)]
  simp [sI_row, upV, GV.l, GV.t, GV.w, GV.p, DV.st, DV.pr, DV.wr, DV.sp, DV.hr, DV.pl, DV.dk, DV.pp, DV.g, sf_l, sf_t, sf_w, sf_p, sf_st, sf_pr, sf_wr, sf_sp, sf_hr, sf_pl, sf_dk, sf_pp, sf_g]
theorem dV_pp (S : SS) (d : Nat) (v : Int32) : dV (stI S d 8 v) d = (sf_pp (dV S d) (v)) := by
  unfold dV
  rw [show d = d + 0 from rfl, dV_lowI S d 0 8 (by omega)]
  simp [sI_row, upV, GV.l, GV.t, GV.w, GV.p, DV.st, DV.pr, DV.wr, DV.sp, DV.hr, DV.pl, DV.dk, DV.pp, DV.g, sf_l, sf_t, sf_w, sf_p, sf_st, sf_pr, sf_wr, sf_sp, sf_hr, sf_pl, sf_dk, sf_pp, sf_g]
