-- needs: 67.minit 42.carry 44.all 43.mean 40.rows 39.asks
/-! the class and the reference say the same -/
theorem Qs.fr {S T : SS} {lo hi y : Nat} (h : Fr S T lo hi) (k : hi ≤ y + 1 ∨ y + 3 ≤ lo) (q : Nat) : Qs S T y q q :=
  ⟨fun j hj => by rw [h.i (by omega)], fun j hj => by rw [h.f (by omega)]⟩
def pastR (S : SS) (x y nx kc : Nat) : Prop := ∀ j, j < kc → DOK (dV S (x + 29 + 26 * ((nx + 6 - j) % 7))) ∧ DE (dV S (x + 29 + 26 * ((nx + 6 - j) % 7))) (mV S y (kc - j))
def slotR (S : SS) (x y : Nat) : Prop := ∀ j, j < 2 → (sI S (x + 212) j = nI 0 ∨ sI S (x + 212) j = nI 1) ∧ sI S (y + 3) j = sI S (x + 212) j ∧ (sI S (x + 212) j = nI 1 → DOK (dV S (x + 228 + 26 * j)) ∧ DE (dV S (x + 228 + 26 * j)) (mV S y (7 + j)))
def textR (S : SS) (x y n : Nat) (T : Nat → Nat) : Prop := TxAt S (x + 213) T n ∧ TM S y T n ∧ FO (sI S y)
def REL (S : SS) (x y nx kc n : Nat) (T : Nat → Nat) : Prop := OwnOK S x nx kc ∧ ModAt S y ∧ x + 280 ≤ y ∧ DE (dV S (x + 1)) (mV S y 0) ∧ sI S y 2 = nI kc ∧ pastR S x y nx kc ∧ slotR S x y ∧ textR S x y n T
theorem REL.mok {S : SS} {x y nx kc n : Nat} {T : Nat → Nat} (h : REL S x y nx kc n T) : MOK S y kc :=
  ⟨h.2.1, DOK.congr h.2.2.2.1 h.1.2.1, h.1.2.2.2.1, h.2.2.2.2.1⟩
/-- nothing that is told of either has changed -/
theorem pastR.fr {S S' : SS} {x y nx kc lo hi : Nat} (h : pastR S x y nx kc) (hF : Fr S S' lo hi) (h1 : hi ≤ x + 29 ∨ x + 211 ≤ lo) (h2 : hi ≤ y + 1 ∨ y + 3 ≤ lo) : pastR S' x y nx kc := fun j hj => by
  obtain ⟨a, b⟩ := h j hj
  have hm : (nx + 6 - j) % 7 < 7 := Nat.mod_lt _ (by omega)
  have e := hF.dE (d := x + 29 + 26 * ((nx + 6 - j) % 7)) (by omega)
  exact ⟨DOK.congr e.symm a, (e.trans b).trans (Qs.fr hF h2 _).de.symm⟩
theorem slotR.fr {S S' : SS} {x y lo hi : Nat} (h : slotR S x y) (hF : Fr S S' lo hi) (h1 : hi ≤ x + 212 ∨ x + 280 ≤ lo ∨ x + 213 ≤ lo ∧ hi ≤ x + 228) (h2 : hi ≤ y + 1 ∨ y + 4 ≤ lo) : slotR S' x y := fun j hj => by
  obtain ⟨a, b, c⟩ := h j hj
  have e := hF.dE (d := x + 228 + 26 * j) (by omega)
  rw [hF.i (show x + 212 < lo ∨ hi ≤ x + 212 by omega), hF.i (show y + 3 < lo ∨ hi ≤ y + 3 by omega)]
  exact ⟨a, b, fun q => ⟨DOK.congr e.symm (c q).1, (e.trans (c q).2).trans (Qs.fr hF (by omega) _).de.symm⟩⟩
theorem TxAt.fr {S S' : SS} {o lo hi n : Nat} {T : Nat → Nat} (h : TxAt S o T n) (hF : Fr S S' lo hi) (h1 : hi ≤ o + 1 ∨ o + 3 ≤ lo) : TxAt S' o T n := by
  obtain ⟨a, b, c⟩ := h
  exact ⟨a, by rw [hF.i (by omega)]; exact b, fun j hj => ⟨(c j hj).1, by rw [hF.i (by omega)]; exact (c j hj).2⟩⟩
theorem TM.fr {S S' : SS} {y lo hi n : Nat} {T : Nat → Nat} (h : TM S y T n) (hF : Fr S S' lo hi) (h1 : hi ≤ y ∨ y + 6 ≤ lo ∨ y < lo ∧ hi ≤ y + 5) : TM S' y T n := by
  obtain ⟨a, b, c⟩ := h
  exact ⟨a, by rw [hF.i (by omega)]; exact b, fun j hj => ⟨(c j hj).1, by rw [hF.i (by omega)]; exact (c j hj).2⟩⟩
theorem textR.fr {S S' : SS} {x y lo hi n : Nat} {T : Nat → Nat} (h : textR S x y n T) (hF : Fr S S' lo hi) (h1 : hi ≤ x + 214 ∨ x + 216 ≤ lo) (h2 : hi ≤ y ∨ y + 6 ≤ lo ∨ y < lo ∧ hi ≤ y + 5) : textR S' x y n T :=
  ⟨h.1.fr hF (by omega), h.2.1.fr hF h2, by rw [hF.i (by omega)]; exact h.2.2⟩
theorem OwnOK.fr {S S' : SS} {x nx kc lo hi : Nat} (h : OwnOK S x nx kc) (hF : Fr S S' lo hi) (h1 : hi ≤ x ∨ x + 29 ≤ lo) : OwnOK S' x nx kc := by
  obtain ⟨a, b, c, d, e, f⟩ := h
  exact ⟨a.fr hF, DOK.congr (hF.dE (by omega)).symm b, c, d, by rw [hF.i (by omega)]; exact e, by rw [hF.i (by omega)]; exact f⟩
/-- the class asked: only the trial's or the reader's cells changed -/
theorem REL.ask {S S' : SS} {x y nx kc n lo hi : Nat} {T : Nat → Nat} (h : REL S x y nx kc n T) (hF : Fr S S' lo hi) (h1 : x + 216 ≤ lo ∧ hi ≤ x + 228) : REL S' x y nx kc n T := by
  obtain ⟨a, b, c, d, e, f, g, t⟩ := h
  exact ⟨a.fr hF (by omega), hF.mod b, c, ((hF.dE (by omega)).trans d).trans (Qs.fr hF (by omega) _).de.symm, by rw [hF.i (by omega)]; exact e, f.fr hF (by omega) (by omega), g.fr hF (by omega) (by omega), t.fr hF (by omega) (by omega)⟩
/-- the reference asked -/
theorem REL.sm {S S' : SS} {x y nx kc n : Nat} {T : Nat → Nat} (h : REL S x y nx kc n T) (hS : Sm S S' y) : REL S' x y nx kc n T := by
  obtain ⟨a, b, c, d, e, f, g, t⟩ := h
  obtain ⟨hF, h3, hq⟩ := hS
  refine ⟨a.fr hF (by omega), hF.mod b, c, ((hF.dE (by omega)).trans d).trans (hq 0 (by omega)).de.symm, by rw [hF.i (by omega)]; exact e, fun j hj => ?_, fun j hj => ?_, t.fr hF (by omega) (by omega)⟩
  · obtain ⟨p, q⟩ := f j hj
    have hm : (nx + 6 - j) % 7 < 7 := Nat.mod_lt _ (by omega)
    have hk := a.2.2.2.1
    have e := hF.dE (d := x + 29 + 26 * ((nx + 6 - j) % 7)) (by omega)
    exact ⟨DOK.congr e.symm p, (e.trans q).trans (hq _ (by omega)).de.symm⟩
  · obtain ⟨p, q, r⟩ := g j hj
    have e := hF.dE (d := x + 228 + 26 * j) (by omega)
    rw [hF.i (show x + 212 < y + 1 ∨ y + 5 ≤ x + 212 by omega), h3]
    exact ⟨p, q, fun q => ⟨DOK.congr e.symm (r q).1, (e.trans (r q).2).trans (hq _ (by omega)).de.symm⟩⟩
/-- a change that may not be -/
theorem REL.bad {S S' : SS} {x y nx kc n : Nat} {T : Nat → Nat} {D : DV} (h : REL S x y nx kc n T) (hC : Chg S S' x nx kc D false) (hD : DE D (dV S (x + 1))) : REL S' x y nx kc n T := by
  obtain ⟨a, b, c, d, e, f, g, t⟩ := h
  obtain ⟨c1, c2, c3, -, c5, c6⟩ := hC
  have hn := a.2.2.1
  have hk := a.2.2.2.1
  refine ⟨⟨a.1.fr c1, DOK.congr (c2.trans hD).symm a.2.1, hn, hk, c5, c6⟩, c1.mod b, c, ((c2.trans hD).trans d).trans (Qs.fr c1 (by omega) _).de.symm, by rw [c1.i (by omega)]; exact e, fun j hj => ?_, g.fr c1 (by omega) (by omega), t.fr c1 (by omega) (by omega)⟩
  obtain ⟨p, q⟩ := f j hj
  have hm : (nx + 6 - j) % 7 < 7 := Nat.mod_lt _ (by omega)
  have e := c3 ((nx + 6 - j) % 7) hm (by omega)
  exact ⟨DOK.congr e.symm p, (e.trans q).trans (Qs.fr c1 (by omega) _).de.symm⟩
/-- a change of both; W: the class's text emptied, or not -/
theorem REL.good0 {S S' W U : SS} {x y nx kc n n' : Nat} {T T' : Nat → Nat} {D M : DV} {tl : Int32} (h : REL S x y nx kc n T) (hC : Chg S S' x nx kc D true) (hW : Fr S' W (x + 214) (x + 215)) (hM : MChg W U y kc M tl) (hD : DE D M) (hO : DOK D) (ht : textR U x y n' T') : REL U x y ((nx + 1) % 7) (min (kc + 1) 6) n' T' := by
  obtain ⟨a, b, c, d, e, f, g, -⟩ := h
  obtain ⟨c1, c2, c3, c4, c5, c6⟩ := hC
  obtain ⟨m1, m2, m3, -, m5, m6, m7, m8⟩ := hM
  have hn := a.2.2.1
  have hk := a.2.2.2.1
  have w2 : DE (dV W (x + 1)) D := (hW.dE (by omega)).trans c2
  have wP : ∀ i, i < 7 → DE (dV W (x + 29 + 26 * i)) (dV S' (x + 29 + 26 * i)) := fun i hi => hW.dE (by omega)
  have wQ : ∀ q, DE (mV S y q) (mV W y q) := fun q => ((Qs.fr hW (by omega) q).de.trans (Qs.fr c1 (by omega) q).de).symm
  have dU : DE (dV U (x + 1)) D := (m1.dE (by omega)).trans w2
  rw [if_pos rfl] at c5 c6
  refine ⟨⟨((a.1.fr c1).fr hW).fr m1, DOK.congr dU.symm hO, Nat.mod_lt _ (by omega), Nat.min_le_right _ _, by rw [m1.i (by omega), hW.i (by omega)]; exact c5, by rw [m1.i (by omega), hW.i (by omega)]; exact c6⟩, m1.mod (hW.mod (c1.mod b)), c, (dU.trans hD).trans m5.symm, m3, fun j hj => ?_, fun j hj => ?_, ht⟩
  · have hm : ((nx + 1) % 7 + 6 - j) % 7 < 7 := Nat.mod_lt _ (by omega)
    have e1 := (m1.dE (d := x + 29 + 26 * (((nx + 1) % 7 + 6 - j) % 7)) (by omega)).trans (wP _ hm)
    by_cases j0 : j = 0
    · subst j0
      have en : ((nx + 1) % 7 + 6 - 0) % 7 = nx := by omega
      rw [en] at e1 ⊢
      have e2 := e1.trans (c4 rfl)
      rw [Nat.sub_zero]
      exact ⟨DOK.congr e2.symm a.2.1, (e2.trans d).trans ((wQ 0).trans m6.de.symm)⟩
    · obtain ⟨p, q⟩ := f (j - 1) (by omega)
      have en : ((nx + 1) % 7 + 6 - j) % 7 = (nx + 6 - (j - 1)) % 7 := by omega
      rw [en] at e1 ⊢
      have e2 := e1.trans (c3 ((nx + 6 - (j - 1)) % 7) (by omega) (by omega))
      have q7 := m7 (min (kc + 1) 6 - j) (by omega) (by omega)
      have ei : (if kc = 6 then min (kc + 1) 6 - j + 1 else min (kc + 1) 6 - j) = kc - (j - 1) := by
        split <;> omega
      rw [ei] at q7
      exact ⟨DOK.congr e2.symm p, (e2.trans q).trans ((wQ _).trans q7.de.symm)⟩
  · obtain ⟨p, q, r⟩ := g j hj
    have e1 := ((m1.dE (d := x + 228 + 26 * j) (by omega)).trans (hW.dE (d := x + 228 + 26 * j) (by omega))).trans (c1.dE (d := x + 228 + 26 * j) (by omega))
    rw [m1.i (show x + 212 < y ∨ y + 5 ≤ x + 212 by omega), hW.i (show x + 212 < x + 214 ∨ x + 215 ≤ x + 212 by omega), c1.i (show x + 212 < x + 1 ∨ x + 211 ≤ x + 212 by omega), m2, hW.i (show y + 3 < x + 214 ∨ x + 215 ≤ y + 3 by omega), c1.i (show y + 3 < x + 1 ∨ x + 211 ≤ y + 3 by omega)]
    exact ⟨p, q, fun q => ⟨DOK.congr e1.symm (r q).1, (e1.trans (r q).2).trans ((wQ _).trans (m8 (7 + j) (by omega) (by omega)).de.symm)⟩⟩
theorem REL.good {S S' U : SS} {x y nx kc n : Nat} {T : Nat → Nat} {D M : DV} {tl : Int32} (h : REL S x y nx kc n T) (hC : Chg S S' x nx kc D true) (hM : MChg S' U y kc M tl) (ht : tl = sI S' y 6) (hD : DE D M) (hO : DOK D) : REL U x y ((nx + 1) % 7) (min (kc + 1) 6) n T := by
  have hM0 := hM
  have hC0 := hC
  subst ht
  obtain ⟨c1, -⟩ := hC
  obtain ⟨m1, m2, m3, ⟨m4, m4'⟩, -⟩ := hM
  obtain ⟨-, -, c, -, -, -, -, t⟩ := id h
  refine h.good0 hC0 (Fr.refl _ _ _) hM0 hD hO ?_
  obtain ⟨t1, t2, t3⟩ := t.fr c1 (by omega) (by omega)
  exact ⟨t1.fr m1 (by omega), ⟨t2.1, m4.trans t2.2.1, fun j hj => ⟨(t2.2.2 j hj).1, by rw [m1.i (by omega)]; exact (t2.2.2 j hj).2⟩⟩, m4' t3⟩
