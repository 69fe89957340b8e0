-- needs: 69.same
/-! one call of the class, then the same call of the reference -/
def INVs (G : Gx) (S0 S : SS) (x y : Nat) : Prop := Fr S0 S x (y + 6) ∧ GC G S0 ∧ (G.2.2.1 0).1 < x ∧ (G.2.2.1 1).1 < x
def INV (G : Gx) (S0 S : SS) (x y : Nat) : Prop := (∃ nx kc n T, REL S x y nx kc n T) ∧ INVs G S0 S x y
abbrev Pair (G : Gx) (S0 S : SS) (x y : Nat) (P Q : PT) (as : List Value) : Prop := ∀ (F : Int32 → Option Value → SS → Prop) (E : Option Value → SS → Prop), (∀ n S1, Fr S0 S1 x (y + 6) → Q (.ref y :: as) S1 (F n) → E (some (.int n)) S1) → (∀ n S2, INV G S0 S2 x y → F n (some (.int n)) S2) → P (.ref x :: as) S E
section ST
variable {G : Gx} {S0 S : SS} {x y : Nat}
theorem INVs.bad {S' : SS} {nx kc n : Nat} {T : Nat → Nat} {D : DV} (hs : INVs G S0 S x y) (h : REL S x y nx kc n T) (hC : Chg S S' x nx kc D false) (hD : DE D (dV S (x + 1))) : INV G S0 S' x y ∧ MOK S' y kc ∧ DE D (mV S' y 0) ∧ Fr S0 S' x (y + 6) := by
  have hR := h.bad hC hD
  have hy := h.2.2.1
  have hF : Fr S0 S' x (y + 6) := hs.1.trans (hC.1.mono (by omega) (by omega))
  exact ⟨⟨⟨_, _, _, _, hR⟩, hF, hs.2⟩, hR.mok, (hD.trans h.2.2.2.1).trans (Qs.fr hC.1 (by omega) 0).de.symm, hF⟩
theorem INVs.good {S' : SS} {nx kc n : Nat} {T : Nat → Nat} {D D' : DV} (hs : INVs G S0 S x y) (h : REL S x y nx kc n T) (hC : Chg S S' x nx kc D' true) (hD : DE D (dV S (x + 1))) : MOK S' y kc ∧ DE D (mV S' y 0) ∧ Fr S0 S' x (y + 6) ∧ ∀ U M, MChg S' U y kc M (sI S' y 6) → DE D' M → DOK D' → INV G S0 U x y := by
  have hy := h.2.2.1
  have hF : Fr S0 S' x (y + 6) := hs.1.trans (hC.1.mono (by omega) (by omega))
  have hm : DE (mV S' y 0) (mV S y 0) := (Qs.fr hC.1 (by omega) 0).de
  obtain ⟨k1, k2, k3, k4⟩ := h.mok
  exact ⟨⟨hC.1.mod k1, DOK.congr hm.symm k2, k3, by rw [hC.1.i (by omega)]; exact k4⟩, (hD.trans h.2.2.2.1).trans hm.symm, hF, fun U M hM hE hO => ⟨⟨_, _, _, _, h.good hC hM rfl hE hO⟩, hF.trans (hM.1.mono (by omega) (by omega)), hs.2⟩⟩
theorem st_lay (h : INV G S0 S x y) (p : Int32) : Pair G S0 S x y P_X6_lay P_X7_lay [.int p] := by
  intro F E hE hF
  obtain ⟨⟨nx, kc, n, T, hR⟩, hs⟩ := h
  refine ⟨nx, kc, hR.1, fun D hD => ?_⟩
  have hO : DOK D := DOK.congr hD.symm hR.1.2.1
  refine cl_lay (K := fun v D' ok => ∀ S', Chg S S' x nx kc D' ok → E (some (.int v)) S') hO (fun v ev h0 _ S' hC => ?_) (fun h0 _ D' hD' S' hC => ?_)
  · obtain ⟨i1, i2, i3, i4⟩ := hs.bad hR hC hD
    refine hE v S' i4 ⟨kc, i2, fun _ => ?_, fun a => ?_⟩
    · rw [← erLay_de i3, ← ev]; exact hF v S' i1
    · rw [← erLay_de i3, ← ev] at a; exact absurd a h0
  · obtain ⟨i2, i3, i4, i5⟩ := hs.good hR hC hD
    refine hE _ S' i4 ⟨kc, i2, fun a => ?_, fun _ U hU => ?_⟩
    · rw [← erLay_de i3] at a; exact absurd h0 a
    · rw [← i3.dk']
      exact hF _ U (i5 U _ hU (hD'.trans (neLay_de i3 p)) (DOK.congr hD'.symm (hO.lay h0)))
theorem st_writer (h : INV G S0 S x y) (p : Int32) : Pair G S0 S x y P_X6_writer P_X7_writer [.int p] := by
  intro F E hE hF
  obtain ⟨⟨nx, kc, n, T, hR⟩, hs⟩ := h
  refine ⟨nx, kc, hR.1, fun D hD => ?_⟩
  have hO : DOK D := DOK.congr hD.symm hR.1.2.1
  refine cl_join (K := fun v D' ok => ∀ S', Chg S S' x nx kc D' ok → E (some (.int v)) S') hO (fun v ev h0 _ S' hC => ?_) (fun h0 m hm em D' hD' S' hC => ?_)
  · obtain ⟨i1, i2, i3, i4⟩ := hs.bad hR hC hD
    refine hE v S' i4 ⟨kc, i2, fun _ => ?_, fun a => ?_⟩
    · rw [← erJoin_de i3, ← ev]; exact hF v S' i1
    · rw [← erJoin_de i3, ← ev] at a; exact absurd a h0
  · obtain ⟨i2, i3, i4, i5⟩ := hs.good hR hC hD
    refine hE _ S' i4 ⟨kc, i2, fun a => ?_, fun _ m' hm' em' U hU => ?_⟩
    · rw [← erJoin_de i3] at a; exact absurd h0 a
    · rw [← i3.pp', em] at em'
      rw [← em']
      exact hF _ U (i5 U _ hU (hD'.trans (neJoin_de i3 p)) (DOK.congr hD'.symm (hO.join h0)))
theorem st_plate (h : INV G S0 S x y) : Pair G S0 S x y P_X6_plate P_X7_plate [] := by
  intro F E hE hF
  obtain ⟨⟨nx, kc, n, T, hR⟩, hs⟩ := h
  refine ⟨nx, kc, hR.1, fun D hD => ?_⟩
  have hO : DOK D := DOK.congr hD.symm hR.1.2.1
  obtain ⟨k1, k2⟩ := cl_come (K := fun v D' ok => ∀ S', Chg S S' x nx kc D' ok → E (some (.int v)) S') hO (fun v ev h0 _ S' hC => by
    obtain ⟨i1, i2, i3, i4⟩ := hs.bad hR hC hD
    refine hE v S' i4 ⟨kc, i2, fun _ => ?_, fun a => ?_⟩
    · rw [← erCome_de i3, ← ev]; exact hF v S' i1
    · rw [← erCome_de i3, ← ev] at a; exact absurd a h0) (fun h0 m hm em D' hD' S' hC => by
    obtain ⟨i2, i3, i4, i5⟩ := hs.good hR hC hD
    refine hE _ S' i4 ⟨kc, i2, fun a => ?_, fun _ m' hm' em' U hU => ?_⟩
    · rw [← erCome_de i3] at a; exact absurd h0 a
    · rw [← i3.pl', em] at em'
      rw [← em']
      exact hF _ U (i5 U _ hU (hD'.trans (neCome_de i3 hm em)) (DOK.congr hD'.symm (hO.come h0))))
  exact ⟨k1, fun m hm em S' N hN => k2 m hm em N hN S'⟩
theorem st_pass (h : INV G S0 S x y) (m : Int32) : Pair G S0 S x y P_X6_pass P_X7_pass [.int m] := by
  intro F E hE hF
  obtain ⟨⟨nx, kc, n, T, hR⟩, hs⟩ := h
  refine ⟨nx, kc, hR.1, fun D hD => ?_⟩
  have hO : DOK D := DOK.congr hD.symm hR.1.2.1
  refine cl_pass (K := fun v D' ok => ∀ S', Chg S S' x nx kc D' ok → E (some (.int v)) S') (fun v ev h0 _ S' hC => ?_) (fun h0 _ D' hD' S' hC => ?_)
  · obtain ⟨i1, i2, i3, i4⟩ := hs.bad hR hC hD
    refine hE v S' i4 ⟨kc, i2, fun _ => ?_, fun a => ?_⟩
    · rw [← erPass_de i3, ← ev]; exact hF v S' i1
    · rw [← erPass_de i3, ← ev] at a; exact absurd a h0
  · obtain ⟨i2, i3, i4, i5⟩ := hs.good hR hC hD
    refine hE _ S' i4 ⟨kc, i2, fun a => ?_, fun _ U hU => ?_⟩
    · rw [← erPass_de i3] at a; exact absurd h0 a
    · rw [← i3.hr']
      exact hF _ U (i5 U _ hU (hD'.trans (nePass_de i3 m)) (DOK.congr hD'.symm (hO.pass h0)))
theorem st_write (h : INV G S0 S x y) (w r c t : Int32) : Pair G S0 S x y P_X6_write P_X7_write [.int w, .int r, .int c, .int t] := by
  intro F E hE hF
  obtain ⟨⟨nx, kc, n, T, hR⟩, hs⟩ := h
  refine ⟨nx, kc, hR.1, fun D hD => ?_⟩
  have hO : DOK D := DOK.congr hD.symm hR.1.2.1
  refine cl_write (K := fun v D' ok => ∀ S', Chg S S' x nx kc D' ok → E (some (.int v)) S') (fun v ev h0 _ S' hC => ?_) (fun h0 D' hD' S' hC => ?_)
  · obtain ⟨i1, i2, i3, i4⟩ := hs.bad hR hC hD
    refine hE v S' i4 ⟨kc, i2, fun _ => ?_, fun a => ?_⟩
    · rw [← erWrite_de i3 hO, ← ev]; exact hF v S' i1
    · rw [← erWrite_de i3 hO, ← ev] at a; exact absurd a h0
  · obtain ⟨i2, i3, i4, i5⟩ := hs.good hR hC hD
    obtain ⟨c1, c2, c3, c4, -⟩ := erWrite_0 h0
    obtain ⟨wn, hwn, ew⟩ := hO.wr c1.1 c1.2
    obtain ⟨v1, v2⟩ := vaWrite_de i3 hO w r c t hwn ew c2
    refine hE _ S' i4 ⟨kc, i2, fun a => ?_, fun _ U hU => ?_⟩
    · rw [← erWrite_de i3 hO] at a; exact absurd h0 a
    · rw [← v1]
      exact hF _ U (i5 U _ hU (hD'.trans v2) (DOK.congr hD'.symm (hO.write h0)))
theorem st_promise (h : INV G S0 S x y) (w r c : Int32) : Pair G S0 S x y P_X6_promise P_X7_promise [.int w, .int r, .int c] := by
  intro F E hE hF
  obtain ⟨⟨nx, kc, n, T, hR⟩, hs⟩ := h
  refine ⟨nx, kc, hR.1, fun D hD => ?_⟩
  have hO : DOK D := DOK.congr hD.symm hR.1.2.1
  refine cl_prom (K := fun v D' ok => ∀ S', Chg S S' x nx kc D' ok → E (some (.int v)) S') (fun v ev h0 _ S' hC => ?_) (fun h0 D' hD' S' hC => ?_)
  · obtain ⟨i1, i2, i3, i4⟩ := hs.bad hR hC hD
    refine hE v S' i4 ⟨kc, i2, fun _ => ?_, fun a => ?_⟩
    · rw [← erProm_de i3 hO, ← ev]; exact hF v S' i1
    · rw [← erProm_de i3 hO, ← ev] at a; exact absurd a h0
  · obtain ⟨i2, i3, i4, i5⟩ := hs.good hR hC hD
    obtain ⟨v1, v2⟩ := vaProm_de i3 hO w r c (erProm_0 h0).2.1
    refine hE _ S' i4 ⟨kc, i2, fun a => ?_, fun _ U hU => ?_⟩
    · rw [← erProm_de i3 hO] at a; exact absurd h0 a
    · rw [← v1]
      exact hF _ U (i5 U _ hU (hD'.trans v2) (DOK.congr hD'.symm (hO.prom h0)))
theorem st_rub (h : INV G S0 S x y) (r c : Int32) : Pair G S0 S x y P_X6_rub P_X7_rub [.int r, .int c] := by
  intro F E hE hF
  obtain ⟨⟨nx, kc, n, T, hR⟩, hs⟩ := h
  refine ⟨nx, kc, hR.1, fun D hD => ?_⟩
  have hO : DOK D := DOK.congr hD.symm hR.1.2.1
  refine cl_rub (K := fun v D' ok => ∀ S', Chg S S' x nx kc D' ok → E (some (.int v)) S') (fun v ev h0 _ S' hC => ?_) (fun h0 D' hD' S' hC => ?_)
  · obtain ⟨i1, i2, i3, i4⟩ := hs.bad hR hC hD
    refine hE v S' i4 ⟨kc, i2, fun _ => ?_, fun a => ?_⟩
    · rw [← erRub_de i3 hO, ← ev]; exact hF v S' i1
    · rw [← erRub_de i3 hO, ← ev] at a; exact absurd a h0
  · obtain ⟨i2, i3, i4, i5⟩ := hs.good hR hC hD
    obtain ⟨v1, v2⟩ := vaRub_de i3 hO r c (erRub_0 h0).2.1 (erRub_0 h0).1
    refine hE _ S' i4 ⟨kc, i2, fun a => ?_, fun _ U hU => ?_⟩
    · rw [← erRub_de i3 hO] at a; exact absurd h0 a
    · rw [← v1]
      exact hF _ U (i5 U _ hU (hD'.trans v2) (DOK.congr hD'.symm (hO.rub h0)))
theorem st_takeBack (h : INV G S0 S x y) (r c : Int32) : Pair G S0 S x y P_X6_takeBack P_X7_takeBack [.int r, .int c] := by
  intro F E hE hF
  obtain ⟨⟨nx, kc, n, T, hR⟩, hs⟩ := h
  refine ⟨nx, kc, hR.1, fun D hD => ?_⟩
  have hO : DOK D := DOK.congr hD.symm hR.1.2.1
  refine cl_back (K := fun v D' ok => ∀ S', Chg S S' x nx kc D' ok → E (some (.int v)) S') (fun v ev h0 _ S' hC => ?_) (fun h0 D' hD' S' hC => ?_)
  · obtain ⟨i1, i2, i3, i4⟩ := hs.bad hR hC hD
    refine hE v S' i4 ⟨kc, i2, fun _ => ?_, fun a => ?_⟩
    · rw [← erBack_de i3 hO, ← ev]; exact hF v S' i1
    · rw [← erBack_de i3 hO, ← ev] at a; exact absurd a h0
  · obtain ⟨i2, i3, i4, i5⟩ := hs.good hR hC hD
    obtain ⟨v1, v2⟩ := vaBack_de i3 hO r c (erBack_0 h0).2.1 (erBack_0 h0).1
    refine hE _ S' i4 ⟨kc, i2, fun a => ?_, fun _ U hU => ?_⟩
    · rw [← erBack_de i3 hO] at a; exact absurd h0 a
    · rw [← v1]
      exact hF _ U (i5 U _ hU (hD'.trans v2) (DOK.congr hD'.symm (hO.back h0)))
theorem st_set (h : INV G S0 S x y) (s v : Int32) : Pair G S0 S x y (P_X6_set G) P_X7_set [.int s, .int v] := by
  intro F E hE hF
  obtain ⟨⟨nx, kc, n, T, hR⟩, hs⟩ := h
  have hGC : GC G S := hs.2.1.fr hs.1 hs.2.2.1 hs.2.2.2
  refine ⟨nx, kc, hR.1, hGC, hs.2.2.1, hs.2.2.2, fun D hD => ?_⟩
  have hO : DOK D := DOK.congr hD.symm hR.1.2.1
  have uni : ∀ {a b : Nat}, a < 4 → b < 4 → s = nI a → s = nI b → b = a := fun ha hb e1 e2 => by
    rw [e1, nI_eq (by omega) (by omega)] at e2
    omega
  have out : ∀ {a : Nat}, a < 4 → s = nI a → ¬ (s < nI 0 ∨ nI 3 < s) := fun ha e q => by
    subst e
    rcases q with q | q
    · rw [nI_ltI (by omega) (by omega)] at q; omega
    · rw [nI_ltI (by omega) (by omega)] at q; omega
  refine ⟨fun q S' hC => ?_, fun k hk ek q S' hC => ?_, fun k hk ek q S' hC => ?_⟩
  · obtain ⟨i1, i2, i3, i4⟩ := hs.bad hR hC hD
    exact hE _ S' i4 ⟨kc, i2, fun _ => hF _ S' i1, fun k hk ek _ => hF _ S' i1, fun k hk ek => absurd q (out hk ek)⟩
  · obtain ⟨i1, i2, i3, i4⟩ := hs.bad hR hC hD
    refine hE _ S' i4 ⟨kc, i2, fun _ => hF _ S' i1, fun k hk ek _ => hF _ S' i1, fun k' hk' ek' q' => ?_⟩
    have := uni hk hk' ek ek'
    subst this
    exact absurd q q'
  · obtain ⟨i2, i3, i4, i5⟩ := hs.good hR hC hD
    refine hE _ S' i4 ⟨kc, i2, fun a => absurd a (out hk ek), fun k' hk' ek' q' => ?_, fun k' hk' ek' q' U hU => ?_⟩
    · have := uni hk hk' ek ek'
      subst this
      exact absurd q' q
    · have := uni hk hk' ek ek'
      subst this
      rw [← i3.1 _ hk]
      exact hF _ U (i5 U _ hU (i3.hst _ v) (hO.set hk q))
end ST
