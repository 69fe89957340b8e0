-- needs: 70.step
/-! one question to the class, then the same to the reference -/
section SQ
variable {G : Gx} {S0 S : SS} {x y : Nat}
theorem on_uni {D : DV} {p q : Nat} (h : OnD D p) (k : OnD D q) : q = p := by
  have e := h.1
  have h2 := h.2.1
  have k2 := k.2.1
  rw [k.1, nI_eq (by omega) (by omega)] at e
  exact e
theorem nI_uni {r : Int32} {a b : Nat} (ha : a < 1000) (hb : b < 1000) (e1 : r = nI a) (e2 : r = nI b) : b = a := by
  rw [e1, nI_eq (by omega) (by omega)] at e2
  exact e2.symm
theorem on_no {D : DV} {p a b : Nat} {r c : Int32} (q : D.dk = mI 6 ∨ ¬ Pl r c) (hp : OnD D p) (ha : a < 10) (hb : b < 12) (e1 : r = nI a) (e2 : c = nI b) : False :=
  q.elim (fun z => by rw [hp.1] at z; exact nI_ne_mI (by have := hp.2.1; omega) (by omega) (by omega) z) (fun z => z (kP_of ha hb e1 e2).2)
theorem on_no1 {D : DV} {p : Nat} (q : D.dk = mI 6) (hp : OnD D p) : False := by
  rw [hp.1] at q
  exact nI_ne_mI (by have := hp.2.1; omega) (by omega) (by omega) q
theorem INV.get (h : INV G S0 S x y) : ∃ nx kc n T, REL S x y nx kc n T ∧ OwnD S x ∧ ModAt S y ∧ DOK (mV S y 0) ∧ DE (dV S (x + 1)) (mV S y 0) ∧ DOK (dV S (x + 1)) ∧ INVs G S0 S x y ∧ x + 280 ≤ y := by
  obtain ⟨⟨nx, kc, n, T, hR⟩, hs⟩ := h
  exact ⟨nx, kc, n, T, hR, ⟨hR.1.1, hR.1.2.1⟩, hR.2.1, hR.mok.2.1, hR.2.2.2.1, hR.1.2.1, hs, hR.2.2.1⟩
theorem INVs.ask {S' : SS} {nx kc n : Nat} {T : Nat → Nat} (hs : INVs G S0 S x y) (h : REL S x y nx kc n T) (hF : Fr S S' (x + 221) (x + 228)) : INV G S0 S' x y ∧ ModAt S' y ∧ DOK (mV S' y 0) ∧ DE (dV S (x + 1)) (mV S' y 0) ∧ Fr S0 S' x (y + 6) := by
  have hy := h.2.2.1
  have hR := h.ask hF (by omega)
  have hF' : Fr S0 S' x (y + 6) := hs.1.trans (hF.mono (by omega) (by omega))
  exact ⟨⟨⟨_, _, _, _, hR⟩, hF', hs.2⟩, hR.2.1, hR.mok.2.1, h.2.2.2.1.trans (Qs.fr hF (by omega) 0).de.symm, hF'⟩
theorem INV.sm {S' : SS} (h : INV G S0 S x y) (hS : Sm S S' y) : INV G S0 S' x y := by
  obtain ⟨⟨nx, kc, n, T, hR⟩, hs⟩ := h
  have hy := hR.2.2.1
  exact ⟨⟨_, _, _, _, hR.sm hS⟩, hs.1.trans (hS.1.mono (by omega) (by omega)), hs.2⟩
theorem st_at (h : INV G S0 S x y) (r c w : Int32) : Pair G S0 S x y P_X6_at P_X7_at [.int r, .int c, .int w] := by
  intro F E hE hF
  obtain ⟨nx, kc, n, T, hR, hO, hM, hm, hd, hD, hs, -⟩ := h.get
  refine ⟨hO, fun q => hE _ S hs.1 ⟨hM, hm, fun _ => hF _ S h, fun p a b hp ha hb e1 e2 => (on_no q (hd.symm.onD hp) ha hb e1 e2).elim⟩, fun p a b hp ha hb e1 e2 => hE _ S hs.1 ⟨hM, hm, fun q => (on_no q (hd.onD hp) ha hb e1 e2).elim, fun p' a' b' hp' ha' hb' e1' e2' => ?_⟩⟩
  rw [on_uni hp (hd.symm.onD hp'), nI_uni (by omega) (by omega) e1 e1', nI_uni (by omega) (by omega) e2 e2', ← atV_de hd hD hp (by omega) w]
  exact hF _ S h
theorem st_row (h : INV G S0 S x y) (r q : Int32) : Pair G S0 S x y P_X6_row P_X7_row [.int r, .int q] := by
  intro F E hE hF
  obtain ⟨nx, kc, n, T, hR, hO, hM, hm, hd, hD, hs, -⟩ := h.get
  have no : ∀ {D : DV} {p a : Nat}, (D.dk = mI 6 ∨ ¬ (0 ≤ r ∧ r < nI 10)) → OnD D p → a < 10 → r = nI a → False := fun z hp ha e => z.elim (fun z => on_no1 z hp) (fun z => z (by subst e; exact ⟨nI_pos' (by omega), (nI_ltI (by omega) (by omega)).mpr ha⟩))
  refine ⟨hO, fun z => hE _ S hs.1 ⟨hM, hm, fun _ => hF _ S h, fun p a hp ha e1 => (no z (hd.symm.onD hp) ha e1).elim⟩, fun p a hp ha e1 => hE _ S hs.1 ⟨hM, hm, fun z => (no z (hd.onD hp) ha e1).elim, fun p' a' hp' ha' e1' => ?_⟩⟩
  rw [on_uni hp (hd.symm.onD hp'), nI_uni (by omega) (by omega) e1 e1', ← rowV_de hd hD hp ha q]
  exact hF _ S h
theorem st_of (h : INV G S0 S x y) (w q : Int32) : Pair G S0 S x y P_X6_of P_X7_of [.int w, .int q] := by
  intro F E hE hF
  obtain ⟨nx, kc, n, T, hR, hO, hM, hm, hd, hD, hs, -⟩ := h.get
  refine ⟨hO, fun z => hE _ S hs.1 ⟨hM, hm, fun _ => hF _ S h, fun wn n h0 h1 => absurd ⟨h0, hd.pp'.symm ▸ h1⟩ z⟩, fun wn n h0 h1 ew hw hn en => hE _ S hs.1 ⟨hM, hm, fun z => absurd ⟨h0, hd.pp' ▸ h1⟩ z, fun wn' n' h0' h1' ew' hw' hn' en' => ?_⟩⟩
  rw [nI_uni (by omega) (by omega) ew ew', nI_uni (by omega) (by omega) en (hd.pl'.trans en'), ← ofV_de hd hD hn en, ← ofV_de hd hD hn en, ← ofV_de hd hD hn en, ← (hd.2.1 wn hw).1, ← (hd.2.1 wn hw).2.1, ← (hd.2.1 wn hw).2.2]
  exact hF _ S h
theorem pl_no {D : DV} {p : Int32} {pn : Nat} (z : ¬ (0 ≤ p ∧ p < D.pl)) (e : p = nI pn) (h4 : pn < 4) (hl : nI pn < D.pl) : False := z (by subst e; exact ⟨nI_pos' (by omega), hl⟩)
theorem st_ofPlate (h : INV G S0 S x y) (p q : Int32) : Pair G S0 S x y P_X6_ofPlate P_X7_ofPlate [.int p, .int q] := by
  intro F E hE hF
  obtain ⟨nx, kc, n, T, hR, hO, hM, hm, hd, hD, hs, -⟩ := h.get
  refine ⟨hO, fun z => hE _ S hs.1 ⟨hM, hm, fun _ => hF _ S h, fun pn e h4 hl => (pl_no z e h4 (hd.pl'.symm ▸ hl)).elim⟩, fun pn e h4 hl => hE _ S hs.1 ⟨hM, hm, fun z => (pl_no z e h4 (hd.pl' ▸ hl)).elim, fun pn' e' h4' hl' => ?_⟩⟩
  have g := hd.2.2.2.2.2.2 pn hl h4
  rw [nI_uni (by omega) (by omega) e e', ← leF_congr (fun j hj => (g j hj).1), ← suF_congr (fun j hj => (g j hj).1), ← isC_ds hd.ds g (hD.2.2.2.2 pn hl h4)]
  exact hF _ S h
theorem st_count (h : INV G S0 S x y) (w : Int32) : Pair G S0 S x y P_X6_count P_X7_count [.int w] := by
  intro F E hE hF
  obtain ⟨nx, kc, n, T, hR, hO, hM, hm, hd, hD, hs, -⟩ := h.get
  refine ⟨hO.1, hE _ S hs.1 ⟨hM, ?_⟩⟩
  have e1 : sI S (x + 214) 1 = nI n := hR.2.2.2.2.2.2.2.1.2.1
  rw [hR.2.2.2.2.2.2.2.2.1.2.1, hR.2.2.2.2.1, e1, hR.1.2.2.2.2.2, ← cntV_de hd]
  exact hF _ S h
theorem st_ifWritten (h : INV G S0 S x y) (w r c q : Int32) : Pair G S0 S x y P_X6_ifWritten P_X7_ifWritten [.int w, .int r, .int c, .int q] := by
  intro F E hE hF
  obtain ⟨nx, kc, n, T, hR, hO, hM, hm, hd, hD, hs, -⟩ := h.get
  have no : ∀ {D : DV} {p a b : Nat}, (¬ (0 ≤ w ∧ w < D.pp) ∨ D.dk = mI 6 ∨ ¬ Pl r c) → OnD D p → a < 10 → b < 12 → r = nI a → c = nI b → 0 ≤ w → w < D.pp → False := fun z hp ha hb e1 e2 w1 w2 => z.elim (fun z => z ⟨w1, w2⟩) (fun z => on_no z hp ha hb e1 e2)
  refine ⟨hO, fun z => hE _ S hs.1 ⟨hM, hm, fun _ => hF _ S h, fun p a b wn hp ha hb e1 e2 w1 w2 => (no z (hd.symm.onD hp) ha hb e1 e2 w1 (hd.pp'.symm ▸ w2)).elim⟩, fun p a b wn hp ha hb e1 e2 w1 w2 ew hw S' hF' => ?_⟩
  obtain ⟨i1, i2, i3, i4, i5⟩ := hs.ask hR hF'
  refine hE _ S' i5 ⟨i2, i3, fun z => (no z (i4.onD hp) ha hb e1 e2 w1 (i4.pp' ▸ w2)).elim, fun p' a' b' wn' hp' ha' hb' e1' e2' w1' w2' ew' hw' U hU => ?_⟩
  rw [on_uni hp (i4.symm.onD hp'), nI_uni (by omega) (by omega) e1 e1', nI_uni (by omega) (by omega) e2 e2', nI_uni (by omega) (by omega) ew ew', ← iwV_ds i4.ds hD.1 (i4.gg hp) (hD.gg hp) hw q]
  exact hF _ U (i1.sm hU)
theorem st_bestPlace (h : INV G S0 S x y) : Pair G S0 S x y P_X6_bestPlace P_X7_bestPlace [] := by
  intro F E hE hF
  obtain ⟨nx, kc, n, T, hR, hO, hM, hm, hd, hD, hs, -⟩ := h.get
  refine ⟨hO, fun z => hE _ S hs.1 ⟨hM, hm, fun _ => hF _ S h, fun p hp => (on_no1 z (hd.symm.onD hp)).elim⟩, fun p hp S' hF' => ?_⟩
  obtain ⟨i1, i2, i3, i4, i5⟩ := hs.ask hR hF'
  refine hE _ S' i5 ⟨i2, i3, fun z => (on_no1 z (i4.onD hp)).elim, fun p' hp' => ?_⟩
  rw [on_uni hp (i4.symm.onD hp'), ← bestV_ds i4.ds (i4.gg hp) (hD.gg hp) 120 (Nat.le_refl _)]
  exact hF _ S' i1
theorem st_fills (h : INV G S0 S x y) (w : Int32) : Pair G S0 S x y P_X6_fills P_X7_fills [.int w] := by
  intro F E hE hF
  obtain ⟨nx, kc, n, T, hR, hO, hM, hm, hd, hD, hs, -⟩ := h.get
  have no : ∀ {D : DV} {p : Nat}, (¬ (0 ≤ w ∧ w < D.pp) ∨ D.dk = mI 6) → OnD D p → 0 ≤ w → w < D.pp → False := fun z hp w1 w2 => z.elim (fun z => z ⟨w1, w2⟩) (fun z => on_no1 z hp)
  refine ⟨hO, fun z => hE _ S hs.1 ⟨hM, hm, fun _ => hF _ S h, fun p wn hp w1 w2 => (no z (hd.symm.onD hp) w1 (hd.pp'.symm ▸ w2)).elim⟩, fun p wn hp w1 w2 ew hw S' hF' => ?_⟩
  obtain ⟨i1, i2, i3, i4, i5⟩ := hs.ask hR hF'
  refine hE _ S' i5 ⟨i2, i3, fun z => (no z (i4.onD hp) w1 (i4.pp' ▸ w2)).elim, fun p' wn' hp' w1' w2' ew' hw' U hU => ?_⟩
  rw [on_uni hp (i4.symm.onD hp'), nI_uni (by omega) (by omega) ew ew', ← (fiV_ds i4.ds hD.1 (i4.gg hp) (hD.gg hp) hw 120).2.2]
  exact hF _ U (i1.sm hU)
theorem st_whoDims (h : INV G S0 S x y) (r c : Int32) : Pair G S0 S x y P_X6_whoDims P_X7_whoDims [.int r, .int c] := by
  intro F E hE hF
  obtain ⟨nx, kc, n, T, hR, hO, hM, hm, hd, hD, hs, -⟩ := h.get
  refine ⟨hO, fun q => hE _ S hs.1 ⟨hM, hm, fun _ => hF _ S h, fun p a b n hp ha hb e1 e2 => (on_no q (hd.symm.onD hp) ha hb e1 e2).elim⟩, fun p a b n hp ha hb e1 e2 hn en => hE _ S hs.1 ⟨hM, hm, fun q => (on_no q (hd.onD hp) ha hb e1 e2).elim, fun p' a' b' n' hp' ha' hb' e1' e2' hn' en' => ?_⟩⟩
  rw [on_uni hp (hd.symm.onD hp'), nI_uni (by omega) (by omega) e1 e1', nI_uni (by omega) (by omega) e2 e2', nI_uni (by omega) (by omega) en (hd.pp'.trans en'), ← whoS_ds hd.ds (hd.gg hp) _ n hn]
  exact hF _ S h
theorem st_readableIn (h : INV G S0 S x y) (p : Int32) : Pair G S0 S x y P_X6_readableIn P_X7_readableIn [.int p] := by
  intro F E hE hF
  obtain ⟨nx, kc, n, T, hR, hO, hM, hm, hd, hD, hs, -⟩ := h.get
  refine ⟨hO, fun z => hE _ S hs.1 ⟨hM, hm, fun _ => hF _ S h, fun pn e h4 hl => (pl_no z e h4 (hd.pl'.symm ▸ hl)).elim⟩, fun pn e h4 hl => hE _ S hs.1 ⟨hM, hm, fun z => (pl_no z e h4 (hd.pl' ▸ hl)).elim, fun pn' e' h4' hl' U hU => ?_⟩⟩
  have g := hd.2.2.2.2.2.2 pn hl h4
  rw [nI_uni (by omega) (by omega) e e', ← mostV_ds hd.ds g 120 (Nat.le_refl _)]
  exact hF _ U (h.sm hU)
abbrev PairL (G : Gx) (S0 S : SS) (x y : Nat) (P Q : PT) (as : List Value) : Prop := ∀ (F : Int64 → Option Value → SS → Prop) (E : Option Value → SS → Prop), (∀ n S1, Fr S0 S1 x (y + 6) → Q (.ref y :: as) S1 (F n) → E (some (.long n)) S1) → (∀ n S2, INV G S0 S2 x y → F n (some (.long n)) S2) → P (.ref x :: as) S E
theorem st_mean (h : INV G S0 S x y) : PairL G S0 S x y P_X6_mean P_X7_mean [] := by
  intro F E hE hF
  obtain ⟨nx, kc, n, T, hR, hO, hM, hm, hd, hD, hs, -⟩ := h.get
  refine ⟨hO, fun z => hE _ S hs.1 ⟨hM, hm, fun _ => hF _ S h, fun p hp => (on_no1 z (hd.symm.onD hp)).elim⟩, fun p hp => hE _ S hs.1 ⟨hM, hm, fun z => (on_no1 z (hd.onD hp)).elim, fun p' hp' => ?_⟩⟩
  have g := hd.gg hp
  rw [on_uni hp (hd.symm.onD hp'), ← smD_congr (fun j hj => (g j hj).1)]
  exact hF _ S h
end SQ
