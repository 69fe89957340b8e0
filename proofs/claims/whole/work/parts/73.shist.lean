-- needs: 72.stext
/-! orders, undo, save, restore in step -/
theorem paP_len (X : Nat → Nat) (n : Nat) : ∀ f i, i ≤ n → (paP X n f i).2.length ≤ n - i
  | 0, i, _ => Nat.zero_le _
  | f + 1, i, hi => by
    obtain ⟨l1, l2, l3, -⟩ := orP_le (T := X) (n := n) (i := i) hi
    have e : paP X n (f + 1) i = if (orP X n i).1 = true then (if (orP X n i).2.1 < n then (if chP X n (orP X n i).2.1 = 59 then ((paP X n f ((orP X n i).2.1 + 1)).1, (orP X n i).2.2 ++ (paP X n f ((orP X n i).2.1 + 1)).2) else (nI (orP X n i).2.1, (orP X n i).2.2)) else (mI 6, (orP X n i).2.2)) else (nI (orP X n i).2.1, []) := rfl
    rw [e]
    by_cases c1 : (orP X n i).1 = true
    · rw [if_pos c1]
      by_cases c2 : (orP X n i).2.1 < n
      · rw [if_pos c2]
        by_cases c3 : chP X n (orP X n i).2.1 = 59
        · rw [if_pos c3]
          have := paP_len X n f ((orP X n i).2.1 + 1) (by omega)
          show ((orP X n i).2.2 ++ (paP X n f ((orP X n i).2.1 + 1)).2).length ≤ n - i
          rw [List.length_append]
          omega
        · rw [if_neg c3]
          show (orP X n i).2.2.length ≤ n - i
          omega
      · rw [if_neg c2]
        show (orP X n i).2.2.length ≤ n - i
        omega
    · rw [if_neg c1]
      exact Nat.zero_le _
section SH
variable {G : Gx} {S0 S : SS} {x y : Nat}
theorem fin_fr (V : SS) (x nx kc : Nat) : Fr (stI (stI V (x + 27) 1 (nI ((nx + 1) % 7))) (x + 27) 2 (nI (min (kc + 1) 6))) (finS V x nx kc) (x + 214) (x + 215) ∧ sI (finS V x nx kc) (x + 214) 1 = nI 0 := by
  refine ⟨⟨rfl, rfl, rfl, fun a ha => ⟨?_, rfl⟩⟩, ?_⟩
  · funext j
    unfold finS
    simp only [sI_stI, show ¬ a = x + 213 + 1 from by omega, false_and, if_false]
  · unfold finS
    rw [sI_stI, if_neg (by omega), sI_stI, if_neg (by omega), sI_stI, if_pos ⟨rfl, rfl⟩]
theorem st_carryOut (h : INV G S0 S x y) : Pair G S0 S x y P_X6_carryOut P_X7_carryOut [] := by
  intro F E hE hF
  obtain ⟨nx, kc, n, T, hR, hO, hM, hm, hd, hD, hs, hy⟩ := h.get
  refine ⟨nx, kc, T, n, hR.1, hR.2.2.2.2.2.2.2.1, fun c S' i hRO => ?_, fun c => ⟨Nat.le_trans (paP_len T n 81 0 (Nat.zero_le _)) (by have := hR.2.2.2.2.2.2.2.1.1; omega), fun P0 P1 i hRO hP => ?_⟩⟩
  · have hR' := hR.ro hRO
    have f1 : Fr S0 S' x (y + 6) := hs.1.trans (hRO.1.mono (by omega) (by omega))
    exact hE _ S' f1 ⟨kc, T, n, hR'.mok, hR'.2.2.2.2.2.2.2.2.1, hR'.2.2.2.2.2.2.2.2.2, fun _ g g1 g2 => hF _ _ ⟨⟨_, _, _, _, hR'.num g1 g2⟩, f1.stIA _ _ (by omega) (by omega), hs.2⟩, fun a => absurd a c⟩
  · have hR0 := hR.ro hRO
    have hn := hR0.1.2.2.1
    have hk := hR0.1.2.2.2.1
    have p0 : DE (dV P1 (x + 1)) (dV P0 (x + 1)) := hP.de hn
    have hO1 : DOK (dV P1 (x + 1)) := DOK.congr p0.symm hR0.1.2.1
    have f0 : Fr S0 P0 x (y + 6) := hs.1.trans (hRO.1.mono (by omega) (by omega))
    have f1 : Fr S0 P1 x (y + 6) := f0.trans (hP.1.mono (by omega) (by omega))
    refine CaP_of _ 0 _ hO1 (fun D' hD' V hV hE' => ?_)
    have hC : Chg P0 (stI (stI V (x + 27) 1 (nI ((nx + 1) % 7))) (x + 27) 2 (nI (min (kc + 1) 6))) x nx kc D' true := Chg.good hn hP hV hE'
    obtain ⟨fw, f14⟩ := fin_fr V x nx kc
    have cF := hC.1
    have wq : ∀ b, b < x + 1 ∨ x + 215 ≤ b → sI (finS V x nx kc) b = sI P0 b := fun b hb => by rw [fw.i (by omega), cF.i (by omega)]
    have wM : ∀ q, DE (mV P0 y q) (mV (finS V x nx kc) y q) := fun q => ((Qs.fr fw (by omega) q).de.trans (Qs.fr cF (by omega) q).de).symm
    have dm : DE (dV P1 (x + 1)) (mV (finS V x nx kc) y 0) := (p0.trans hR0.2.2.2.1).trans (wM 0)
    obtain ⟨r1, r2, r3, r4⟩ := rE_de (paP T n 81 0).2 0 dm hO1
    have fF : Fr S0 (finS V x nx kc) x (y + 6) := (f0.trans (cF.mono (by omega) (by omega))).trans (fw.mono (by omega) (by omega))
    obtain ⟨k1, k2, k3, k4⟩ := hR0.mok
    obtain ⟨t1, t2, t3⟩ := hR0.2.2.2.2.2.2.2
    refine hE _ _ fF ⟨kc, T, n, ⟨fw.mod (cF.mod k1), DOK.congr (wM 0) k2, k3, by rw [wq _ (by omega)]; exact k4⟩, (t2.fr cF (by omega)).fr fw (by omega), by rw [wq _ (by omega)]; exact t3, fun a => absurd c a, fun _ U hU => ?_⟩
    rw [← r1]
    have hU0 := hU
    obtain ⟨m1, m2, m3, ⟨m4, m5⟩, -⟩ := hU
    refine hF _ U ⟨⟨_, _, 0, T, hR0.good0 hC fw hU0 (hD'.trans r2) (DOK.congr hD'.symm r4) ⟨⟨by omega, ?_, fun j hj => absurd hj (by omega)⟩, ⟨by omega, m4, fun j hj => absurd hj (by omega)⟩, m5 (by rw [wq _ (by omega)]; exact t3)⟩⟩, fF.trans (m1.mono (by omega) (by omega)), hs.2⟩
    rw [m1.i (by omega)]
    exact f14
theorem st_undo (h : INV G S0 S x y) : Pair G S0 S x y P_X6_undo P_X7_undo [] := by
  intro F E hE hF
  obtain ⟨nx, kc, n, T, hR, hO, hM, hm, hd, hD, hs, hy⟩ := h.get
  obtain ⟨a, b, c, d, e, f, g, t⟩ := id hR
  have hn := a.2.2.1
  have hk := a.2.2.2.1
  have p0 : 0 < kc → DOK (dV S (x + 29 + 26 * ((nx + 6) % 7))) ∧ DE (dV S (x + 29 + 26 * ((nx + 6) % 7))) (mV S y kc) := fun q => f 0 q
  refine ⟨nx, kc, a, fun q => (p0 q).1, fun q => ?_, fun q S' w1 wE => ?_⟩
  · exact hE _ S hs.1 ⟨kc, hM, hk, e, fun _ => hF _ S h, fun q' => absurd q' (by omega)⟩
  · have w0 : Fr S (stI (stI S (x + 27) 1 (nI ((nx + 6) % 7))) (x + 27) 2 (nI (kc - 1))) (x + 27) (x + 28) := ((Fr.refl _ _ _).stI _ _ _ (by omega) (by omega)).stI _ _ _ (by omega) (by omega)
    have wS : Fr S S' (x + 1) (x + 28) := (w0.mono (by omega) (by omega)).trans (w1.mono (by omega) (by omega))
    have f1 : Fr S0 S' x (y + 6) := hs.1.trans (wS.mono (by omega) (by omega))
    refine hE _ S' f1 ⟨kc, wS.mod hM, hk, by rw [wS.i (by omega)]; exact e, fun q' => absurd q' (by omega), fun _ U u1 u2 u3 u4 => ?_⟩
    have dU : DE (dV U (x + 1)) (dV S (x + 29 + 26 * ((nx + 6) % 7))) := (u1.dE (by omega)).trans wE
    have wM : ∀ q, DE (mV S y q) (mV S' y q) := fun q => (Qs.fr wS (by omega) q).de.symm
    have s27 : ∀ j, sI U (x + 27) j = if j = 2 then nI (kc - 1) else if j = 1 then nI ((nx + 6) % 7) else sI S (x + 27) j := fun j => by
      rw [u1.i (by omega), w1.i (by omega), sI_stI, sI_stI]
      simp only [true_and]
    refine hF _ U ⟨⟨(nx + 6) % 7, kc - 1, n, T, ⟨(a.1.fr wS).fr u1, DOK.congr dU.symm (p0 q).1, Nat.mod_lt _ (by omega), by omega, by rw [s27]; rfl, by rw [s27]; rfl⟩, u1.mod (wS.mod b), c, (dU.trans (p0 q).2).trans ((wM kc).trans u3.de.symm), by rw [u2]; rfl, fun j hj => ?_, fun j hj => ?_, ?_⟩, f1.trans (u1.mono (by omega) (by omega)), hs.2⟩
    · obtain ⟨p, q⟩ := f (j + 1) (by omega)
      have en : ((nx + 6) % 7 + 6 - j) % 7 = (nx + 6 - (j + 1)) % 7 := by omega
      rw [en]
      have hmm : (nx + 6 - (j + 1)) % 7 < 7 := Nat.mod_lt _ (by omega)
      have e1 := (u1.dE (d := x + 29 + 26 * ((nx + 6 - (j + 1)) % 7)) (by omega)).trans (wS.dE (by omega))
      rw [show kc - (j + 1) = kc - 1 - j by omega] at q
      exact ⟨DOK.congr e1.symm p, (e1.trans q).trans ((wM _).trans (u4 _ (by omega)).de.symm)⟩
    · obtain ⟨p, q, r⟩ := g j hj
      have e1 := (u1.dE (d := x + 228 + 26 * j) (by omega)).trans (wS.dE (by omega))
      rw [u1.i (show x + 212 < y ∨ y + 3 ≤ x + 212 by omega), wS.i (show x + 212 < x + 1 ∨ x + 28 ≤ x + 212 by omega), u1.i (show y + 3 < y ∨ y + 3 ≤ y + 3 by omega), wS.i (show y + 3 < x + 1 ∨ x + 28 ≤ y + 3 by omega)]
      exact ⟨p, q, fun q => ⟨DOK.congr e1.symm (r q).1, (e1.trans (r q).2).trans ((wM _).trans (u4 _ (by omega)).de.symm)⟩⟩
    · obtain ⟨t1, t2, t3⟩ := t.fr wS (by omega) (by omega)
      refine ⟨t1.fr u1 (by omega), ⟨t2.1, by rw [u2]; exact t2.2.1, fun j hj => ⟨(t2.2.2 j hj).1, by rw [u1.i (by omega)]; exact (t2.2.2 j hj).2⟩⟩, ?_⟩
      obtain ⟨a, ha, ea⟩ := t3
      exact ⟨a, ha, by rw [u2]; exact ea⟩
theorem slot_no {s : Int32} {j : Nat} (hj : j < 2) (e : s = nI j) : ¬ (s < nI 0 ∨ nI 2 ≤ s) := fun q => by
  subst e
  rcases q with q | q
  · rw [nI_ltI (by omega) (by omega)] at q; omega
  · rw [nI_leI (by omega) (by omega)] at q; omega
theorem slot_is {s : Int32} {j : Nat} (hj : j < 2) (e : s = nI j) : s = nI 0 ∨ s = nI 1 := by
  subst e
  match j, hj with
  | 0, _ => exact Or.inl rfl
  | 1, _ => exact Or.inr rfl
theorem slot_out {s : Int32} (q : s < nI 0 ∨ nI 2 ≤ s) : ¬ (s = nI 0 ∨ s = nI 1) := fun z => z.elim (fun z => slot_no (j := 0) (by omega) z q) (fun z => slot_no (j := 1) (by omega) z q)
theorem st_save (h : INV G S0 S x y) (s : Int32) : Pair G S0 S x y P_X6_save P_X7_save [.int s] := by
  intro F E hE hF
  obtain ⟨nx, kc, n, T, hR, hO, hM, hm, hd, hD, hs, hy⟩ := h.get
  obtain ⟨a, b, c, d, e, f, g, t⟩ := id hR
  have hn := a.2.2.1
  have hk := a.2.2.2.1
  refine ⟨hO, fun q => hE _ S hs.1 ⟨hM, fun _ => hF _ S h, fun j hj ej => absurd q (slot_no hj ej)⟩, fun i hi ei S' w1 wE => ?_⟩
  have w2 : Fr S' (stI S' (x + 212) i (nI 1)) (x + 212) (x + 213) := (Fr.refl _ _ _).stI _ _ _ (by omega) (by omega)
  have w3 : Fr S (stI S' (x + 212) i (nI 1)) (x + 212) (x + 280) := (w1.mono (by omega) (by omega)).trans (w2.mono (by omega) (by omega))
  have f1 : Fr S0 (stI S' (x + 212) i (nI 1)) x (y + 6) := hs.1.trans (w3.mono (by omega) (by omega))
  obtain ⟨W, hW⟩ : ∃ W, W = stI S' (x + 212) i (nI 1) := ⟨_, rfl⟩
  have wi : ∀ j, sI W (x + 212) j = if j = i then nI 1 else sI S (x + 212) j := fun j => by
    rw [hW, sI_stI, w1.i (by omega)]
    simp only [true_and]
  have wj : ∀ b, ¬ b = x + 212 → sI W b = sI S' b := fun b hb => by
    rw [hW]
    funext j
    rw [sI_stI, if_neg (by omega)]
  have wd : ∀ d, d + 26 ≤ x + 212 ∨ x + 213 ≤ d → DE (dV W d) (dV S' d) := fun d h => by
    rw [hW]
    exact w2.dE (by omega)
  rw [← hW] at w2 w3 f1 ⊢
  have wM : ∀ q, DE (mV S y q) (mV W y q) := fun q => (Qs.fr w3 (by omega) q).de.symm
  refine hE _ W f1 ⟨w3.mod hM, fun q => absurd (slot_is hi ei) q, fun j hj ej U u1 u2 u3 => ?_⟩
  have ij := nI_uni (by omega) (by omega) ei ej
  subst ij
  have epl : (mV W y 0).pl = (dV S (x + 1)).pl := ((wM 0).pl'.symm).trans hd.pl'.symm
  rw [epl]
  have u4 : Fr U (stI U (y + 3) j (nI 1)) (y + 3) (y + 4) := (Fr.refl _ _ _).stI _ _ _ (by omega) (by omega)
  obtain ⟨Z, hZ⟩ : ∃ Z, Z = stI U (y + 3) j (nI 1) := ⟨_, rfl⟩
  have zi : ∀ k, sI Z (y + 3) k = if k = j then nI 1 else sI S (y + 3) k := fun k => by
    rw [hZ, sI_stI, u1.i (by omega), w3.i (by omega)]
    simp only [true_and]
  rw [← hZ] at u4 ⊢
  have u5 : Fr W Z (y + 1) (y + 4) := (u1.mono (by omega) (by omega)).trans (u4.mono (by omega) (by omega))
  have zQ : ∀ q, Qs U Z y q q := fun q => Qs.fr u4 (by omega) q
  have zM : ∀ q, ¬ q = 7 + j → DE (mV S y q) (mV Z y q) := fun q hq => (wM q).trans ((zQ q).de.trans (u3 q hq).de).symm
  have z7 : DE (mV S y 0) (mV Z y (7 + j)) := (wM 0).trans ((zQ _).de.trans u2.de).symm
  have zd : ∀ d, d + 26 ≤ x + 212 ∨ x + 213 ≤ d → d + 26 ≤ y + 1 → DE (dV Z d) (dV S' d) := fun d h1 h2 => (u5.dE (by omega)).trans (wd d h1)
  refine hF _ Z ⟨⟨nx, kc, n, T, (a.fr w3 (by omega)).fr u5 (by omega), u5.mod (w3.mod b), c, ?_, ?_, fun k hk' => ?_, fun k hk' => ?_, ((t.fr (w1.mono (Nat.le_refl _) (Nat.le_refl _)) (by omega) (by omega)).fr (hW ▸ (Fr.refl S' (x + 212) (x + 213)).stI _ _ _ (by omega) (by omega)) (by omega) (by omega)).fr u5 (by omega) (by omega)⟩, f1.trans (u5.mono (by omega) (by omega)), hs.2⟩
  · exact (((zd _ (by omega) (by omega)).trans (w1.dE (by omega))).trans d).trans (zM 0 (by omega))
  · rw [u5.i (by omega), w3.i (by omega)]; exact e
  · obtain ⟨p, q⟩ := f k hk'
    have hmm : (nx + 6 - k) % 7 < 7 := Nat.mod_lt _ (by omega)
    have e1 := (zd (x + 29 + 26 * ((nx + 6 - k) % 7)) (by omega) (by omega)).trans (w1.dE (by omega))
    exact ⟨DOK.congr e1.symm p, (e1.trans q).trans (zM _ (by omega))⟩
  · obtain ⟨p, q, r⟩ := g k hk'
    rw [zi, u5.i (show x + 212 < y + 1 ∨ y + 4 ≤ x + 212 by omega), wi]
    by_cases kj : k = j
    · subst kj
      rw [if_pos rfl, if_pos rfl]
      have e1 := (zd (x + 228 + 26 * k) (by omega) (by omega)).trans wE
      exact ⟨Or.inr rfl, rfl, fun _ => ⟨DOK.congr e1.symm hD, (e1.trans d).trans z7⟩⟩
    · rw [if_neg kj, if_neg kj]
      have e1 := (zd (x + 228 + 26 * k) (by omega) (by omega)).trans (w1.dE (by omega))
      exact ⟨p, q, fun z => ⟨DOK.congr e1.symm (r z).1, (e1.trans (r z).2).trans (zM _ (by omega))⟩⟩
theorem st_restore (h : INV G S0 S x y) (s : Int32) : Pair G S0 S x y P_X6_restore P_X7_restore [.int s] := by
  intro F E hE hF
  obtain ⟨nx, kc, n, T, hR, hO, hM, hm, hd, hD, hs, hy⟩ := h.get
  have g := hR.2.2.2.2.2.2.1
  have ok : ∀ {S' : SS}, (∀ j, sI S' (y + 3) j = sI S (y + 3) j) → ∀ j, j < 2 → sI S' (y + 3) j = nI 0 ∨ sI S' (y + 3) j = nI 1 := fun e j hj => by
    rw [e, (g j hj).2.1]; exact (g j hj).1
  have n01 : ¬ nI 0 = nI 1 := by rw [nI_eq (by omega) (by omega)]; omega
  refine ⟨nx, kc, hR.1, fun j hj => (g j hj).1, fun j hj q => ((g j hj).2.2 q).1, fun q => ?_, fun j hj ej => ⟨fun q => ?_, fun q S' hC => ?_⟩⟩
  · exact hE _ S hs.1 ⟨kc, hR.mok, ok (fun _ => rfl), fun _ => hF _ S h, fun j hj ej => absurd q (slot_no hj ej)⟩
  · refine hE _ S hs.1 ⟨kc, hR.mok, ok (fun _ => rfl), fun z => absurd (slot_is hj ej) z, fun i hi ei => ⟨fun _ => hF _ S h, fun z => ?_⟩⟩
    have ij := nI_uni (by omega) (by omega) ej ei
    subst ij
    rw [(g i hi).2.1, q] at z
    exact absurd z n01
  · obtain ⟨i2, i3, i4, i5⟩ := hs.good hR hC (DE.refl _)
    have e3 : ∀ k, sI S' (y + 3) k = sI S (y + 3) k := fun k => by rw [hC.1.i (by omega)]
    refine hE _ S' i4 ⟨kc, i2, ok e3, fun z => absurd (slot_is hj ej) z, fun i hi ei => ⟨fun z => ?_, fun z U hU => ?_⟩⟩
    · have ij := nI_uni (by omega) (by omega) ej ei
      subst ij
      rw [e3, (g i hi).2.1, q] at z
      exact absurd z.symm n01
    · have ij := nI_uni (by omega) (by omega) ej ei
      subst ij
      obtain ⟨g1, g2⟩ := (g i hi).2.2 q
      have em : DE (dV S (x + 228 + 26 * i)) (mV S' y (7 + i)) := g2.trans (Qs.fr hC.1 (by omega) _).de.symm
      rw [← em.pl']
      exact hF _ U (i5 U _ hU em g1)
end SH
