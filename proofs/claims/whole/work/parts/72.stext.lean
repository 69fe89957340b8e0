-- needs: 71.stask
/-! texts, the past and the saved, in step -/
section SX
variable {G : Gx} {S0 S : SS} {x y : Nat}
theorem st_wipe (h : INV G S0 S x y) : Pair G S0 S x y P_X6_wipe P_X7_wipe [] := by
  intro F E hE hF
  obtain ⟨nx, kc, n, T, hR, hO, hM, hm, hd, hD, hs, hy⟩ := h.get
  obtain ⟨a, b, c, d, e, f, g, t1, t2, t3⟩ := hR
  have e1 : sI S (x + 214) 1 = nI n := t1.2.1
  have w1 : Fr S (stI S (x + 214) 1 (nI 0)) (x + 214) (x + 215) := (Fr.refl _ _ _).stI _ _ _ (by omega) (by omega)
  have w2 : Fr (stI S (x + 214) 1 (nI 0)) (stI (stI S (x + 214) 1 (nI 0)) y 6 (nI 0)) y (y + 1) := (Fr.refl _ _ _).stI _ _ _ (by omega) (by omega)
  refine ⟨hO.1, ?_⟩
  rw [e1]
  refine hE _ _ (hs.1.trans (w1.mono (by omega) (by omega))) ⟨w1.mod hM, ?_⟩
  rw [w1.i (show y < x + 214 ∨ x + 215 ≤ y by omega), t2.2.1]
  refine hF _ _ ⟨⟨nx, kc, 0, T, (a.fr w1 (by omega)).fr w2 (by omega), w2.mod (w1.mod b), c, ?_, ?_, (f.fr w1 (by omega) (by omega)).fr w2 (by omega) (by omega), (g.fr w1 (by omega) (by omega)).fr w2 (by omega) (by omega), ⟨by omega, ?_, fun j hj => absurd hj (by omega)⟩, ⟨by omega, ?_, fun j hj => absurd hj (by omega)⟩, ?_⟩, (hs.1.trans (w1.mono (by omega) (by omega))).trans (w2.mono (by omega) (by omega)), hs.2⟩
  · exact (((w2.dE (by omega)).trans (w1.dE (by omega))).trans d).trans ((Qs.fr w2 (by omega) 0).de.trans (Qs.fr w1 (by omega) 0).de).symm
  · rw [sI_stI, if_neg (by omega), w1.i (by omega)]; exact e
  · rw [w2.i (by omega)]
    show sI (stI S (x + 214) 1 (nI 0)) (x + 214) 1 = nI 0
    rw [sI_stI, if_pos ⟨rfl, rfl⟩]
  · rw [sI_stI, if_pos ⟨rfl, rfl⟩]
  · obtain ⟨a, ha, ea⟩ := t3
    refine ⟨a, ha, ?_⟩
    rw [sI_stI, if_neg (by omega), w1.i (by omega)]
    exact ea
theorem st_put (h : INV G S0 S x y) (u : Int64) : Pair G S0 S x y P_X6_put P_X7_put [.long u] := by
  intro F E hE hF
  obtain ⟨nx, kc, n, T, hR, hO, hM, hm, hd, hD, hs, hy⟩ := h.get
  obtain ⟨a, b, c, d, e, f, g, t1, t2, t3⟩ := id hR
  have e1 : sI S (x + 214) 1 = nI n := t1.2.1
  refine ⟨hO.1, n, t1.1, e1, fun q => ?_, fun q => ⟨fun q2 => ?_, fun q2 S' w1 p1 p2 => ?_⟩⟩
  · refine hE _ S hs.1 ⟨hM, n, t1.1, t2.2.1, fun _ => hF _ S h, fun q' => absurd q (by omega)⟩
  · refine hE _ S hs.1 ⟨hM, n, t1.1, t2.2.1, fun q' => absurd q' (by omega), fun _ => ⟨fun _ => hF _ S h, fun q' => absurd q' (by omega)⟩⟩
  · obtain ⟨m, hm8⟩ : ∃ m, m = chV u.toUInt64.toNat := ⟨_, rfl⟩
    rw [← hm8] at p1 p2 q q2
    refine hE _ S' (hs.1.trans (w1.mono (by omega) (by omega))) ⟨w1.mod hM, n, t1.1, by rw [w1.i (by omega)]; exact t2.2.1, fun q' => absurd q' (by omega), fun _ => ⟨fun q' => absurd q' (by omega), fun _ => ?_⟩⟩
    rw [← hm8]
    obtain ⟨U, hU⟩ : ∃ U, U = stI (stIA S' (y + 5) (txV (sI S' (y + 5)) n m u.toUInt64.toNat m)) y 6 (nI (n + m)) := ⟨_, rfl⟩
    rw [← hU]
    have w2 : Fr S' U y (y + 6) := by
      rw [hU]
      exact ((Fr.refl _ _ _).stIA _ _ (by omega) (by omega)).stI _ _ _ (by omega) (by omega)
    have uI : ∀ b, ¬ b = y → ¬ b = y + 5 → sI U b = sI S' b := fun b h1 h2 => by
      rw [hU]
      funext j
      rw [sI_stI, if_neg (by omega), sI_stIA, if_neg h2]
    have uF : sF U = sF S' := by rw [hU]; rfl
    have wQ : ∀ q, Qs S' U y q q := fun q => ⟨fun j hj => by rw [uI _ (by omega) (by omega)], fun j hj => by rw [uF]⟩
    have y6 : ∀ j, sI U y j = if j = 6 then nI (n + m) else sI S y j := fun j => by
      rw [hU, sI_stI]
      by_cases c : j = 6
      · rw [if_pos ⟨rfl, c⟩, if_pos c]
      · rw [if_neg (fun a => c a.2), if_neg c, sI_stIA, if_neg (by omega), w1.i (by omega)]
    have y5 : sI U (y + 5) = txV (sI S (y + 5)) n m u.toUInt64.toNat m := by
      rw [hU]
      funext j
      rw [sI_stI, if_neg (by omega), sI_stIA, if_pos rfl, w1.i (by omega)]
    have wD : ∀ d, d + 26 ≤ x + 214 ∨ x + 228 ≤ d → d + 26 ≤ y → DE (dV U d) (dV S d) := fun d h1 h2 => (w2.dE (by omega)).trans (w1.dE (by omega))
    have wM : ∀ q, DE (mV S y q) (mV U y q) := fun q => ((wQ q).de.trans (Qs.fr w1 (by omega) q).de).symm
    refine hF _ _ ⟨⟨nx, kc, n + m, fun j => if n ≤ j then byV u.toUInt64.toNat (m - 1 - (j - n)) else T j, (a.fr w1 (by omega)).fr w2 (by omega), w2.mod (w1.mod b), c, ((wD _ (by omega) (by omega)).trans d).trans (wM 0), ?_, fun j hj => ?_, fun j hj => ?_, ⟨q2, ?_, fun j hj => ⟨?_, ?_⟩⟩, ⟨q2, ?_, fun j hj => ⟨?_, ?_⟩⟩, ?_⟩, (hs.1.trans (w1.mono (by omega) (by omega))).trans (w2.mono (by omega) (by omega)), hs.2⟩
    · rw [y6, if_neg (by omega)]; exact e
    · obtain ⟨p, q⟩ := f j hj
      have hmm : (nx + 6 - j) % 7 < 7 := Nat.mod_lt _ (by omega)
      have e2 := wD (x + 29 + 26 * ((nx + 6 - j) % 7)) (by omega) (by omega)
      exact ⟨DOK.congr e2.symm p, (e2.trans q).trans (wM _)⟩
    · obtain ⟨p, q, r⟩ := g j hj
      have e2 := wD (x + 228 + 26 * j) (by omega) (by omega)
      rw [uI (x + 212) (by omega) (by omega), uI (y + 3) (by omega) (by omega), w1.i (show x + 212 < x + 214 ∨ x + 216 ≤ x + 212 by omega), w1.i (show y + 3 < x + 214 ∨ x + 216 ≤ y + 3 by omega)]
      exact ⟨p, q, fun q => ⟨DOK.congr e2.symm (r q).1, (e2.trans (r q).2).trans (wM _)⟩⟩
    · rw [uI _ (by omega) (by omega)]; exact p1
    · show (if n ≤ j then byV u.toUInt64.toNat (m - 1 - (j - n)) else T j) < 256
      split
      · exact byV_lt _ _
      · exact (t1.2.2 j (by omega)).1
    · rw [uI _ (by omega) (by omega)]
      show sI S' (x + 215) j = nI (if n ≤ j then byV u.toUInt64.toNat (m - 1 - (j - n)) else T j)
      rw [p2]
      unfold txV
      by_cases c : n ≤ j
      · rw [if_pos ⟨c, hj⟩, if_pos c]
      · rw [if_neg (fun a => c a.1), if_neg c]
        exact (t1.2.2 j (by omega)).2
    · rw [y6, if_pos rfl]
    · show (if n ≤ j then byV u.toUInt64.toNat (m - 1 - (j - n)) else T j) < 256
      split
      · exact byV_lt _ _
      · exact (t1.2.2 j (by omega)).1
    · show sI U (y + 5) j = nI (if n ≤ j then byV u.toUInt64.toNat (m - 1 - (j - n)) else T j)
      rw [y5]
      unfold txV
      by_cases c : n ≤ j
      · rw [if_pos ⟨c, hj⟩, if_pos c]
      · rw [if_neg (fun a => c a.1), if_neg c]
        exact (t2.2.2 j (by omega)).2
    · obtain ⟨a, ha, ea⟩ := t3
      exact ⟨a, ha, by rw [y6, if_neg (by omega)]; exact ea⟩
/-- the class's reader has read; nothing else -/
theorem REL.ro {S' : SS} {nx kc n i : Nat} {T : Nat → Nat} {es : List Ent} (h : REL S x y nx kc n T) (hF : RO S S' (x + 213) 0 i es) : REL S' x y nx kc n T := by
  obtain ⟨a, b, c, d, e, f, g, t1, t2, t3⟩ := h
  obtain ⟨w1, r1, r2, -⟩ := hF
  refine ⟨a.fr w1 (by omega), w1.mod b, c, ((w1.dE (by omega)).trans d).trans (Qs.fr w1 (by omega) 0).de.symm, by rw [w1.i (by omega)]; exact e, f.fr w1 (by omega) (by omega), g.fr w1 (by omega) (by omega), ⟨t1.1, by rw [r1]; exact t1.2.1, fun j hj => ⟨(t1.2.2 j hj).1, by rw [r2]; exact (t1.2.2 j hj).2⟩⟩, t2.fr w1 (by omega), by rw [w1.i (by omega)]; exact t3⟩
/-- the reference's reader has read -/
theorem REL.num {nx kc n : Nat} {T : Nat → Nat} {g : Nat → Int32} (h : REL S x y nx kc n T) (h1 : ∀ k, k < 7 → g k = sI S y k) (h2 : FO g) : REL (stIA S y g) x y nx kc n T := by
  obtain ⟨a, b, c, d, e, f, gg, t1, t2, t3⟩ := h
  have w1 : Fr S (stIA S y g) y (y + 1) := (Fr.refl _ _ _).stIA _ _ (by omega) (by omega)
  refine ⟨a.fr w1 (by omega), w1.mod b, c, ((w1.dE (by omega)).trans d).trans (Qs.fr w1 (by omega) 0).de.symm, ?_, f.fr w1 (by omega) (by omega), gg.fr w1 (by omega) (by omega), t1.fr w1 (by omega), t2.up (h1 6 (by omega)), ?_⟩
  · rw [sI_stIA, if_pos rfl, h1 2 (by omega)]; exact e
  · rw [sI_stIA, if_pos rfl]; exact h2
theorem st_fault (h : INV G S0 S x y) : Pair G S0 S x y P_X6_fault P_X7_fault [] := by
  intro F E hE hF
  obtain ⟨nx, kc, n, T, hR, hO, hM, hm, hd, hD, hs, hy⟩ := h.get
  refine ⟨hO.1, T, n, hR.2.2.2.2.2.2.2.1, fun S' i hRO => ?_⟩
  have hR' := hR.ro hRO
  have f1 : Fr S0 S' x (y + 6) := hs.1.trans (hRO.1.mono (by omega) (by omega))
  refine hE _ S' f1 ⟨T, n, hR'.2.1, hR'.2.2.2.2.2.2.2.2.1, hR'.2.2.2.2.2.2.2.2.2, fun g g1 g2 => hF _ _ ⟨⟨_, _, _, _, hR'.num g1 g2⟩, f1.stIA _ _ (by omega) (by omega), hs.2⟩⟩
end SX
