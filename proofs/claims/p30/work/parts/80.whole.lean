-- needs: 79.mid 78.loop
/-! the law comes to its end with true -/
theorem sbn_forget {s s' : State} {L : List Loc} {k n : Nat} (h : s.sameButNew s' L k n) (hL : ∀ q ∈ L, s.heap.size ≤ q.base) : s.sameButNew s' [] k n := by
  obtain ⟨h1, h2, h3, h4, h5, h6⟩ := h
  refine ⟨h1, h2, h3, h4, h5, fun a c ha => ?_⟩
  obtain ⟨c', e1, e2, e3, e4⟩ := h6 a c ha
  refine ⟨c', e1, e2, e3, fun i _ => e4 i (fun hm => ?_)⟩
  have h7 : s.heap.size ≤ a := hL _ hm
  exact absurd (Array.getElem?_eq_some_iff.mp ha).1 (Nat.not_lt.mpr h7)
theorem whole_start {p : Program} {e : Env} {s : State} {m : MethodId} {below : List Frame} {meth : Method} {c : Code} (l : Launch) (hflags : l.flags = flags0) {b L : Nat} {xs : Nat → Int32} (hL : L ≤ 260) (C0 : lw_At p s m meth c b L xs) : W p l e room_1 s m #[Value.ref b] below meth c s.heap [] 0 0 (lw_Z below #[Value.ref b] s) (entryFrame m ([Value.ref b] : List Value).toArray 10) := by
  obtain ⟨hx, hb, hr, hml, hown, hts, hX, hbl, hlocks, hgv⟩ := C0
  obtain ⟨G, S, g1, g2, g3, g4, g5, g6, g7, g8⟩ := start_G hL hts hX hbl hgv
  have hv := lw_begin (l := l) (E := fun v _ => v = some (.int (nI 1))) g5 hL (by rw [g4]; exact hbl) g6 (by rw [g4]; exact g7) (by rw [g4]; exact g8) (fun _ => rfl)
  have hw := hv p e s m #[Value.ref b] below meth c ⟨hx, hb, hml, hown, fun w hw => hts w (all_tbl hw), g1, by rw [g2]; exact Nat.le_refl _⟩ (fun h => absurd h (by decide)) hr hlocks
  have hk := hw s.heap [] _ g3 va_S.rf (ent_h [Value.ref b] (n := 10) (Nat.le_of_ble_eq_true rfl))
  rw [lg_entry_eq]
  intro T hT X
  obtain ⟨t, a1, o, b1, b2, ⟨⟨v, S', hvo, hE, hR'⟩, hF⟩, L', ⟨c1, c2, c3⟩, hfree⟩ := hk T hT X
  refine ⟨t, a1, o, b1, b2, ?_, lw_closed (d0 := s.drawn) (Drawn.sameBut.refl _ _) c1 c2 (sbn_forget c3 (fun q hq => ?_))⟩
  · rw [hvo, hE]
    rfl
  · have h := hfree q hq
    unfold gA at h
    rw [g2] at h
    exact h
