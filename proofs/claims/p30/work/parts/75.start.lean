-- needs: 73.shist
/-! what stands at the law's entry -/
theorem inX0 : ∀ w ∈ u_ws RX0 TX0 9, w ∈ lw_tbl := by decide +kernel
theorem inX1 : ∀ w ∈ u_ws RX1 TX1 4, w ∈ lw_tbl := by decide +kernel
theorem inX2 : ∀ w ∈ u_ws RX2 TX2 3, w ∈ lw_tbl := by decide +kernel
theorem inX3 : ∀ w ∈ u_ws RX3 TX3 12, w ∈ lw_tbl := by decide +kernel
theorem inX4 : ∀ w ∈ u_ws RX4 TX4 2, w ∈ lw_tbl := by decide +kernel
theorem inX5 : ∀ w ∈ u_ws RX5 TX5 2, w ∈ lw_tbl := by decide +kernel
theorem inX6 : ∀ w ∈ u_ws RX6 TX6 6, w ∈ lw_tbl := by decide +kernel
section SA
variable {s : State} {b : Addr}
theorem start_cls (hts : ∀ w ∈ lw_tbl, w.before #[Value.ref b] s = true) : ∃ D : va_G, ∀ (c : Nat) (q : vw_C), vwCl[c]? = some q → u_Kn s q.1 q.2.1 q.2.2 (D.1 c) (D.2 c) := by
  obtain ⟨c0, i0, k0⟩ := u_known (n := 9) hts inX0 (hts (.instantiable RX0 9) (by decide +kernel))
  obtain ⟨c1, i1, k1⟩ := u_known (n := 4) hts inX1 (hts (.instantiable RX1 4) (by decide +kernel))
  obtain ⟨c2, i2, k2⟩ := u_known (n := 3) hts inX2 (hts (.instantiable RX2 3) (by decide +kernel))
  obtain ⟨c3, i3, k3⟩ := u_known (n := 12) hts inX3 (hts (.instantiable RX3 12) (by decide +kernel))
  obtain ⟨c4, i4, k4⟩ := u_known (n := 2) hts inX4 (hts (.instantiable RX4 2) (by decide +kernel))
  obtain ⟨c5, i5, k5⟩ := u_known (n := 2) hts inX5 (hts (.instantiable RX5 2) (by decide +kernel))
  obtain ⟨c6, i6, k6⟩ := u_known (n := 6) hts inX6 (hts (.instantiable RX6 6) (by decide +kernel))
  refine ⟨(fun k => if k = 0 then c0 else if k = 1 then c1 else if k = 2 then c2 else if k = 3 then c3 else if k = 4 then c4 else if k = 5 then c5 else c6,
    fun k => if k = 0 then i0 else if k = 1 then i1 else if k = 2 then i2 else if k = 3 then i3 else if k = 4 then i4 else if k = 5 then i5 else i6), fun k q hq => ?_⟩
  match k, hq with
  | 0, hq => cases hq; exact k0
  | 1, hq => cases hq; exact k1
  | 2, hq => cases hq; exact k2
  | 3, hq => cases hq; exact k3
  | 4, hq => cases hq; exact k4
  | 5, hq => cases hq; exact k5
  | 6, hq => cases hq; exact k6
  | k + 7, hq => simp at hq
theorem start_arr {ty : FieldType} (h : (Cond.arrayClass ty).before #[Value.ref b] s = true) (hty : ∀ C, ty ≠ .object C) : ∃ cA, ArrOfT s cA ty ∧ va_RA s cA ty := by
  obtain ⟨cA, kA, comp, h1, h2, h3⟩ := Cond.arrayClass_spec h
  refine ⟨cA, fun n z => ⟨fun k h => (by cases h), kA, h2, comp, h3⟩, ?_⟩
  cases ty with
  | object C => exact absurd rfl (hty C)
  | _ => exact h1
theorem start_over {C : String} (h : (Cond.arrayOver (.object C)).before #[Value.ref b] s = true) : ∃ cA, ArrOfT s cA (.object C) ∧ va_RA s cA (.object C) := by
  obtain ⟨comp, c, k, h1, h2, h3, h4, h5⟩ := Cond.arrayOver_spec h
  exact ⟨c, fun n z => ⟨fun k h => (by cases h), k, h3, comp, h4⟩, k, comp, h3, h4, h1, h5⟩
theorem start_K (hts : ∀ w ∈ lw_tbl, w.before #[Value.ref b] s = true) : ∃ (D : va_G) (A : Nat → ClassId), ∀ (g : Nat → Nat × Nat × (Nat → Int32)) (z : Nat), va_K D vwCl (gTys (D, A, g, z)) s := by
  obtain ⟨D, hD⟩ := start_cls hts
  obtain ⟨a8, h8⟩ := start_arr (hts (.arrayClass .int) (by decide +kernel)) (fun C => by simp)
  obtain ⟨a9, h9⟩ := start_arr (hts (.arrayClass .float) (by decide +kernel)) (fun C => by simp)
  obtain ⟨a10, h10⟩ := start_arr (hts (.arrayClass .boolean) (by decide +kernel)) (fun C => by simp)
  obtain ⟨a11, h11⟩ := start_arr (hts (.arrayClass .char) (by decide +kernel)) (fun C => by simp)
  obtain ⟨a12, h12⟩ := start_over (hts (.arrayOver (.object "PlateWriters$Desk")) (by decide +kernel))
  obtain ⟨a13, h13⟩ := start_over (hts (.arrayOver (.object "PlateWriters$Glass")) (by decide +kernel))
  refine ⟨D, fun k => if k = 8 then a8 else if k = 9 then a9 else if k = 10 then a10 else if k = 11 then a11 else if k = 12 then a12 else a13, fun g z => ⟨hD, fun k q hq => ?_⟩⟩
  match k, hq with
  | 0, hq => cases hq; exact h8
  | 1, hq => cases hq; exact h9
  | 2, hq => cases hq; exact h10
  | 3, hq => cases hq; exact h11
  | 4, hq => cases hq; exact h12
  | 5, hq => cases hq; exact h13
  | k + 6, hq => simp [gTys] at hq
theorem start_nest (hts : ∀ w ∈ lw_tbl, w.before #[Value.ref b] s = true) : ∀ w ∈ nestW, va_Nw w s := by
  intro w hw
  obtain ⟨h1, h2⟩ := List.mem_filter.mp hw
  have h := hts w h1
  cases w with
  | methodLinkNest a i y h' => exact va_Nw.of rfl h
  | fieldLinkNest a i c n d h' => exact va_Nw.of rfl h
  | _ => exact absurd h2 (by simp)
abbrev stLe : Term := Jvm.Term.static "PlateWriters" "LEAST_OF_SETTING" "[I"
abbrev stMo : Term := Jvm.Term.static "PlateWriters" "MOST_OF_SETTING" "[I"
theorem start_row {tm : Term} {f : Nat → Int32} {A : Nat → Prop} (harr : (Cond.arrayOf tm .int).before #[Value.ref b] s = true) (hlen : (Cond.eq (.length tm) (.int 4)).before #[Value.ref b] s = true) (h0 : (Cond.eq (.elem tm (.int 0)) (.int (f 0))).before #[Value.ref b] s = true) (h1 : (Cond.eq (.elem tm (.int 1)) (.int (f 1))).before #[Value.ref b] s = true) (h2 : (Cond.eq (.elem tm (.int 2)) (.int (f 2))).before #[Value.ref b] s = true) (h3 : (Cond.eq (.elem tm (.int 3)) (.int (f 3))).before #[Value.ref b] s = true) (hA : ∀ a : Nat, a < s.heap.size → ¬ A a) :
    ∃ t : Nat, tm.eval #[Value.ref b] s none [] s = some (.ref t) ∧ va_T .int t 4 (fun j => .int (f j)) A s s.heap := by
  refine va_Tof (by omega) harr (va_eqt hlen) (fun j hj => ?_) hA
  match j, hj with
  | 0, _ => exact va_eqt h0
  | 1, _ => exact va_eqt h1
  | 2, _ => exact va_eqt h2
  | 3, _ => exact va_eqt h3
theorem start_ne {tm : Term} {t : Nat} (h : (Cond.not (.eq (.arg 0) tm)).before #[Value.ref b] s = true) (ht : tm.eval #[Value.ref b] s none [] s = some (.ref t)) : ¬ b = t := by
  intro e
  subst e
  have ha : (Term.arg 0).eval #[Value.ref b] s none [] s = some (.ref b) := rfl
  simp [Cond.before, Cond.holds, Cond.value, ha, ht] at h
theorem va_T_ne {t u : Nat} {f g : Nat → Int32} {A B : Nat → Prop} (h : va_T .int t 4 (fun j => .int (f j)) A s s.heap) (k : va_T .int u 4 (fun j => .int (g j)) B s s.heap) (hn : ¬ f 0 = g 0) : ¬ u = t := by
  intro e
  subst e
  obtain ⟨c1, h1, -, -, -, -, h5, -⟩ := h
  obtain ⟨c2, k1, -, -, -, -, k5, -⟩ := k
  cases h1.symm.trans k1
  have e := (h5 0 (by omega)).symm.trans (k5 0 (by omega))
  injection e with e
  injection e with e
  exact hn e
theorem start_script {L : Nat} {xs : Nat → Int32} (hL : L ≤ 260) (hX : va_X b L xs s s.heap) (hbl : b < s.heap.size) : va_T .int b L (fun j => .int (xs j)) (fun q => s.heap.size ≤ q) s s.heap := by
  obtain ⟨scr, h1, h2, h3, h4, h5⟩ := hX
  exact ⟨scr, h1, h2, h3, by omega, by rw [h4], h5, Nat.not_le.mpr hbl⟩
def startS (t0 t1 b L z : Nat) (xs : Nat → Int32) : SS := (fun a => if a = t0 then some (14, 4) else if a = t1 then some (15, 4) else if a = b then some (16, L) else none, fun _ _ => none, z, fun a j => if a = t0 then nI (leastK j) else if a = t1 then nI (mostK j) else xs j, fun _ _ => FP.fconst0)
theorem start_G {L : Nat} {xs : Nat → Int32} (hL : L ≤ 260) (hts : ∀ w ∈ lw_tbl, w.before #[Value.ref b] s = true) (hX : va_X b L xs s s.heap) (hbl : b < s.heap.size) (hgv : (Jvm.Cond.and given_1 narrow_1).before #[Value.ref b] s = true) :
    ∃ (G : Gx) (S : SS), gOK G s s.heap ∧ G.2.2.2 = s.heap.size ∧ Rep G S s.heap ∧ sZ S = s.heap.size ∧ sK S b = some (16, L) ∧ GC G S ∧ (G.2.2.1 0).1 < s.heap.size ∧ (G.2.2.1 1).1 < s.heap.size := by
  obtain ⟨D, A, hK⟩ := start_K hts
  have hf := flat_of_before _ hgv
  have hA : ∀ a : Nat, a < s.heap.size → ¬ (fun q => s.heap.size ≤ q) a := fun a ha => Nat.not_le.mpr ha
  obtain ⟨t0, e0, T0⟩ := start_row (tm := stLe) (f := fun j => nI (leastK j)) (hf _ (by decide +kernel)) (hf _ (by decide +kernel)) (hf _ (by decide +kernel)) (hf _ (by decide +kernel)) (hf _ (by decide +kernel)) (hf _ (by decide +kernel)) hA
  obtain ⟨t1, e1, T1⟩ := start_row (tm := stMo) (f := fun j => nI (mostK j)) (hf _ (by decide +kernel)) (hf _ (by decide +kernel)) (hf _ (by decide +kernel)) (hf _ (by decide +kernel)) (hf _ (by decide +kernel)) (hf _ (by decide +kernel)) hA
  have Tb := start_script hL hX hbl
  have n0 : ¬ b = t0 := start_ne (hf _ (by decide +kernel)) e0
  have n1 : ¬ b = t1 := start_ne (hf _ (by decide +kernel)) e1
  have n2 : ¬ t1 = t0 := va_T_ne T0 T1 (by decide)
  have z0 := va_Zref (hts (.laysStatic "PlateWriters" "LEAST_OF_SETTING" "[I") (by decide +kernel)) (hts (.initialized "PlateWriters") (by decide +kernel)) e0 hA
  have z1 := va_Zref (hts (.laysStatic "PlateWriters" "MOST_OF_SETTING" "[I") (by decide +kernel)) (hts (.initialized "PlateWriters") (by decide +kernel)) e1 hA
  have lt0 : t0 < s.heap.size := by obtain ⟨c, h1, -⟩ := T0; exact (Array.getElem?_eq_some_iff.mp h1).1
  have lt1 : t1 < s.heap.size := by obtain ⟨c, h1, -⟩ := T1; exact (Array.getElem?_eq_some_iff.mp h1).1
  refine ⟨(D, A, fun i => if i = 0 then (t0, 4, fun j => nI (leastK j)) else if i = 1 then (t1, 4, fun j => nI (mostK j)) else (b, L, xs), s.heap.size), startS t0 t1 b L s.heap.size xs, ⟨hK _ _, start_nest hts, ⟨va_AO.of (hts (.arrayOver (.object "PlateWriters$Desk")) (by decide +kernel)), va_AO.of (hts (.arrayOver (.object "PlateWriters$Glass")) (by decide +kernel))⟩, ⟨z0, z1⟩, fun i hi => ?_⟩, rfl, ⟨rfl, fun a kd n hk => ⟨fun hlt => ?_, fun _ => ?_⟩⟩, rfl, ?_, ⟨?_, ?_, fun k hk => ⟨?_, ?_⟩⟩, lt0, lt1⟩
  · match i, hi with
    | 0, _ => exact T0
    | 1, _ => exact T1
    | 2, _ => exact Tb
  · have hk : (if a = t0 then some (14, 4) else if a = t1 then some (15, 4) else if a = b then some (16, L) else none) = some (kd, n) := hk
    repeat' split at hk
    all_goals simp at hk
    all_goals omega
  · have hk : (if a = t0 then some (14, 4) else if a = t1 then some (15, 4) else if a = b then some (16, L) else none) = some (kd, n) := hk
    by_cases c0 : a = t0
    · rw [if_pos c0] at hk
      cases hk
      exact ⟨by omega, c0, rfl, fun j hj => if_pos c0⟩
    · rw [if_neg c0] at hk
      by_cases c1 : a = t1
      · rw [if_pos c1] at hk
        cases hk
        exact ⟨by omega, c1, rfl, fun j hj => (if_neg c0).trans (if_pos c1)⟩
      · rw [if_neg c1] at hk
        by_cases c2 : a = b
        · rw [if_pos c2] at hk
          cases hk
          exact ⟨by omega, c2, rfl, fun j hj => (if_neg c0).trans (if_neg c1)⟩
        · rw [if_neg c2] at hk
          cases hk
  · show (if b = t0 then some (14, 4) else if b = t1 then some (15, 4) else if b = b then some (16, L) else none) = some (16, L)
    rw [if_neg n0, if_neg n1, if_pos rfl]
  · exact if_pos rfl
  · exact (if_neg n2).trans (if_pos rfl)
  · exact if_pos rfl
  · exact (if_neg n2).trans (if_pos rfl)
end SA
