/-! what is done at a step, and that all holds on -/
/-- a writer's letters on a plate -/
def letW (i : Nat) (G : GV) (k : Nat) : Bool := decide (G.w k = nI i) && !decide (G.t k = mI 6)
theorem ofV1 (D : DV) (i m : Nat) : ofV D i 1 m = sm (fun r => cn (letW i (D.g r)) 120) m := ofV_sm D i 1 m
theorem plates_put {g : Nat → GV} {m p w q w' q' : Nat} {G' : GV} (h : ∀ r, r < m → GI (g r) ∧ GL w (g r) ∧ prG (g r) 120 ≤ q) (hG : GI G' ∧ GL w' G' ∧ prG G' 120 ≤ q') (hw : w ≤ w') (hq : q ≤ q') : ∀ r, r < m → GI (upV g p G' r) ∧ GL w' (upV g p G' r) ∧ prG (upV g p G' r) 120 ≤ q' := by
  intro r hr
  by_cases c : r = p
  · rw [c, up_at]; exact hG
  · rw [up_no _ c]
    obtain ⟨h1, h2, h3⟩ := h r hr
    exact ⟨h1, fun k hk => low_up (h2 k hk) hw, by omega⟩
theorem let_put {g : Nat → GV} {m p i d : Nat} {G' : GV} (hp : p < m) (h : cn (letW i G') 120 = cn (letW i (g p)) 120 + d) : sm (fun r => cn (letW i (upV g p G' r)) 120) m = sm (fun r => cn (letW i (g r)) 120) m + d :=
  sm_one (k := p) (by show cn (letW i (upV g p G' p)) 120 = _; rw [up_at, h]) (fun j hj => by show cn (letW i (upV g p G' j)) 120 = _; rw [up_no _ hj]) hp
theorem let_put_le {g : Nat → GV} {m p i : Nat} {G' : GV} (h : cn (letW i G') 120 ≤ cn (letW i (g p)) 120) : sm (fun r => cn (letW i (upV g p G' r)) 120) m ≤ sm (fun r => cn (letW i (g r)) 120) m :=
  sm_le fun j hj => by
    by_cases c : j = p
    · rw [c, up_at]; exact h
    · rw [up_no _ c]; exact Nat.le_refl _
theorem GI_new : GI newV := fun _ _ => ⟨Or.inl rfl, Or.inl rfl, Or.inl rfl⟩
theorem GL_new (w : Nat) : GL w newV := fun k _ => by
  unfold lowL
  have e : (newV.l k).toNat = 127 * 8388608 := rfl
  rw [e]
  exact Nat.mul_le_mul_right _ (by omega)
theorem prG_new : prG newV 120 = 0 := by
  unfold prG
  have e := cn_skip (p := fun j => !decide (newV.p j = mI 6)) (m := 0) (n := 120) (Nat.zero_le _) (fun _ _ _ => rfl)
  rw [e]; rfl
theorem let_new (i : Nat) (hi : i < 3) : cn (letW i newV) 120 = 0 := by
  have e := cn_skip (p := letW i newV) (m := 0) (n := 120) (Nat.zero_le _) (fun j _ _ => by
    unfold letW
    have e3 : newV.t j = mI 6 := rfl
    rw [e3]
    simp)
  rw [e]; rfl
theorem nn (k : Nat) (h : k < 2 ^ 31) : 0 ≤ nI k := nI_pos' h
section IV
variable {n m : Nat} {D : DV}
theorem Inv.plate (h : Inv n m D) (e : erCome D = nI 0) : Inv (n + 1) (m + 1) (neCome D) ∧ m < 4 := by
  obtain ⟨h1, ⟨h2, h4, em⟩, h5, h6, h7, ⟨w, q, hwq, h8⟩, h9, hh, hh1, hh2⟩ := h
  have hm : m < 4 := by
    obtain ⟨j, hj, ej⟩ := erCome_0 h1 e
    rw [em, nI_eq (by omega) (by omega)] at ej
    omega
  have eg : (neCome D).g = upV D.g m newV := by
    show upV D.g D.pl.toNatClampNeg newV = _
    rw [em, nI_cl (by omega)]
  refine ⟨⟨h1.come e, ⟨by omega, by omega, ?_⟩, ⟨m, by omega, em⟩, h6, h7, ⟨w, q, by omega, ?_⟩, fun i hi => ?_, hh, by omega, hh2⟩, hm⟩
  · show D.pl + nI 1 = nI (m + 1)
    rw [em, nI_add]
  · rw [eg]
    intro r hr
    by_cases c : r = m
    · rw [c, up_at]
      exact ⟨GI_new, GL_new w, by rw [prG_new]; omega⟩
    · rw [up_no _ c]
      exact h8 r (by omega)
  · obtain ⟨c, c1, c2, c3⟩ := h9 i hi
    refine ⟨c, by omega, c2, ?_⟩
    rw [ofV1, eg, sm_s]
    have e1 : sm (fun r => cn (letW i (upV D.g m newV r)) 120) m = sm (fun r => cn (letW i (D.g r)) 120) m := sm_congr fun r hr => by rw [up_no _ (show ¬ r = m by omega)]
    rw [e1, up_at, let_new i hi, ← ofV1]
    exact c3
theorem Inv.lay (h : Inv n m D) {q : Nat} (hq : q < 1000) (e : erLay D (nI q) = nI 0) : Inv (n + 1) m (neLay D (nI q)) ∧ 0 ≤ D.dk := by
  obtain ⟨h1, ⟨h2, h4, em⟩, ⟨p, hp, ep⟩, h6, h7, ⟨w, q0, hwq, h8⟩, h9, hh, hh1, hh2⟩ := h
  have hqm : q < m := by
    unfold erLay at e
    by_cases c : 0 ≤ nI q ∧ nI q < D.pl
    · rw [em, nI_ltI (by omega) (by omega)] at c
      exact c.2
    · rw [if_pos c] at e
      exact absurd e (by decide)
  refine ⟨⟨h1.lay e, ⟨h2, h4, em⟩, ⟨q, hqm, rfl⟩, h6, h7, ⟨w, q0, by omega, h8⟩, fun i hi => ?_, hh, by omega, hh2⟩, by rw [ep]; exact nn _ (by omega)⟩
  obtain ⟨c, c1, c2, c3⟩ := h9 i hi
  exact ⟨c, by omega, c2, by rw [ofV1] at c3 ⊢; exact c3⟩
theorem Inv.set (h : Inv n m D) {k : Nat} {v : Int32} (hk : k < 4) (hv : ¬ (v < nI (leastK k) ∨ nI (mostK k) < v)) : Inv (n + 1) m (sf_st D (upV D.st k v)) ∧ 0 ≤ D.st k := by
  obtain ⟨h1, ⟨h2, h4, em⟩, h5, h6, h7, ⟨w, q0, hwq, h8⟩, h9, hh, hh1, hh2⟩ := h
  refine ⟨⟨h1.set hk hv, ⟨h2, h4, em⟩, h5, h6, h7, ⟨w, q0, by omega, h8⟩, fun i hi => ?_, hh, by omega, hh2⟩, ?_⟩
  · obtain ⟨c, c1, c2, c3⟩ := h9 i hi
    exact ⟨c, by omega, c2, by rw [ofV1] at c3 ⊢; exact c3⟩
  · obtain ⟨⟨a0, b0, e0⟩, ⟨a1, b1, e1⟩, ⟨a2, b2, e2⟩, ⟨a3, b3, e3⟩, -⟩ := h1.1
    rcases (show k = 0 ∨ k = 1 ∨ k = 2 ∨ k = 3 by omega) with e | e | e | e
    · rw [e, e0]; exact nn _ (by omega)
    · rw [e, e1]; exact nn _ (by omega)
    · rw [e, e2]; exact nn _ (by omega)
    · rw [e, e3]; exact nn _ (by omega)
theorem Inv.pass (h : Inv n m D) {k : Nat} (hk : k ≤ 48) (e : erPass D (nI k) = nI 0) : Inv (n + 1) m (nePass D (nI k)) := by
  have h1' := h.1.pass e
  have hok := fun p hp => h.ok (p := p) hp
  obtain ⟨h1, ⟨h2, h4, em⟩, h5, h6, h7, ⟨w, q0, hwq, h8⟩, h9, hh, hh1, hh2⟩ := h
  have eg : ∀ r, r < m → (nePass D (nI k)).g r = D.g r ∨ (nePass D (nI k)).g r = sf_l (D.g r) (fun j => itV D ((D.g r).l j) k) := fun r hr => by
    show pasG D (nI k).toNatClampNeg 4 r = _ ∨ pasG D (nI k).toNatClampNeg 4 r = _
    rw [nI_cl (by omega)]
    unfold pasG
    by_cases c : r < 4 ∧ ¬ D.dk = nI r
    · rw [if_pos c]; exact Or.inr rfl
    · rw [if_neg c]; exact Or.inl rfl
  refine ⟨h1', ⟨h2, h4, em⟩, h5, h6, h7, ⟨w, q0, by omega, fun r hr => ?_⟩, fun i hi => ?_, hh + k, by omega, ?_⟩
  · obtain ⟨g1, g2, g3⟩ := h8 r hr
    rcases eg r hr with e | e
    · rw [e]; exact ⟨g1, g2, g3⟩
    · rw [e]
      refine ⟨g1, fun j hj => ?_, g3⟩
      have up := itV_up h1.1 ((hok r hr) j hj).1 0 k
      rw [itV_0, Nat.zero_add] at up
      exact low_mono (g2 j hj) up
  · obtain ⟨c, c1, c2, c3⟩ := h9 i hi
    refine ⟨c, by omega, c2, ?_⟩
    rw [ofV1] at c3 ⊢
    refine Nat.le_trans (Nat.le_of_eq (sm_congr fun r hr => ?_)) c3
    rcases eg r hr with e | e
    · rw [e]
    · rw [e]; rfl
  · show D.hr + nI k = nI (hh + k)
    rw [hh2, nI_add]
/-- laying plate p of the desk anew -/
theorem Inv.put {p w q n' : Nat} {G' : GV} {wr sp : Nat → Int32} (h : Inv n m D) (hn : n ≤ n') (hp : p < m) (hD : DOK (sf_sp (sf_wr (putG D p G') wr) sp)) (hg : ∀ r, r < m → GI (upV D.g p G' r) ∧ GL w (upV D.g p G' r) ∧ prG (upV D.g p G' r) 120 ≤ q) (hwq : w + q ≤ n') (hw : ∀ i, i < 3 → ∃ c, c ≤ n' ∧ wr i = nI c ∧ sm (fun r => cn (letW i (upV D.g p G' r)) 120) m ≤ c) : Inv n' m (sf_sp (sf_wr (putG D p G') wr) sp) := by
  obtain ⟨h1, ⟨h2, h4, em⟩, h5, h6, h7, -, -, hh, hh1, hh2⟩ := h
  refine ⟨hD, ⟨h2, h4, em⟩, h5, h6, h7, ⟨w, q, hwq, hg⟩, fun i hi => ?_, hh, by omega, hh2⟩
  obtain ⟨c, c1, c2, c3⟩ := hw i hi
  exact ⟨c, c1, c2, by rw [ofV1]; exact c3⟩
theorem Inv.write (h : Inv n m D) (hn : n ≤ 30) {p w a b t : Nat} (hpm : p < m) (hp : OnD D p) (hw : w < 3) (ha : a < 10) (hb : b < 12) (ht : t < 26) (e : erWrite D (nI w) (nI a) (nI b) (nI t) = nI 0) : Inv (n + 1) m (neWrite D (nI w) (nI a) (nI b) (nI t)) := by
  have h0 := h
  have hG := h.ok hpm
  obtain ⟨h1, ⟨h2, h4, em⟩, h5, h6, h7, ⟨w0, q0, hwq, h8⟩, h9, -⟩ := h
  obtain ⟨x1, -, x3⟩ := er_write hp h6 hw ha hb ht
  have hD := h1.write e
  rw [x3] at hD ⊢
  have hk : a * 12 + b < 120 := by omega
  obtain ⟨k, ek⟩ : ∃ k, k = a * 12 + b := ⟨_, rfl⟩
  rw [← ek] at hD hk x1 ⊢
  have hok : wrOK D (D.g p) w k = true := by
    refine Decidable.byContradiction fun c => ?_
    rw [x1, if_neg c] at e
    exact absurd e (by decide)
  have htk : (D.g p).t k = mI 6 := by
    unfold wrOK at hok
    simp only [Bool.and_eq_true, decide_eq_true_eq] at hok
    exact hok.1.1
  obtain ⟨g1, g2, g3⟩ := h8 p hpm
  have nt : ¬ nI t = mI 6 := nI_ne_mI (by omega) (by omega) (by omega)
  refine h0.put (G' := markV D (D.g p) w k (nI t)) (w := w0 + 1) (q := q0) (by omega) hpm hD (plates_put h8 ⟨fun j hj => ?_, fun j hj => ?_, ?_⟩ (by omega) (Nat.le_refl _)) (by omega) (fun i hi => ?_)
  · have et : (markV D (D.g p) w k (nI t)).t j = upV (D.g p).t k (nI t) j := rfl
    have ew : (markV D (D.g p) w k (nI t)).w j = upV (D.g p).w k (nI w) j := rfl
    have ep : (markV D (D.g p) w k (nI t)).p j = upV (D.g p).p k (mI 6) j := rfl
    rw [et, ew, ep]
    by_cases c : j = k
    · rw [c, up_at, up_at, up_at]
      exact ⟨Or.inr rfl, Or.inr ⟨w, hw, rfl⟩, Or.inl rfl⟩
    · rw [up_no _ c, up_no _ c, up_no _ c]
      exact g1 j hj
  · show lowL (w0 + 1) (dimV D ((D.g p).l j) w (dist k j))
    exact dimV_low h1.1 (by omega) (hG j hj).1 (by omega) (g2 j hj)
  · refine Nat.le_trans (cn_mono fun j hj c => ?_) g3
    have ep : (markV D (D.g p) w k (nI t)).p j = upV (D.g p).p k (mI 6) j := rfl
    rw [ep] at c
    by_cases cj : j = k
    · rw [cj, up_at] at c
      simp at c
    · rw [up_no _ cj] at c
      exact c
  · obtain ⟨c, c1, c2, c3⟩ := h9 i hi
    rw [ofV1] at c3
    have lk : letW i (markV D (D.g p) w k (nI t)) k = decide (w = i) := by
      unfold letW
      have et : (markV D (D.g p) w k (nI t)).t k = nI t := up_at _ _ _
      have ew : (markV D (D.g p) w k (nI t)).w k = nI w := up_at _ _ _
      rw [et, ew, decide_eq_false nt]
      by_cases cw : w = i
      · simp [cw]
      · have : ¬ nI w = nI i := by rw [nI_eq (by omega) (by omega)]; exact cw
        simp [cw, this]
    have l0 : letW i (D.g p) k = false := by
      unfold letW
      rw [htk]
      simp
    have lj : ∀ j, ¬ j = k → letW i (markV D (D.g p) w k (nI t)) j = letW i (D.g p) j := fun j hj => by
      unfold letW
      have et : (markV D (D.g p) w k (nI t)).t j = (D.g p).t j := up_no _ hj _
      have ew : (markV D (D.g p) w k (nI t)).w j = (D.g p).w j := up_no _ hj _
      rw [et, ew]
    by_cases cw : i = w
    · subst cw
      refine ⟨c + 1, by omega, ?_, ?_⟩
      · show upV D.wr i (D.wr i + nI 1) i = nI (c + 1)
        rw [up_at, c2, nI_add]
      · rw [let_put hpm (d := 1) (cn_one (k := k) (by rw [lk]; simp) l0 lj hk)]
        omega
    · refine ⟨c, by omega, ?_, ?_⟩
      · show upV D.wr w (D.wr w + nI 1) i = nI c
        rw [up_no _ cw, c2]
      · rw [let_put hpm (d := 0) (by rw [Nat.add_zero]; exact cn_same (k := k) (by rw [lk, l0]; simp; omega) lj)]
        exact c3
theorem Inv.prom (h : Inv n m D) {p w a b : Nat} (hpm : p < m) (hp : OnD D p) (hw : w < 3) (ha : a < 10) (hb : b < 12) (e : erProm D (nI w) (nI a) (nI b) = nI 0) : Inv (n + 1) m (neProm D (nI w) (nI a) (nI b)) := by
  have h0 := h
  obtain ⟨h1, ⟨h2, h4, em⟩, h5, h6, h7, ⟨w0, q0, hwq, h8⟩, h9, -⟩ := h
  obtain ⟨x1, -, x3⟩ := er_prom hp h6 hw ha hb
  have hD := h1.prom e
  rw [x3] at hD ⊢
  have hk : a * 12 + b < 120 := by omega
  obtain ⟨k, ek⟩ : ∃ k, k = a * 12 + b := ⟨_, rfl⟩
  rw [← ek] at hD hk x1 ⊢
  have hr : roV D (D.g p) k = true := by
    refine Decidable.byContradiction fun c => ?_
    rw [x1, if_neg c] at e
    exact absurd e (by decide)
  obtain ⟨r1, r2, -⟩ := ro_t hr
  obtain ⟨g1, g2, g3⟩ := h8 p hpm
  refine h0.put (G' := sf_p (D.g p) (upV (D.g p).p k (nI w))) (wr := D.wr) (sp := D.sp) (w := w0) (q := q0 + 1) (by omega) hpm hD (plates_put h8 ⟨fun j hj => ?_, g2, ?_⟩ (Nat.le_refl _) (by omega)) (by omega) (fun i hi => ?_)
  · obtain ⟨i1, i2, i3⟩ := g1 j hj
    have ep : (sf_p (D.g p) (upV (D.g p).p k (nI w))).p j = upV (D.g p).p k (nI w) j := rfl
    rw [ep]
    by_cases c : j = k
    · rw [c, up_at]
      exact ⟨Or.inl r1, by rw [← c]; exact i2, Or.inr ⟨w, hw, rfl⟩⟩
    · rw [up_no _ c]
      exact ⟨i1, i2, i3⟩
  · have := cn_one (p := fun j => !decide ((sf_p (D.g p) (upV (D.g p).p k (nI w))).p j = mI 6)) (q := fun j => !decide ((D.g p).p j = mI 6)) (k := k) (by
      have ep : (sf_p (D.g p) (upV (D.g p).p k (nI w))).p k = nI w := up_at _ _ _
      rw [ep]
      simp [nI_ne_mI (show w < 2 ^ 31 by omega) (show 0 < 6 by omega) (show 6 < 2 ^ 31 by omega)]) (by simp [r2]) (fun j hj => by
      have ep : (sf_p (D.g p) (upV (D.g p).p k (nI w))).p j = (D.g p).p j := up_no _ hj _
      rw [ep]) hk
    unfold prG at g3 ⊢
    omega
  · obtain ⟨c, c1, c2, c3⟩ := h9 i hi
    rw [ofV1] at c3
    refine ⟨c, by omega, c2, ?_⟩
    rw [let_put (g := D.g) (G' := sf_p (D.g p) (upV (D.g p).p k (nI w))) hpm (d := 0) (by rw [Nat.add_zero]; rfl)]
    exact c3
theorem er_back {p a b : Nat} (hp : OnD D p) (ha : a < 10) (hb : b < 12) : erBack D (nI a) (nI b) = (if (D.g p).p (a * 12 + b) = mI 6 then mI 5 else nI 0) ∧ vaBack D (nI a) (nI b) = (D.g p).p (a * 12 + b) ∧ neBack D (nI a) (nI b) = putG D p (sf_p (D.g p) (upV (D.g p).p (a * 12 + b) (mI 6))) := by
  have n1 : ¬ (D.dk = mI 6 ∨ ¬ Pl (nI a) (nI b)) := fun q => q.elim (fun z => on_no1 z hp) (fun z => z (Pl_nI ha hb))
  refine ⟨?_, ?_, ?_⟩
  · unfold erBack
    rw [if_neg n1, hp.on, kP_n ha hb]
  · unfold vaBack
    rw [hp.on, kP_n ha hb]
  · unfold neBack
    rw [hp.dk, hp.on, kP_n ha hb]
theorem er_rub {p a b : Nat} (hp : OnD D p) (ha : a < 10) (hb : b < 12) : erRub D (nI a) (nI b) = (if (D.g p).t (a * 12 + b) = mI 6 then mI 5 else nI 0) ∧ vaRub D (nI a) (nI b) = (D.g p).t (a * 12 + b) ∧ neRub D (nI a) (nI b) = putG D p (rubV (D.g p) (a * 12 + b)) := by
  have n1 : ¬ (D.dk = mI 6 ∨ ¬ Pl (nI a) (nI b)) := fun q => q.elim (fun z => on_no1 z hp) (fun z => z (Pl_nI ha hb))
  refine ⟨?_, ?_, ?_⟩
  · unfold erRub
    rw [if_neg n1, hp.on, kP_n ha hb]
  · unfold vaRub
    rw [hp.on, kP_n ha hb]
  · unfold neRub
    rw [hp.dk, hp.on, kP_n ha hb]
theorem Inv.back (h : Inv n m D) {p a b : Nat} (hpm : p < m) (hp : OnD D p) (ha : a < 10) (hb : b < 12) (e : erBack D (nI a) (nI b) = nI 0) : Inv (n + 1) m (neBack D (nI a) (nI b)) ∧ 0 ≤ vaBack D (nI a) (nI b) := by
  have h0 := h
  have hG := h.ok hpm
  obtain ⟨h1, ⟨h2, h4, em⟩, h5, h6, h7, ⟨w0, q0, hwq, h8⟩, h9, -⟩ := h
  obtain ⟨x1, x2, x3⟩ := er_back hp ha hb
  have hD := h1.back e
  rw [x3] at hD ⊢
  rw [x2]
  have hk : a * 12 + b < 120 := by omega
  obtain ⟨k, ek⟩ : ∃ k, k = a * 12 + b := ⟨_, rfl⟩
  rw [← ek] at hD hk x1 ⊢
  obtain ⟨g1, g2, g3⟩ := h8 p hpm
  refine ⟨h0.put (G' := sf_p (D.g p) (upV (D.g p).p k (mI 6))) (wr := D.wr) (sp := D.sp) (w := w0) (q := q0) (by omega) hpm hD (plates_put h8 ⟨fun j hj => ?_, g2, ?_⟩ (Nat.le_refl _) (Nat.le_refl _)) (by omega) (fun i hi => ?_), ?_⟩
  · obtain ⟨i1, i2, i3⟩ := g1 j hj
    have ep : (sf_p (D.g p) (upV (D.g p).p k (mI 6))).p j = upV (D.g p).p k (mI 6) j := rfl
    rw [ep]
    by_cases c : j = k
    · rw [c, up_at]
      exact ⟨Or.inr rfl, by rw [← c]; exact i2, Or.inl rfl⟩
    · rw [up_no _ c]
      exact ⟨i1, i2, i3⟩
  · refine Nat.le_trans (cn_mono fun j hj c => ?_) g3
    have ep : (sf_p (D.g p) (upV (D.g p).p k (mI 6))).p j = upV (D.g p).p k (mI 6) j := rfl
    rw [ep] at c
    by_cases cj : j = k
    · rw [cj, up_at] at c
      simp at c
    · rw [up_no _ cj] at c
      exact c
  · obtain ⟨c, c1, c2, c3⟩ := h9 i hi
    rw [ofV1] at c3
    refine ⟨c, by omega, c2, ?_⟩
    rw [let_put (g := D.g) (G' := sf_p (D.g p) (upV (D.g p).p k (mI 6))) hpm (d := 0) (by rw [Nat.add_zero]; rfl)]
    exact c3
  · rcases (hG k hk).2.2 with c | ⟨b', hb', eb⟩
    · rw [x1, if_pos c] at e
      exact absurd e (by decide)
    · rw [eb]
      exact nn _ (by omega)
theorem Inv.rub (h : Inv n m D) (hn : n ≤ 30) {p a b : Nat} (hpm : p < m) (hp : OnD D p) (ha : a < 10) (hb : b < 12) (e : erRub D (nI a) (nI b) = nI 0) : Inv (n + 1) m (neRub D (nI a) (nI b)) ∧ 0 ≤ vaRub D (nI a) (nI b) := by
  have h0 := h
  have hG := h.ok hpm
  obtain ⟨h1, ⟨h2, h4, em⟩, h5, h6, h7, ⟨w0, q0, hwq, h8⟩, h9, -⟩ := h
  obtain ⟨x1, x2, x3⟩ := er_rub hp ha hb
  have hD := h1.rub e
  rw [x3] at hD ⊢
  rw [x2]
  have hk : a * 12 + b < 120 := by omega
  obtain ⟨k, ek⟩ : ∃ k, k = a * 12 + b := ⟨_, rfl⟩
  rw [← ek] at hD hk x1 ⊢
  obtain ⟨g1, g2, g3⟩ := h8 p hpm
  refine ⟨h0.put (G' := rubV (D.g p) k) (wr := D.wr) (sp := D.sp) (w := w0) (q := q0) (by omega) hpm hD (plates_put h8 ⟨fun j hj => ?_, fun j hj => ?_, g3⟩ (Nat.le_refl _) (Nat.le_refl _)) (by omega) (fun i hi => ?_), ?_⟩
  · obtain ⟨i1, i2, i3⟩ := g1 j hj
    have et : (rubV (D.g p) k).t j = upV (D.g p).t k (mI 6) j := rfl
    have ew : (rubV (D.g p) k).w j = upV (D.g p).w k (mI 6) j := rfl
    have ep : (rubV (D.g p) k).p j = (D.g p).p j := rfl
    rw [et, ew, ep]
    by_cases c : j = k
    · rw [c, up_at, up_at]
      exact ⟨Or.inl rfl, Or.inl rfl, by rw [← c]; exact i3⟩
    · rw [up_no _ c, up_no _ c]
      exact ⟨i1, i2, i3⟩
  · show lowL w0 (upV (D.g p).l k (FP.fdiv (FP.fadd ((D.g p).l k) FP.fconst1) FP.fconst2) j)
    by_cases c : j = k
    · rw [c, up_at]
      exact low_mono (g2 k hk) (rub_ge (hG k hk).1 (low_pos (by omega) (g2 k hk)))
    · rw [up_no _ c]
      exact g2 j hj
  · obtain ⟨c, c1, c2, c3⟩ := h9 i hi
    rw [ofV1] at c3
    refine ⟨c, by omega, c2, Nat.le_trans (let_put_le (cn_mono fun j hj cl => ?_)) c3⟩
    unfold letW at cl ⊢
    have et : (rubV (D.g p) k).t j = upV (D.g p).t k (mI 6) j := rfl
    have ew : (rubV (D.g p) k).w j = upV (D.g p).w k (mI 6) j := rfl
    rw [et, ew] at cl
    by_cases cj : j = k
    · rw [cj, up_at, up_at] at cl
      simp at cl
    · rw [up_no _ cj, up_no _ cj] at cl
      exact cl
  · rcases (hG k hk).2.1 with ⟨c, -⟩ | ⟨a', b', ha', hb', ea, eb⟩
    · rw [x1, if_pos c] at e
      exact absurd e (by decide)
    · rw [ea]
      exact nn _ (by omega)
end IV
