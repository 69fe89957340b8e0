-- needs: 55.mops
/-! the same desks: the same errors, answers, ends -/
theorem DE.on {A B : DV} (h : DE A B) (hD : DOK A) (hd : ¬ A.dk = mI 6) : GE (onG A) (onG B) ∧ GOK (onG A) ∧ dkP A = dkP B ∧ dkP A < 4 := by
  obtain ⟨p, hp⟩ := (OnD_or hD).resolve_left hd
  have hp2 : OnD B p := ⟨h.2.2.2.2.1 ▸ hp.1, hp.2.1, h.2.2.2.1 ▸ hp.2.2⟩
  rw [hp.on, hp2.on, hp.dk, hp2.dk]
  exact ⟨h.2.2.2.2.2.2 p hp.2.2 hp.2.1, hD.2.2.2.2 p hp.2.2 hp.2.1, rfl, hp.2.1⟩
theorem DE.pl' {A B : DV} (h : DE A B) : A.pl = B.pl := h.2.2.2.1
theorem DE.dk' {A B : DV} (h : DE A B) : A.dk = B.dk := h.2.2.2.2.1
theorem DE.pp' {A B : DV} (h : DE A B) : A.pp = B.pp := h.2.2.2.2.2.1
theorem DE.hr' {A B : DV} (h : DE A B) : A.hr = B.hr := h.2.2.1
theorem erLay_de {A B : DV} (h : DE A B) (p : Int32) : erLay A p = erLay B p := by
  unfold erLay
  rw [h.pl', h.dk']
theorem erJoin_de {A B : DV} (h : DE A B) (p : Int32) : erJoin A p = erJoin B p := by
  unfold erJoin
  rw [h.pp']
theorem erCome_de {A B : DV} (h : DE A B) : erCome A = erCome B := by
  unfold erCome
  rw [h.pl']
theorem erPass_de {A B : DV} (h : DE A B) (m : Int32) : erPass A m = erPass B m := by
  unfold erPass
  rw [h.hr']
theorem wrOK_de {A B : DV} {G H : GV} (h : DS A B) (k : GE G H) {w j : Nat} (hj : j < 120) : wrOK A G w j = wrOK B H w j := by
  unfold wrOK
  rw [(k j hj).1, (k j hj).2.1, (k j hj).2.2.2, enV_ds h]
theorem erWrite_de {A B : DV} (h : DE A B) (hD : DOK A) (w r c t : Int32) : erWrite A w r c t = erWrite B w r c t := by
  unfold erWrite
  rw [h.pp', h.dk']
  by_cases c1 : ¬ (0 ≤ w ∧ w < B.pp) ∨ B.dk = mI 6 ∨ ¬ Pl r c
  · rw [if_pos c1, if_pos c1]
  · rw [if_neg c1, if_neg c1]
    have hd : ¬ A.dk = mI 6 := fun a => c1 (Or.inr (Or.inl (h.dk' ▸ a)))
    have hP : Pl r c := Decidable.not_not.mp fun a => c1 (Or.inr (Or.inr a))
    rw [wrOK_de h.ds (h.on hD hd).1 (kP_lt hP)]
theorem erProm_de {A B : DV} (h : DE A B) (hD : DOK A) (w r c : Int32) : erProm A w r c = erProm B w r c := by
  unfold erProm
  rw [h.pp', h.dk']
  by_cases c1 : ¬ (0 ≤ w ∧ w < B.pp) ∨ B.dk = mI 6 ∨ ¬ Pl r c
  · rw [if_pos c1, if_pos c1]
  · rw [if_neg c1, if_neg c1]
    have hd : ¬ A.dk = mI 6 := fun a => c1 (Or.inr (Or.inl (h.dk' ▸ a)))
    have hP : Pl r c := Decidable.not_not.mp fun a => c1 (Or.inr (Or.inr a))
    rw [roV_ds h.ds (h.on hD hd).1 (h.on hD hd).2.1 (kP_lt hP)]
theorem erRub_de {A B : DV} (h : DE A B) (hD : DOK A) (r c : Int32) : erRub A r c = erRub B r c := by
  unfold erRub
  rw [h.dk']
  by_cases c1 : B.dk = mI 6 ∨ ¬ Pl r c
  · rw [if_pos c1, if_pos c1]
  · rw [if_neg c1, if_neg c1]
    have hd : ¬ A.dk = mI 6 := fun a => c1 (Or.inl (h.dk' ▸ a))
    have hP : Pl r c := Decidable.not_not.mp fun a => c1 (Or.inr a)
    rw [((h.on hD hd).1 _ (kP_lt hP)).2.1]
theorem erBack_de {A B : DV} (h : DE A B) (hD : DOK A) (r c : Int32) : erBack A r c = erBack B r c := by
  unfold erBack
  rw [h.dk']
  by_cases c1 : B.dk = mI 6 ∨ ¬ Pl r c
  · rw [if_pos c1, if_pos c1]
  · rw [if_neg c1, if_neg c1]
    have hd : ¬ A.dk = mI 6 := fun a => c1 (Or.inl (h.dk' ▸ a))
    have hP : Pl r c := Decidable.not_not.mp fun a => c1 (Or.inr a)
    rw [((h.on hD hd).1 _ (kP_lt hP)).2.2.2]
theorem DE.put {A B : DV} {G H : GV} (h : DE A B) (k : GE G H) (p : Nat) : DE (putG A p G) (putG B p H) :=
  ⟨h.1, h.2.1, h.2.2.1, h.2.2.2.1, h.2.2.2.2.1, h.2.2.2.2.2.1, fun r hr hr4 => by
    show GE (upV A.g p G r) (upV B.g p H r)
    unfold upV
    by_cases c : r = p
    · rw [if_pos c, if_pos c]; exact k
    · rw [if_neg c, if_neg c]; exact h.2.2.2.2.2.2 r hr hr4⟩
theorem neLay_de {A B : DV} (h : DE A B) (p : Int32) : DE (neLay A p) (neLay B p) := h.hdk p
theorem neJoin_de {A B : DV} (h : DE A B) (p : Int32) : DE (neJoin A p) (neJoin B p) := by
  unfold neJoin
  rw [h.pp']
  exact (((h.hpr _ _).hwr _ _).hsp _ _).hpp _
theorem neCome_de {A B : DV} (h : DE A B) {n : Nat} (hn : n < 4) (en : A.pl = nI n) : DE (neCome A) (neCome B) := by
  have en2 : B.pl = nI n := h.pl' ▸ en
  unfold neCome
  rw [en, en2, nI_cl (by omega)]
  refine ⟨h.1, h.2.1, h.2.2.1, rfl, rfl, h.2.2.2.2.2.1, fun r hr hr4 => ?_⟩
  show GE (upV A.g n newV r) (upV B.g n newV r)
  unfold upV
  by_cases c : r = n
  · rw [if_pos c, if_pos c]; exact GE.refl _
  · rw [if_neg c, if_neg c]
    refine h.2.2.2.2.2.2 r ?_ hr4
    rw [en]
    have hr' : nI r < nI n + nI 1 := hr
    rw [nI_add, nI_ltI (by omega) (by omega)] at hr'
    exact nI_lt (by omega) (by omega)
theorem pasG_de {A B : DV} (h : DE A B) (m : Nat) {r : Nat} (hr : nI r < A.pl) (hr4 : r < 4) : GE (pasG A m 4 r) (pasG B m 4 r) := by
  unfold pasG
  rw [h.dk']
  have g := h.2.2.2.2.2.2 r hr hr4
  split
  · exact fun j hj => ⟨by show itV A ((A.g r).l j) m = itV B ((B.g r).l j) m; rw [itV_ds h.ds, (g j hj).1], (g j hj).2⟩
  · exact g
theorem nePass_de {A B : DV} (h : DE A B) (m : Int32) : DE (nePass A m) (nePass B m) := by
  unfold nePass
  rw [h.hr']
  exact ⟨h.1, h.2.1, rfl, h.2.2.2.1, h.2.2.2.2.1, h.2.2.2.2.2.1, fun r hr hr4 => pasG_de h _ hr hr4⟩
theorem vaProm_de {A B : DV} (h : DE A B) (hD : DOK A) (w r c : Int32) (hd : ¬ A.dk = mI 6) : vaProm A w r c = vaProm B w r c ∧ DE (neProm A w r c) (neProm B w r c) := by
  obtain ⟨g, -, e, -⟩ := h.on hD hd
  refine ⟨?_, ?_⟩
  · unfold vaProm
    congr 1
    refine cn_congr fun j hj => ?_
    unfold upV
    rw [(g j hj).2.2.2]
  · unfold neProm
    rw [e]
    exact h.put (g.hp _ _) _
theorem vaBack_de {A B : DV} (h : DE A B) (hD : DOK A) (r c : Int32) (hP : Pl r c) (hd : ¬ A.dk = mI 6) : vaBack A r c = vaBack B r c ∧ DE (neBack A r c) (neBack B r c) := by
  obtain ⟨g, -, e, -⟩ := h.on hD hd
  refine ⟨(g _ (kP_lt hP)).2.2.2, ?_⟩
  unfold neBack
  rw [e]
  exact h.put (g.hp _ _) _
theorem vaRub_de {A B : DV} (h : DE A B) (hD : DOK A) (r c : Int32) (hP : Pl r c) (hd : ¬ A.dk = mI 6) : vaRub A r c = vaRub B r c ∧ DE (neRub A r c) (neRub B r c) := by
  obtain ⟨g, -, e, -⟩ := h.on hD hd
  refine ⟨(g _ (kP_lt hP)).2.1, ?_⟩
  unfold neRub
  rw [e]
  refine h.put (fun j hj => ?_) _
  obtain ⟨g1, g2, g3, g4⟩ := g j hj
  have gk := (g _ (kP_lt hP)).1
  refine ⟨?_, ?_, ?_, g4⟩
  · show upV (onG A).l (kP r c) (FP.fdiv (FP.fadd ((onG A).l (kP r c)) FP.fconst1) FP.fconst2) j = upV (onG B).l (kP r c) (FP.fdiv (FP.fadd ((onG B).l (kP r c)) FP.fconst1) FP.fconst2) j
    unfold upV
    rw [gk, g1]
  · show upV (onG A).t (kP r c) (mI 6) j = upV (onG B).t (kP r c) (mI 6) j
    unfold upV
    rw [g2]
  · show upV (onG A).w (kP r c) (mI 6) j = upV (onG B).w (kP r c) (mI 6) j
    unfold upV
    rw [g3]
theorem vaWrite_de {A B : DV} (h : DE A B) (hD : DOK A) (w r c t : Int32) {wn : Nat} (hw : wn < 5) (ew : w = nI wn) (hd : ¬ A.dk = mI 6) : vaWrite A w r c = vaWrite B w r c ∧ DE (neWrite A w r c t) (neWrite B w r c t) := by
  obtain ⟨g, -, e, e4⟩ := h.on hD hd
  subst ew
  unfold vaWrite neWrite wriV
  rw [nI_cl (by omega), e]
  have el : lostV A (onG A) wn (kP r c) 120 = lostV B (onG B) wn (kP r c) 120 := lostV_ds h.ds g hw _ (Nat.le_refl _)
  have ea : A.g (dkP B) = onG A := by unfold onG; rw [e]
  have eb : B.g (dkP B) = onG B := rfl
  rw [ea, eb, el]
  refine ⟨rfl, ?_⟩
  have q := ((h.put (markV_ds h.ds g hw (kP r c) t) (dkP B)).hwr wn (A.wr wn + nI 1)).hsp wn (A.sp wn + nI (lostV B (onG B) wn (kP r c) 120))
  rw [(h.2.1 wn hw).2.1, (h.2.1 wn hw).2.2] at q
  rw [(h.2.1 wn hw).2.1, (h.2.1 wn hw).2.2]
  exact q
