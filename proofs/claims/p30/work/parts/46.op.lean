/-! changes as errors, answers and what they leave; the same desks change alike -/
/-- the place of a row and a column -/
def kP (r c : Int32) : Nat := r.toNatClampNeg * 12 + c.toNatClampNeg
theorem kP_n {a b : Nat} (ha : a < 10) (hb : b < 12) : kP (nI a) (nI b) = a * 12 + b := by
  unfold kP
  rw [nI_cl (by omega), nI_cl (by omega)]
theorem kP_lt {r c : Int32} (h : Pl r c) : kP r c < 120 := by
  obtain ⟨a, b, ha, hb, rfl, rfl⟩ := Pl_of h
  rw [kP_n ha hb]
  omega
/-- the plate on the desk -/
def dkP (D : DV) : Nat := D.dk.toNatClampNeg
def onG (D : DV) : GV := D.g (dkP D)
theorem OnD.dk {D : DV} {p : Nat} (h : OnD D p) : dkP D = p := by
  unfold dkP
  rw [h.1, nI_cl (by have := h.2.1; omega)]
theorem OnD.on {D : DV} {p : Nat} (h : OnD D p) : onG D = D.g p := by
  unfold onG
  rw [h.dk]
def erLay (D : DV) (p : Int32) : Int32 := if ¬ (0 ≤ p ∧ p < D.pl) then mI 1 else if p = D.dk then mI 5 else nI 0
def erJoin (D : DV) (h : Int32) : Int32 := if ¬ (nI 1 ≤ h ∧ h ≤ nI 5) then mI 2 else if D.pp = nI 5 then mI 4 else nI 0
def erWrite (D : DV) (w r c t : Int32) : Int32 := if ¬ (0 ≤ w ∧ w < D.pp) ∨ D.dk = mI 6 ∨ ¬ Pl r c then mI 1 else if ¬ (0 ≤ t ∧ t < nI 26) then mI 2 else if wrOK D (onG D) w.toNatClampNeg (kP r c) = true then nI 0 else mI 5
def erProm (D : DV) (w r c : Int32) : Int32 := if ¬ (0 ≤ w ∧ w < D.pp) ∨ D.dk = mI 6 ∨ ¬ Pl r c then mI 1 else if roV D (onG D) (kP r c) = true then nI 0 else mI 5
def erRub (D : DV) (r c : Int32) : Int32 := if D.dk = mI 6 ∨ ¬ Pl r c then mI 1 else if (onG D).t (kP r c) = mI 6 then mI 5 else nI 0
def erPass (D : DV) (m : Int32) : Int32 := if ¬ (nI 1 ≤ m ∧ m ≤ nI 48) then mI 2 else if nI 9999 < D.hr + m then mI 5 else nI 0
def erCome (D : DV) : Int32 := if D.pl = nI 4 then mI 4 else nI 0
def erBack (D : DV) (r c : Int32) : Int32 := if D.dk = mI 6 ∨ ¬ Pl r c then mI 1 else if (onG D).p (kP r c) = mI 6 then mI 5 else nI 0
def neCome (D : DV) : DV := (sf_dk (sf_pl (putG D D.pl.toNatClampNeg newV) (D.pl + nI 1)) (D.pl))
def neLay (D : DV) (p : Int32) : DV := (sf_dk D (p))
def neJoin (D : DV) (h : Int32) : DV := (sf_pp (sf_sp (sf_wr (sf_pr D (upV D.pr D.pp.toNatClampNeg h)) (upV D.wr D.pp.toNatClampNeg (nI 0))) (upV D.sp D.pp.toNatClampNeg (nI 0))) (D.pp + nI 1))
def neWrite (D : DV) (w r c t : Int32) : DV := wriV D (dkP D) w.toNatClampNeg (kP r c) t
def vaWrite (D : DV) (w r c : Int32) : Int32 := nI (lostV D (onG D) w.toNatClampNeg (kP r c) 120)
def neProm (D : DV) (w r c : Int32) : DV := putG D (dkP D) (sf_p (onG D) (upV (onG D).p (kP r c) w))
def vaProm (D : DV) (w r c : Int32) : Int32 := nI (cn (fun j => !decide (upV (onG D).p (kP r c) w j = mI 6)) 120)
def neRub (D : DV) (r c : Int32) : DV := putG D (dkP D) (rubV (onG D) (kP r c))
def vaRub (D : DV) (r c : Int32) : Int32 := (onG D).t (kP r c)
def nePass (D : DV) (m : Int32) : DV := (sf_g (sf_hr D (D.hr + m)) (pasG D m.toNatClampNeg 4))
def neBack (D : DV) (r c : Int32) : DV := putG D (dkP D) (sf_p (onG D) (upV (onG D).p (kP r c) (mI 6)))
def vaBack (D : DV) (r c : Int32) : Int32 := (onG D).p (kP r c)
theorem DOK.pl {D : DV} (h : DOK D) : ∃ n, n ≤ 4 ∧ D.pl = nI n := by
  obtain ⟨-, -, ⟨n, hn, en, -⟩, -⟩ := h
  exact ⟨n, hn, en⟩
theorem DOK.pp {D : DV} (h : DOK D) : ∃ n, n ≤ 5 ∧ D.pp = nI n := h.2.2.2.1
theorem DE.hst {A B : DV} (h : DE A B) (k : Nat) (v : Int32) : DE (sf_st A (upV A.st k v)) (sf_st B (upV B.st k v)) :=
  ⟨fun i hi => by show upV A.st k v i = upV B.st k v i; unfold upV; rw [h.1 i hi], h.2.1, h.2.2.1, h.2.2.2.1, h.2.2.2.2.1, h.2.2.2.2.2.1, h.2.2.2.2.2.2⟩
theorem DE.hpr {A B : DV} (h : DE A B) (k : Nat) (v : Int32) : DE (sf_pr A (upV A.pr k v)) (sf_pr B (upV B.pr k v)) :=
  ⟨h.1, fun i hi => ⟨by show upV A.pr k v i = upV B.pr k v i; unfold upV; rw [(h.2.1 i hi).1], (h.2.1 i hi).2⟩, h.2.2⟩
theorem DE.hwr {A B : DV} (h : DE A B) (k : Nat) (v : Int32) : DE (sf_wr A (upV A.wr k v)) (sf_wr B (upV B.wr k v)) :=
  ⟨h.1, fun i hi => ⟨(h.2.1 i hi).1, by show upV A.wr k v i = upV B.wr k v i; unfold upV; rw [(h.2.1 i hi).2.1], (h.2.1 i hi).2.2⟩, h.2.2⟩
theorem DE.hsp {A B : DV} (h : DE A B) (k : Nat) (v : Int32) : DE (sf_sp A (upV A.sp k v)) (sf_sp B (upV B.sp k v)) :=
  ⟨h.1, fun i hi => ⟨(h.2.1 i hi).1, (h.2.1 i hi).2.1, by show upV A.sp k v i = upV B.sp k v i; unfold upV; rw [(h.2.1 i hi).2.2]⟩, h.2.2⟩
theorem DE.hhr {A B : DV} (h : DE A B) (v : Int32) : DE (sf_hr A v) (sf_hr B v) := ⟨h.1, h.2.1, rfl, h.2.2.2⟩
theorem DE.hdk {A B : DV} (h : DE A B) (v : Int32) : DE (sf_dk A v) (sf_dk B v) := ⟨h.1, h.2.1, h.2.2.1, h.2.2.2.1, rfl, h.2.2.2.2.2⟩
theorem DE.hpp {A B : DV} (h : DE A B) (v : Int32) : DE (sf_pp A v) (sf_pp B v) := ⟨h.1, h.2.1, h.2.2.1, h.2.2.2.1, h.2.2.2.2.1, rfl, h.2.2.2.2.2.2⟩
theorem GE.hp {A B : GV} (h : GE A B) (k : Nat) (v : Int32) : GE (sf_p A (upV A.p k v)) (sf_p B (upV B.p k v)) := fun j hj => ⟨(h j hj).1, (h j hj).2.1, (h j hj).2.2.1, by show upV A.p k v j = upV B.p k v j; unfold upV; rw [(h j hj).2.2.2]⟩
theorem DE.on {A B : DV} (h : DE A B) (hD : DOK A) (hd : ¬ A.dk = mI 6) : GE (onG A) (onG B) ∧ GOK (onG A) ∧ dkP A = dkP B ∧ dkP A < 4 := by
  obtain ⟨p, hp⟩ := (OnD_or hD).resolve_left hd
  have hp2 : OnD B p := ⟨h.2.2.2.2.1 ▸ hp.1, hp.2.1, h.2.2.2.1 ▸ hp.2.2⟩
  rw [hp.on, hp2.on, hp.dk, hp2.dk]
  exact ⟨h.2.2.2.2.2.2 p hp.2.2 hp.2.1, hD.2.2.2.2 p hp.2.2 hp.2.1, rfl, hp.2.1⟩
theorem DE.pl' {A B : DV} (h : DE A B) : A.pl = B.pl := h.2.2.2.1
theorem DE.dk' {A B : DV} (h : DE A B) : A.dk = B.dk := h.2.2.2.2.1
theorem DE.pp' {A B : DV} (h : DE A B) : A.pp = B.pp := h.2.2.2.2.2.1
theorem DE.hr' {A B : DV} (h : DE A B) : A.hr = B.hr := h.2.2.1
theorem erLay_de {A B : DV} (h : DE A B) (p : Int32) : erLay A p = erLay B p := by
  unfold erLay
  rw [h.pl', h.dk']
theorem erJoin_de {A B : DV} (h : DE A B) (p : Int32) : erJoin A p = erJoin B p := by
  unfold erJoin
  rw [h.pp']
theorem erCome_de {A B : DV} (h : DE A B) : erCome A = erCome B := by
  unfold erCome
  rw [h.pl']
theorem erPass_de {A B : DV} (h : DE A B) (m : Int32) : erPass A m = erPass B m := by
  unfold erPass
  rw [h.hr']
theorem wrOK_de {A B : DV} {G H : GV} (h : DS A B) (k : GE G H) {w j : Nat} (hj : j < 120) : wrOK A G w j = wrOK B H w j := by
  unfold wrOK
  rw [(k j hj).1, (k j hj).2.1, (k j hj).2.2.2, enV_ds h]
theorem erWrite_de {A B : DV} (h : DE A B) (hD : DOK A) (w r c t : Int32) : erWrite A w r c t = erWrite B w r c t := by
  unfold erWrite
  rw [h.pp', h.dk']
  by_cases c1 : ¬ (0 ≤ w ∧ w < B.pp) ∨ B.dk = mI 6 ∨ ¬ Pl r c
  · rw [if_pos c1, if_pos c1]
  · rw [if_neg c1, if_neg c1]
    have hd : ¬ A.dk = mI 6 := fun a => c1 (Or.inr (Or.inl (h.dk' ▸ a)))
    have hP : Pl r c := Decidable.not_not.mp fun a => c1 (Or.inr (Or.inr a))
    rw [wrOK_de h.ds (h.on hD hd).1 (kP_lt hP)]
theorem erProm_de {A B : DV} (h : DE A B) (hD : DOK A) (w r c : Int32) : erProm A w r c = erProm B w r c := by
  unfold erProm
  rw [h.pp', h.dk']
  by_cases c1 : ¬ (0 ≤ w ∧ w < B.pp) ∨ B.dk = mI 6 ∨ ¬ Pl r c
  · rw [if_pos c1, if_pos c1]
  · rw [if_neg c1, if_neg c1]
    have hd : ¬ A.dk = mI 6 := fun a => c1 (Or.inr (Or.inl (h.dk' ▸ a)))
    have hP : Pl r c := Decidable.not_not.mp fun a => c1 (Or.inr (Or.inr a))
    rw [roV_ds h.ds (h.on hD hd).1 (h.on hD hd).2.1 (kP_lt hP)]
theorem erRub_de {A B : DV} (h : DE A B) (hD : DOK A) (r c : Int32) : erRub A r c = erRub B r c := by
  unfold erRub
  rw [h.dk']
  by_cases c1 : B.dk = mI 6 ∨ ¬ Pl r c
  · rw [if_pos c1, if_pos c1]
  · rw [if_neg c1, if_neg c1]
    have hd : ¬ A.dk = mI 6 := fun a => c1 (Or.inl (h.dk' ▸ a))
    have hP : Pl r c := Decidable.not_not.mp fun a => c1 (Or.inr a)
    rw [((h.on hD hd).1 _ (kP_lt hP)).2.1]
theorem erBack_de {A B : DV} (h : DE A B) (hD : DOK A) (r c : Int32) : erBack A r c = erBack B r c := by
  unfold erBack
  rw [h.dk']
  by_cases c1 : B.dk = mI 6 ∨ ¬ Pl r c
  · rw [if_pos c1, if_pos c1]
  · rw [if_neg c1, if_neg c1]
    have hd : ¬ A.dk = mI 6 := fun a => c1 (Or.inl (h.dk' ▸ a))
    have hP : Pl r c := Decidable.not_not.mp fun a => c1 (Or.inr a)
    rw [((h.on hD hd).1 _ (kP_lt hP)).2.2.2]
theorem DE.put {A B : DV} {G H : GV} (h : DE A B) (k : GE G H) (p : Nat) : DE (putG A p G) (putG B p H) :=
  ⟨h.1, h.2.1, h.2.2.1, h.2.2.2.1, h.2.2.2.2.1, h.2.2.2.2.2.1, fun r hr hr4 => by
    show GE (upV A.g p G r) (upV B.g p H r)
    unfold upV
    by_cases c : r = p
    · rw [if_pos c, if_pos c]; exact k
    · rw [if_neg c, if_neg c]; exact h.2.2.2.2.2.2 r hr hr4⟩
theorem neLay_de {A B : DV} (h : DE A B) (p : Int32) : DE (neLay A p) (neLay B p) := h.hdk p
theorem neJoin_de {A B : DV} (h : DE A B) (p : Int32) : DE (neJoin A p) (neJoin B p) := by
  unfold neJoin
  rw [h.pp']
  exact (((h.hpr _ _).hwr _ _).hsp _ _).hpp _
theorem neCome_de {A B : DV} (h : DE A B) {n : Nat} (hn : n < 4) (en : A.pl = nI n) : DE (neCome A) (neCome B) := by
  have en2 : B.pl = nI n := h.pl' ▸ en
  unfold neCome
  rw [en, en2, nI_cl (by omega)]
  refine ⟨h.1, h.2.1, h.2.2.1, rfl, rfl, h.2.2.2.2.2.1, fun r hr hr4 => ?_⟩
  show GE (upV A.g n newV r) (upV B.g n newV r)
  unfold upV
  by_cases c : r = n
  · rw [if_pos c, if_pos c]; exact GE.refl _
  · rw [if_neg c, if_neg c]
    refine h.2.2.2.2.2.2 r ?_ hr4
    rw [en]
    have hr' : nI r < nI n + nI 1 := hr
    rw [nI_add, nI_ltI (by omega) (by omega)] at hr'
    exact nI_lt (by omega) (by omega)
theorem pasG_de {A B : DV} (h : DE A B) (m : Nat) {r : Nat} (hr : nI r < A.pl) (hr4 : r < 4) : GE (pasG A m 4 r) (pasG B m 4 r) := by
  unfold pasG
  rw [h.dk']
  have g := h.2.2.2.2.2.2 r hr hr4
  split
  · exact fun j hj => ⟨by show itV A ((A.g r).l j) m = itV B ((B.g r).l j) m; rw [itV_ds h.ds, (g j hj).1], (g j hj).2⟩
  · exact g
theorem nePass_de {A B : DV} (h : DE A B) (m : Int32) : DE (nePass A m) (nePass B m) := by
  unfold nePass
  rw [h.hr']
  exact ⟨h.1, h.2.1, rfl, h.2.2.2.1, h.2.2.2.2.1, h.2.2.2.2.2.1, fun r hr hr4 => pasG_de h _ hr hr4⟩
theorem vaProm_de {A B : DV} (h : DE A B) (hD : DOK A) (w r c : Int32) (hd : ¬ A.dk = mI 6) : vaProm A w r c = vaProm B w r c ∧ DE (neProm A w r c) (neProm B w r c) := by
  obtain ⟨g, -, e, -⟩ := h.on hD hd
  refine ⟨?_, ?_⟩
  · unfold vaProm
    congr 1
    refine cn_congr fun j hj => ?_
    unfold upV
    rw [(g j hj).2.2.2]
  · unfold neProm
    rw [e]
    exact h.put (g.hp _ _) _
theorem vaBack_de {A B : DV} (h : DE A B) (hD : DOK A) (r c : Int32) (hP : Pl r c) (hd : ¬ A.dk = mI 6) : vaBack A r c = vaBack B r c ∧ DE (neBack A r c) (neBack B r c) := by
  obtain ⟨g, -, e, -⟩ := h.on hD hd
  refine ⟨(g _ (kP_lt hP)).2.2.2, ?_⟩
  unfold neBack
  rw [e]
  exact h.put (g.hp _ _) _
theorem vaRub_de {A B : DV} (h : DE A B) (hD : DOK A) (r c : Int32) (hP : Pl r c) (hd : ¬ A.dk = mI 6) : vaRub A r c = vaRub B r c ∧ DE (neRub A r c) (neRub B r c) := by
  obtain ⟨g, -, e, -⟩ := h.on hD hd
  refine ⟨(g _ (kP_lt hP)).2.1, ?_⟩
  unfold neRub
  rw [e]
  refine h.put (fun j hj => ?_) _
  obtain ⟨g1, g2, g3, g4⟩ := g j hj
  have gk := (g _ (kP_lt hP)).1
  refine ⟨?_, ?_, ?_, g4⟩
  · show upV (onG A).l (kP r c) (FP.fdiv (FP.fadd ((onG A).l (kP r c)) FP.fconst1) FP.fconst2) j = upV (onG B).l (kP r c) (FP.fdiv (FP.fadd ((onG B).l (kP r c)) FP.fconst1) FP.fconst2) j
    unfold upV
    rw [gk, g1]
  · show upV (onG A).t (kP r c) (mI 6) j = upV (onG B).t (kP r c) (mI 6) j
    unfold upV
    rw [g2]
  · show upV (onG A).w (kP r c) (mI 6) j = upV (onG B).w (kP r c) (mI 6) j
    unfold upV
    rw [g3]
theorem vaWrite_de {A B : DV} (h : DE A B) (hD : DOK A) (w r c t : Int32) {wn : Nat} (hw : wn < 5) (ew : w = nI wn) (hd : ¬ A.dk = mI 6) : vaWrite A w r c = vaWrite B w r c ∧ DE (neWrite A w r c t) (neWrite B w r c t) := by
  obtain ⟨g, -, e, e4⟩ := h.on hD hd
  subst ew
  unfold vaWrite neWrite wriV
  rw [nI_cl (by omega), e]
  have el : lostV A (onG A) wn (kP r c) 120 = lostV B (onG B) wn (kP r c) 120 := lostV_ds h.ds g hw _ (Nat.le_refl _)
  have ea : A.g (dkP B) = onG A := by unfold onG; rw [e]
  have eb : B.g (dkP B) = onG B := rfl
  rw [ea, eb, el]
  refine ⟨rfl, ?_⟩
  have q := ((h.put (markV_ds h.ds g hw (kP r c) t) (dkP B)).hwr wn (A.wr wn + nI 1)).hsp wn (A.sp wn + nI (lostV B (onG B) wn (kP r c) 120))
  rw [(h.2.1 wn hw).2.1, (h.2.1 wn hw).2.2] at q
  rw [(h.2.1 wn hw).2.1, (h.2.1 wn hw).2.2]
  exact q

theorem erWrite_0 {D : DV} {w r c t : Int32} (h : erWrite D w r c t = nI 0) : (0 ≤ w ∧ w < D.pp) ∧ ¬ D.dk = mI 6 ∧ Pl r c ∧ (0 ≤ t ∧ t < nI 26) ∧ wrOK D (onG D) w.toNatClampNeg (kP r c) = true := by
  unfold erWrite at h
  by_cases c1 : ¬ (0 ≤ w ∧ w < D.pp) ∨ D.dk = mI 6 ∨ ¬ Pl r c
  · rw [if_pos c1] at h
    exact absurd h (by decide)
  · rw [if_neg c1] at h
    by_cases c2 : ¬ (0 ≤ t ∧ t < nI 26)
    · rw [if_pos c2] at h
      exact absurd h (by decide)
    · rw [if_neg c2] at h
      by_cases c3 : wrOK D (onG D) w.toNatClampNeg (kP r c) = true
      · exact ⟨Decidable.not_not.mp fun a => c1 (Or.inl a), fun a => c1 (Or.inr (Or.inl a)), Decidable.not_not.mp fun a => c1 (Or.inr (Or.inr a)), Decidable.not_not.mp c2, c3⟩
      · rw [if_neg c3] at h
        exact absurd h (by decide)
theorem erProm_0 {D : DV} {w r c : Int32} (h : erProm D w r c = nI 0) : (0 ≤ w ∧ w < D.pp) ∧ ¬ D.dk = mI 6 ∧ Pl r c := by
  unfold erProm at h
  by_cases c1 : ¬ (0 ≤ w ∧ w < D.pp) ∨ D.dk = mI 6 ∨ ¬ Pl r c
  · rw [if_pos c1] at h
    exact absurd h (by decide)
  · exact ⟨Decidable.not_not.mp fun a => c1 (Or.inl a), fun a => c1 (Or.inr (Or.inl a)), Decidable.not_not.mp fun a => c1 (Or.inr (Or.inr a))⟩
theorem erRub_0 {D : DV} {r c : Int32} (h : erRub D r c = nI 0) : ¬ D.dk = mI 6 ∧ Pl r c ∧ ¬ vaRub D r c = mI 6 := by
  unfold erRub at h
  by_cases c1 : D.dk = mI 6 ∨ ¬ Pl r c
  · rw [if_pos c1] at h
    exact absurd h (by decide)
  · rw [if_neg c1] at h
    refine ⟨fun a => c1 (Or.inl a), Decidable.not_not.mp fun a => c1 (Or.inr a), fun a => ?_⟩
    unfold vaRub at a
    rw [if_pos a] at h
    exact absurd h (by decide)
theorem erPass_0 {D : DV} {m : Int32} (h : erPass D m = nI 0) : ∃ k, 1 ≤ k ∧ k ≤ 48 ∧ m = nI k := by
  unfold erPass at h
  by_cases c1 : ¬ (nI 1 ≤ m ∧ m ≤ nI 48)
  · rw [if_pos c1] at h
    exact absurd h (by decide)
  · have c := Decidable.not_not.mp c1
    have h0 : 0 ≤ m := Int32.le_trans (by decide) c.1
    obtain ⟨k, hk, rfl⟩ := vp_in_of ((in_cmp (n := 49) (by omega)).mpr ⟨h0, Int32.lt_of_le_of_lt c.2 (by decide)⟩) (by omega)
    exact ⟨k, (nI_leI (by omega) (by omega)).mp c.1, by omega, rfl⟩
theorem GOK_new : GOK newV := fun _ _ => ⟨okL_1, Or.inl ⟨rfl, rfl⟩, Or.inl rfl⟩
theorem GOK_p {G : GV} (h : GOK G) {k : Nat} {v : Int32} (hv : v = mI 6 ∨ ∃ b, b < 5 ∧ v = nI b) : GOK (sf_p G (upV G.p k v)) := fun i hi => by
  obtain ⟨h1, h2, h3⟩ := h i hi
  refine ⟨h1, h2, ?_⟩
  show upV G.p k v i = mI 6 ∨ ∃ b, b < 5 ∧ upV G.p k v i = nI b
  unfold upV
  by_cases c : i = k
  · rw [if_pos c]; exact hv
  · rw [if_neg c]; exact h3
theorem GOK_rub {G : GV} (h : GOK G) {k : Nat} (hk : k < 120) : GOK (rubV G k) := fun i hi => by
  obtain ⟨h1, h2, h3⟩ := h i hi
  refine ⟨?_, ?_, h3⟩
  · show okL (upV G.l k (FP.fdiv (FP.fadd (G.l k) FP.fconst1) FP.fconst2) i)
    unfold upV
    by_cases c : i = k
    · rw [if_pos c]; exact (fl_rub (h k hk).1).2.2
    · rw [if_neg c]; exact h1
  · show (upV G.t k (mI 6) i = mI 6 ∧ upV G.w k (mI 6) i = mI 6) ∨ ∃ a b, a < 26 ∧ b < 5 ∧ upV G.t k (mI 6) i = nI a ∧ upV G.w k (mI 6) i = nI b
    unfold upV
    by_cases c : i = k
    · rw [if_pos c, if_pos c]; exact Or.inl ⟨rfl, rfl⟩
    · rw [if_neg c, if_neg c]; exact h2
theorem DOK.put {D : DV} (h : DOK D) {p : Nat} {G : GV} (hG : GOK G) : DOK (putG D p G) := by
  obtain ⟨h1, h2, h3, h4, h5⟩ := h
  refine ⟨h1, h2, h3, h4, fun r hr hr4 => ?_⟩
  show GOK (upV D.g p G r)
  unfold upV
  by_cases c : r = p
  · rw [if_pos c]; exact hG
  · rw [if_neg c]; exact h5 r hr hr4
theorem DOK.on {D : DV} (h : DOK D) (hd : ¬ D.dk = mI 6) : GOK (onG D) := ((DE.refl D).on h hd).2.1
theorem DOK.lay {D : DV} (h : DOK D) {p : Int32} (e : erLay D p = nI 0) : DOK (neLay D p) := by
  have h0 := h
  obtain ⟨h1, h2, ⟨n, hn, en, -⟩, h4, h5⟩ := h
  refine ⟨h1, h2, ⟨n, hn, en, Or.inr ?_⟩, h4, h5⟩
  unfold erLay at e
  by_cases c : ¬ (0 ≤ p ∧ p < D.pl)
  · rw [if_pos c] at e; exact absurd e (by decide)
  · have c := Decidable.not_not.mp c
    obtain ⟨k, hk, ek⟩ := vp_in_of ((in_cmp (by omega)).mpr (en ▸ c)) (by omega)
    exact ⟨k, by omega, ek⟩
theorem erJoin_0 {D : DV} {p : Int32} (e : erJoin D p = nI 0) : (∃ k, 1 ≤ k ∧ k ≤ 5 ∧ p = nI k) ∧ ¬ D.pp = nI 5 := by
  unfold erJoin at e
  by_cases c : ¬ (nI 1 ≤ p ∧ p ≤ nI 5)
  · rw [if_pos c] at e; exact absurd e (by decide)
  · rw [if_neg c] at e
    by_cases c2 : D.pp = nI 5
    · rw [if_pos c2] at e; exact absurd e (by decide)
    · have c := Decidable.not_not.mp c
      have h0 : 0 ≤ p := Int32.le_trans (by decide) c.1
      obtain ⟨k, hk, rfl⟩ := vp_in_of ((in_cmp (n := 6) (by omega)).mpr ⟨h0, Int32.lt_of_le_of_lt c.2 (by decide)⟩) (by omega)
      exact ⟨⟨k, (nI_leI (by omega) (by omega)).mp c.1, by omega, rfl⟩, c2⟩
theorem DOK.join {D : DV} (h : DOK D) {p : Int32} (e : erJoin D p = nI 0) : DOK (neJoin D p) := by
  obtain ⟨⟨k, k1, k5, rfl⟩, e5⟩ := erJoin_0 e
  obtain ⟨⟨s1, s2, s3, s4, s5⟩, h2, h3, ⟨n, hn, en⟩, h5⟩ := h
  have hn5 : n < 5 := by
    apply Nat.lt_of_le_of_ne hn
    intro a
    exact e5 (by rw [en, a])
  refine ⟨⟨s1, s2, s3, s4, fun i hi => ?_⟩, h2, h3, ⟨n + 1, by omega, ?_⟩, h5⟩
  · show ∃ a, a ≤ 5 ∧ upV D.pr D.pp.toNatClampNeg (nI k) i = nI a
    unfold upV
    by_cases c : i = D.pp.toNatClampNeg
    · rw [if_pos c]; exact ⟨k, k5, rfl⟩
    · rw [if_neg c]; exact s5 i hi
  · show D.pp + nI 1 = nI (n + 1)
    rw [en, nI_add]
theorem erCome_0 {D : DV} (h : DOK D) (e : erCome D = nI 0) : ∃ n, n < 4 ∧ D.pl = nI n := by
  obtain ⟨n, hn, en⟩ := h.pl
  refine ⟨n, ?_, en⟩
  unfold erCome at e
  by_cases c : D.pl = nI 4
  · rw [if_pos c] at e; exact absurd e (by decide)
  · apply Nat.lt_of_le_of_ne hn
    intro a
    exact c (by rw [en, a])
theorem DOK.come {D : DV} (h : DOK D) (e : erCome D = nI 0) : DOK (neCome D) := by
  obtain ⟨n, hn, en⟩ := erCome_0 h e
  obtain ⟨h1, h2, -, h4, h5⟩ := h
  refine ⟨h1, h2, ⟨n + 1, by omega, ?_, Or.inr ⟨n, by omega, en⟩⟩, h4, fun r hr hr4 => ?_⟩
  · show D.pl + nI 1 = nI (n + 1)
    rw [en, nI_add]
  · show GOK (upV D.g D.pl.toNatClampNeg newV r)
    have hr : nI r < D.pl + nI 1 := hr
    rw [en, nI_add, nI_ltI (by omega) (by omega)] at hr
    rw [en, nI_cl (by omega)]
    unfold upV
    by_cases c : r = n
    · rw [if_pos c]; exact GOK_new
    · rw [if_neg c]; exact h5 r (by rw [en, nI_ltI (by omega) (by omega)]; omega) hr4
theorem DOK.write {D : DV} (h : DOK D) {w r c t : Int32} (e : erWrite D w r c t = nI 0) : DOK (neWrite D w r c t) := by
  obtain ⟨c1, c2, c3, c4, -⟩ := erWrite_0 e
  obtain ⟨n, hn, en⟩ := h.pp
  obtain ⟨wn, hwn, ew⟩ := vp_in_of ((in_cmp (by omega)).mpr (en ▸ c1)) (by omega)
  obtain ⟨an, han, ea⟩ := vp_in_of ((in_cmp (by omega)).mpr c4) (by omega)
  have hg : GOK (markV D (D.g (dkP D)) wn (kP r c) (nI an)) := GOK_mark h.1 (h.on c2) (by omega) han
  have := h.put (p := dkP D) hg
  unfold neWrite wriV
  rw [ew, nI_cl (by omega), ea]
  exact this
theorem DOK.prom {D : DV} (h : DOK D) {w r c : Int32} (e : erProm D w r c = nI 0) : DOK (neProm D w r c) := by
  obtain ⟨c1, c2, c3⟩ := erProm_0 e
  obtain ⟨n, hn, en⟩ := h.pp
  obtain ⟨wn, hwn, ew⟩ := vp_in_of ((in_cmp (by omega)).mpr (en ▸ c1)) (by omega)
  exact h.put (GOK_p (h.on c2) (Or.inr ⟨wn, by omega, ew⟩))
theorem DOK.rub {D : DV} (h : DOK D) {r c : Int32} (e : erRub D r c = nI 0) : DOK (neRub D r c) := by
  obtain ⟨c1, c2, -⟩ := erRub_0 e
  exact h.put (GOK_rub (h.on c1) (kP_lt c2))
theorem erBack_0 {D : DV} {r c : Int32} (h : erBack D r c = nI 0) : ¬ D.dk = mI 6 ∧ Pl r c ∧ ¬ vaBack D r c = mI 6 := by
  unfold erBack at h
  by_cases c1 : D.dk = mI 6 ∨ ¬ Pl r c
  · rw [if_pos c1] at h
    exact absurd h (by decide)
  · rw [if_neg c1] at h
    refine ⟨fun a => c1 (Or.inl a), Decidable.not_not.mp fun a => c1 (Or.inr a), fun a => ?_⟩
    unfold vaBack at a
    rw [if_pos a] at h
    exact absurd h (by decide)
theorem DOK.back {D : DV} (h : DOK D) {r c : Int32} (e : erBack D r c = nI 0) : DOK (neBack D r c) :=
  h.put (GOK_p (h.on (erBack_0 e).1) (Or.inl rfl))
theorem DOK.pass {D : DV} (h : DOK D) {m : Int32} (e : erPass D m = nI 0) : DOK (nePass D m) := by
  obtain ⟨k, k1, k2, rfl⟩ := erPass_0 e
  have h0 := h
  obtain ⟨h1, ⟨v, hv, ev⟩, h3, h4, h5⟩ := h
  refine ⟨h1, ?_, h3, h4, fun r hr hr4 => ?_⟩
  · unfold erPass at e
    by_cases c1 : ¬ (nI 1 ≤ nI k ∧ nI k ≤ nI 48)
    · rw [if_pos c1] at e
      exact absurd e (by decide)
    · rw [if_neg c1] at e
      by_cases c2 : nI 9999 < D.hr + nI k
      · rw [if_pos c2] at e
        exact absurd e (by decide)
      · rw [ev, nI_add, nI_ltI (by omega) (by omega)] at c2
        refine ⟨v + k, by omega, ?_⟩
        show D.hr + nI k = nI (v + k)
        rw [ev, nI_add]
  · show GOK (pasG D (nI k).toNatClampNeg 4 r)
    rw [nI_cl (by omega)]
    unfold pasG
    have g := h5 r hr hr4
    split
    · exact fun j hj => ⟨okL_itV h1 (g j hj).1 k, (g j hj).2⟩
    · exact g
theorem leastK_le (k : Nat) : leastK k ≤ 1 := by
  unfold leastK
  split <;> omega
theorem DOK.set {D : DV} (h : DOK D) {k : Nat} {v : Int32} (hk : k < 4) (hv : ¬ (v < nI (leastK k) ∨ nI (mostK k) < v)) : DOK (sf_st D (upV D.st k v)) := by
  obtain ⟨⟨s1, s2, s3, s4, s5⟩, h2, h3, h4, h5⟩ := h
  have q : ∀ a b, leastK k = a → mostK k = b → b < 100 → ∃ c, (a ≤ c ∧ c ≤ b) ∧ v = nI c := fun a b e1 e2 hb => by
    rw [e1, e2] at hv
    have v1 : nI a ≤ v := Int32.not_lt.mp fun x => hv (Or.inl x)
    have v2 : v ≤ nI b := Int32.not_lt.mp fun x => hv (Or.inr x)
    have v0 : 0 ≤ v := Int32.not_lt.mp fun x => by
      have x1 := Int32.lt_iff_toInt_lt.mp x
      have x2 := Int32.le_iff_toInt_le.mp v1
      have x3 := Int32.le_iff_toInt_le.mp v2
      by_cases ha : a ≤ b
      · rw [nI_toInt (by omega)] at x2
        rw [show (0 : Int32).toInt = 0 from rfl] at x1
        omega
      · have := leastK_le k
        rw [e1] at this
        rw [nI_toInt (by omega)] at x2
        rw [show (0 : Int32).toInt = 0 from rfl] at x1
        omega
    have x3 := Int32.le_iff_toInt_le.mp v2
    rw [nI_toInt (by omega)] at x3
    have v3 : v < nI (b + 1) := by
      rw [Int32.lt_iff_toInt_lt, nI_toInt (by omega)]
      omega
    obtain ⟨c, hc, rfl⟩ := vp_in_of ((in_cmp (by omega)).mpr ⟨v0, v3⟩) (by omega)
    exact ⟨c, ⟨(nI_leI (by have := leastK_le k; omega) (by omega)).mp v1, by omega⟩, rfl⟩
  have st : ∀ j, ¬ j = k → upV D.st k v j = D.st j := fun j hj => if_neg hj
  have sk : upV D.st k v k = v := if_pos rfl
  refine ⟨⟨?_, ?_, ?_, ?_, s5⟩, h2, h3, h4, h5⟩
  · show ∃ a, a ≤ 18 ∧ upV D.st k v 0 = nI a
    by_cases c : 0 = k
    · subst c
      obtain ⟨c, c1, c2⟩ := q 0 18 rfl rfl (by omega)
      exact ⟨c, c1.2, sk.trans c2⟩
    · rw [st 0 c]; exact s1
  · show ∃ a, a ≤ 9 ∧ upV D.st k v 1 = nI a
    by_cases c : 1 = k
    · subst c
      obtain ⟨c, c1, c2⟩ := q 0 9 rfl rfl (by omega)
      exact ⟨c, c1.2, sk.trans c2⟩
    · rw [st 1 c]; exact s2
  · show ∃ a, (1 ≤ a ∧ a ≤ 99) ∧ upV D.st k v 2 = nI a
    by_cases c : 2 = k
    · subst c
      obtain ⟨c, c1, c2⟩ := q 1 99 rfl rfl (by omega)
      exact ⟨c, c1, sk.trans c2⟩
    · rw [st 2 c]; exact s3
  · show ∃ a, a ≤ 50 ∧ upV D.st k v 3 = nI a
    by_cases c : 3 = k
    · subst c
      obtain ⟨c, c1, c2⟩ := q 0 50 rfl rfl (by omega)
      exact ⟨c, c1.2, sk.trans c2⟩
    · rw [st 3 c]; exact s4
/-- the class's conditions, by the error and what is left -/
theorem kP_of {r c : Int32} {a b : Nat} (ha : a < 10) (hb : b < 12) (e1 : r = nI a) (e2 : c = nI b) : kP r c = a * 12 + b ∧ Pl r c := by
  subst e1 e2
  exact ⟨kP_n ha hb, nI_pos' (by omega), (nI_ltI (by omega) (by omega)).mpr ha, nI_pos' (by omega), (nI_ltI (by omega) (by omega)).mpr hb⟩
theorem cl_lay {D : DV} {p : Int32} {K : Int32 → DV → Bool → Prop} (hD : DOK D) (h1 : ∀ v, v = erLay D p → ¬ v = nI 0 → v < 0 → K v D false) (h2 : erLay D p = nI 0 → 0 ≤ D.dk → ∀ D', DE D' (neLay D p) → K D.dk D' true) :
    (¬ (0 ≤ p ∧ p < D.pl) → K (mI 1) D false) ∧ (0 ≤ p ∧ p < D.pl → p = D.dk → K (mI 5) D false) ∧ (0 ≤ p ∧ p < D.pl → ¬ p = D.dk → K D.dk (sf_dk D (p)) true) := by
  unfold erLay at h1 h2
  refine ⟨fun c => h1 _ (by rw [if_pos c]) (by decide) (by decide), fun c d => h1 _ (by rw [if_neg (fun a => a c), if_pos d]) (by decide) (by decide), fun c d => h2 (by rw [if_neg (fun a => a c), if_neg d]) ?_ _ (DE.refl _)⟩
  obtain ⟨n, hn, en, a | ⟨q, hq, eq⟩⟩ := hD.2.2.1
  · rw [en, a.2] at c
    exact absurd (Int32.lt_of_le_of_lt c.1 c.2) (by decide)
  · rw [eq]; exact nI_pos' (by omega)
theorem cl_join {D : DV} {p : Int32} {K : Int32 → DV → Bool → Prop} (hD : DOK D) (h1 : ∀ v, v = erJoin D p → ¬ v = nI 0 → v < 0 → K v D false) (h2 : erJoin D p = nI 0 → ∀ n, n < 5 → D.pp = nI n → ∀ D', DE D' (neJoin D p) → K (nI n) D' true) :
    (p < nI 1 ∨ nI 5 < p → K (mI 2) D false) ∧ (¬ (p < nI 1 ∨ nI 5 < p) → nI 5 ≤ D.pp → K (mI 4) D false) ∧ (¬ (p < nI 1 ∨ nI 5 < p) → ∀ n, n < 5 → D.pp = nI n → K (nI n) (sf_pp (sf_sp (sf_wr (sf_pr D (upV D.pr n p)) (upV D.wr n (nI 0))) (upV D.sp n (nI 0))) (nI (n + 1))) true) := by
  unfold erJoin at h1 h2
  have q : ¬ (p < nI 1 ∨ nI 5 < p) ↔ nI 1 ≤ p ∧ p ≤ nI 5 := by
    rw [not_or, Int32.not_lt, Int32.not_lt]
  obtain ⟨m, hm, em⟩ := hD.pp
  refine ⟨fun c => h1 _ (by rw [if_pos (fun a => q.mpr a c)]) (by decide) (by decide), fun c d => h1 _ ?_ (by decide) (by decide), fun c n hn en => h2 ?_ n hn en _ ?_⟩
  · rw [if_neg (fun a => a (q.mp c)), if_pos]
    rw [em] at d ⊢
    rw [nI_leI (by omega) (by omega)] at d
    rw [show m = 5 by omega]
  · rw [if_neg (fun a => a (q.mp c)), if_neg]
    rw [en, nI_eq (by omega) (by omega)]
    omega
  · unfold neJoin
    rw [en, nI_cl (by omega), nI_add]
    exact DE.refl _
theorem cl_come {D : DV} {K : Int32 → DV → Bool → Prop} (hD : DOK D) (h1 : ∀ v, v = erCome D → ¬ v = nI 0 → v < 0 → K v D false) (h2 : erCome D = nI 0 → ∀ n, n < 4 → D.pl = nI n → ∀ D', DE D' (neCome D) → K (nI n) D' true) :
    (nI 4 ≤ D.pl → K (mI 4) D false) ∧ (∀ n, n < 4 → D.pl = nI n → ∀ N, GE N newV → K (nI n) (sf_dk (sf_pl (putG D n N) (nI (n + 1))) (nI n)) true) := by
  unfold erCome at h1 h2
  obtain ⟨m, hm, em⟩ := hD.pl
  refine ⟨fun c => h1 _ ?_ (by decide) (by decide), fun n hn en N hN => h2 ?_ n hn en _ ?_⟩
  · rw [if_pos]
    rw [em] at c ⊢
    rw [nI_leI (by omega) (by omega)] at c
    rw [show m = 4 by omega]
  · rw [if_neg]
    rw [en, nI_eq (by omega) (by omega)]
    omega
  · unfold neCome
    rw [en, nI_cl (by omega), nI_add]
    have := (DE.refl D).put hN n
    exact ⟨this.1, this.2.1, this.2.2.1, rfl, rfl, this.2.2.2.2.2.1, fun r _ _ => by
      show GE (upV D.g n N r) (upV D.g n newV r)
      unfold upV
      split
      · exact hN
      · exact GE.refl _⟩
theorem cl_write {D : DV} {w r c t : Int32} {K : Int32 → DV → Bool → Prop} (h1 : ∀ v, v = erWrite D w r c t → ¬ v = nI 0 → v < 0 → K v D false) (h2 : erWrite D w r c t = nI 0 → ∀ D', DE D' (neWrite D w r c t) → K (vaWrite D w r c) D' true) :
    (¬ (0 ≤ w ∧ w < D.pp) ∨ D.dk = mI 6 ∨ ¬ Pl r c → K (mI 1) D false) ∧ ∀ p a b wn, OnD D p → a < 10 → b < 12 → r = nI a → c = nI b → 0 ≤ w → w < D.pp → w = nI wn → wn < 5 → (t < nI 0 ∨ nI 26 ≤ t → K (mI 2) D false) ∧
    (¬ (t < nI 0 ∨ nI 26 ≤ t) → (¬ wrOK D (D.g p) wn (a * 12 + b) = true → K (mI 5) D false) ∧ (wrOK D (D.g p) wn (a * 12 + b) = true → K (nI (lostV D (D.g p) wn (a * 12 + b) 120)) (wriV D p wn (a * 12 + b) t) true)) := by
  unfold erWrite at h1 h2
  refine ⟨fun q => h1 _ (by rw [if_pos q]) (by decide) (by decide), fun p a b wn hp ha hb e1 e2 w1 w2 ew hw => ?_⟩
  obtain ⟨k1, k2⟩ := kP_of ha hb e1 e2
  have n1 : ¬ (¬ (0 ≤ w ∧ w < D.pp) ∨ D.dk = mI 6 ∨ ¬ Pl r c) := fun x => x.elim (fun y => y ⟨w1, w2⟩) (fun y => y.elim (fun z => by rw [hp.1] at z; exact nI_ne_mI (by have := hp.2.1; omega) (by omega) (by omega) z) (fun z => z k2))
  have ht : ¬ (0 ≤ t ∧ t < nI 26) ↔ t < nI 0 ∨ nI 26 ≤ t := by
    rw [nI_0, Decidable.not_and_iff_or_not, Int32.not_le, Int32.not_lt]
  rw [if_neg n1, hp.on, k1, ew, nI_cl (by omega)] at h1 h2
  have v1 : vaWrite D (nI wn) r c = nI (lostV D (D.g p) wn (a * 12 + b) 120) := by
    unfold vaWrite
    rw [hp.on, k1, nI_cl (by omega)]
  have v2 : neWrite D (nI wn) r c t = wriV D p wn (a * 12 + b) t := by
    unfold neWrite
    rw [hp.dk, k1, nI_cl (by omega)]
  rw [v1, v2] at h2
  refine ⟨fun q => h1 _ (by rw [if_pos (ht.mpr q)]) (by decide) (by decide), fun q => ⟨fun d => h1 _ ?_ (by decide) (by decide), fun d => h2 ?_ _ (DE.refl _)⟩⟩
  · rw [if_neg (fun x => q (ht.mp x)), if_neg d]
  · rw [if_neg (fun x => q (ht.mp x)), if_pos d]
theorem cl_prom {D : DV} {w r c : Int32} {K : Int32 → DV → Bool → Prop} (h1 : ∀ v, v = erProm D w r c → ¬ v = nI 0 → v < 0 → K v D false) (h2 : erProm D w r c = nI 0 → ∀ D', DE D' (neProm D w r c) → K (vaProm D w r c) D' true) :
    (¬ (0 ≤ w ∧ w < D.pp) ∨ D.dk = mI 6 ∨ ¬ Pl r c → K (mI 1) D false) ∧ ∀ p a b, OnD D p → a < 10 → b < 12 → r = nI a → c = nI b → 0 ≤ w → w < D.pp → (¬ roV D (D.g p) (a * 12 + b) = true → K (mI 5) D false) ∧
    (roV D (D.g p) (a * 12 + b) = true → K (nI (cn (fun j => !decide (upV (D.g p).p (a * 12 + b) w j = mI 6)) 120)) (putG D p (sf_p (D.g p) (upV (D.g p).p (a * 12 + b) w))) true) := by
  unfold erProm at h1 h2
  refine ⟨fun q => h1 _ (by rw [if_pos q]) (by decide) (by decide), fun p a b hp ha hb e1 e2 w1 w2 => ?_⟩
  obtain ⟨k1, k2⟩ := kP_of ha hb e1 e2
  have n1 : ¬ (¬ (0 ≤ w ∧ w < D.pp) ∨ D.dk = mI 6 ∨ ¬ Pl r c) := fun x => x.elim (fun y => y ⟨w1, w2⟩) (fun y => y.elim (fun z => by rw [hp.1] at z; exact nI_ne_mI (by have := hp.2.1; omega) (by omega) (by omega) z) (fun z => z k2))
  rw [if_neg n1, hp.on, k1] at h1 h2
  unfold vaProm neProm at h2
  rw [hp.dk, hp.on, k1] at h2
  exact ⟨fun d => h1 _ (by rw [if_neg d]) (by decide) (by decide), fun d => h2 (by rw [if_pos d]) _ (DE.refl _)⟩
theorem cl_rub {D : DV} {r c : Int32} {K : Int32 → DV → Bool → Prop} (h1 : ∀ v, v = erRub D r c → ¬ v = nI 0 → v < 0 → K v D false) (h2 : erRub D r c = nI 0 → ∀ D', DE D' (neRub D r c) → K (vaRub D r c) D' true) :
    (D.dk = mI 6 ∨ ¬ Pl r c → K (mI 1) D false) ∧ ∀ p a b, OnD D p → a < 10 → b < 12 → r = nI a → c = nI b → ((D.g p).t (a * 12 + b) = mI 6 → K (mI 5) D false) ∧ (¬ (D.g p).t (a * 12 + b) = mI 6 → K ((D.g p).t (a * 12 + b)) (putG D p (rubV (D.g p) (a * 12 + b))) true) := by
  unfold erRub at h1 h2
  refine ⟨fun q => h1 _ (by rw [if_pos q]) (by decide) (by decide), fun p a b hp ha hb e1 e2 => ?_⟩
  obtain ⟨k1, k2⟩ := kP_of ha hb e1 e2
  have n1 : ¬ (D.dk = mI 6 ∨ ¬ Pl r c) := fun y => y.elim (fun z => by rw [hp.1] at z; exact nI_ne_mI (by have := hp.2.1; omega) (by omega) (by omega) z) (fun z => z k2)
  rw [if_neg n1, hp.on, k1] at h1 h2
  unfold vaRub neRub at h2
  rw [hp.dk, hp.on, k1] at h2
  exact ⟨fun d => h1 _ (by rw [if_pos d]) (by decide) (by decide), fun d => h2 (by rw [if_neg d]) _ (DE.refl _)⟩
theorem cl_back {D : DV} {r c : Int32} {K : Int32 → DV → Bool → Prop} (h1 : ∀ v, v = erBack D r c → ¬ v = nI 0 → v < 0 → K v D false) (h2 : erBack D r c = nI 0 → ∀ D', DE D' (neBack D r c) → K (vaBack D r c) D' true) :
    (D.dk = mI 6 ∨ ¬ Pl r c → K (mI 1) D false) ∧ ∀ p a b, OnD D p → a < 10 → b < 12 → r = nI a → c = nI b → ((D.g p).p (a * 12 + b) = mI 6 → K (mI 5) D false) ∧ (¬ (D.g p).p (a * 12 + b) = mI 6 → K ((D.g p).p (a * 12 + b)) (putG D p (sf_p (D.g p) (upV (D.g p).p (a * 12 + b) (mI 6)))) true) := by
  unfold erBack at h1 h2
  refine ⟨fun q => h1 _ (by rw [if_pos q]) (by decide) (by decide), fun p a b hp ha hb e1 e2 => ?_⟩
  obtain ⟨k1, k2⟩ := kP_of ha hb e1 e2
  have n1 : ¬ (D.dk = mI 6 ∨ ¬ Pl r c) := fun y => y.elim (fun z => by rw [hp.1] at z; exact nI_ne_mI (by have := hp.2.1; omega) (by omega) (by omega) z) (fun z => z k2)
  rw [if_neg n1, hp.on, k1] at h1 h2
  unfold vaBack neBack at h2
  rw [hp.dk, hp.on, k1] at h2
  exact ⟨fun d => h1 _ (by rw [if_pos d]) (by decide) (by decide), fun d => h2 (by rw [if_neg d]) _ (DE.refl _)⟩
theorem cl_pass {D : DV} {m : Int32} {K : Int32 → DV → Bool → Prop} (h1 : ∀ v, v = erPass D m → ¬ v = nI 0 → v < 0 → K v D false) (h2 : erPass D m = nI 0 → 0 ≤ D.hr + m → ∀ D', DE D' (nePass D m) → K (D.hr + m) D' true) :
    (m < nI 1 ∨ nI 48 < m → K (mI 2) D false) ∧ ∀ k h, 1 ≤ k → k ≤ 48 → m = nI k → D.hr = nI h → h ≤ 9999 → (9999 < h + k → K (mI 5) D false) ∧ (h + k ≤ 9999 → K (nI (h + k)) (sf_g (sf_hr D (nI (h + k))) (pasG D k 4)) true) := by
  unfold erPass at h1 h2
  have q : ¬ (m < nI 1 ∨ nI 48 < m) ↔ nI 1 ≤ m ∧ m ≤ nI 48 := by
    rw [not_or, Int32.not_lt, Int32.not_lt]
  refine ⟨fun c => h1 _ (by rw [if_pos (fun a => q.mpr a c)]) (by decide) (by decide), fun k h k1 k2 em eh hh => ?_⟩
  subst em
  have q1 : nI 1 ≤ nI k ∧ nI k ≤ nI 48 := ⟨(nI_leI (by omega) (by omega)).mpr k1, (nI_leI (by omega) (by omega)).mpr k2⟩
  rw [if_neg (fun a => a q1), eh, nI_add] at h1 h2
  unfold nePass at h2
  rw [eh, nI_add, nI_cl (by omega)] at h2
  refine ⟨fun c => h1 _ ?_ (by decide) (by decide), fun c => h2 ?_ (nI_pos' (by omega)) _ (DE.refl _)⟩
  · rw [if_pos ((nI_ltI (by omega) (by omega)).mpr c)]
  · rw [if_neg (fun a => by rw [nI_ltI (by omega) (by omega)] at a; omega)]
theorem DE.onD {A B : DV} (h : DE A B) {p : Nat} (hp : OnD A p) : OnD B p := ⟨by rw [← h.dk']; exact hp.1, hp.2.1, by rw [← h.pl']; exact hp.2.2⟩
theorem DE.gg {A B : DV} (h : DE A B) {p : Nat} (hp : OnD A p) : GE (A.g p) (B.g p) := h.2.2.2.2.2.2 p hp.2.2 hp.2.1
theorem DOK.gg {A : DV} (h : DOK A) {p : Nat} (hp : OnD A p) : GOK (A.g p) := h.2.2.2.2 p hp.2.2 hp.2.1
theorem ahV_ds {A B : DV} {G H : GV} (h : DS A B) (k : GE G H) (hG : GOK G) {j : Nat} (hj : j < 120) : ahV A G j = ahV B H j := by
  unfold ahV
  rw [(k j hj).1, aheadV_ds h k hG _ _ 120 (Nat.le_refl _)]
theorem bI_eq {a b : Bool} (h : a = b) : bI (a = true) = bI (b = true) := by rw [h]
theorem atV_de {A B : DV} (h : DE A B) (hD : DOK A) {p k : Nat} (hp : OnD A p) (hk : k < 120) (w : Int32) : atV A p k w = atV B p k w := by
  have g := h.gg hp
  have hG := hD.gg hp
  unfold atV
  rw [(g k hk).2.1, (g k hk).2.2.1, (g k hk).2.2.2, (g k hk).1, ahV_ds h.ds g hG hk, bI_eq (roV_ds h.ds g hG hk), bI_eq (rdV_ds h.ds g hk)]
theorem runS_congr {p q : Nat → Bool} {n : Nat} (h : ∀ j, j < n → p j = q j) : runS p n = runS q n := fo_congr (fun j hj x => by rw [h j hj])
theorem setB_congr {p q : Nat → Bool} {n : Nat} (h : ∀ j, j < n → p j = q j) : setB p n = setB q n := fo_congr (fun j hj x => by rw [h j hj])
theorem rowV_de {A B : DV} (h : DE A B) (hD : DOK A) {p r : Nat} (hp : OnD A p) (hr : r < 10) (q : Int32) : rowV A (A.g p) r q = rowV B (B.g p) r q := by
  have g := h.gg hp
  have hG := hD.gg hp
  have e : ∀ s c, c < 12 → isV A (A.g p) (r * 12 + c) s = isV B (B.g p) (r * 12 + c) s := fun s c hc => isV_ds h.ds g hG (by omega) s
  unfold rowV colV
  rw [runS_congr (e 1), setB_congr (e (wh q))]
theorem ofG_ds {A B : DV} {G H : GV} (h : DS A B) (k : GE G H) (hG : GOK G) (w q c : Nat) : ofG A G w q 120 c = ofG B H w q 120 c := by
  unfold ofG
  refine fo_congr fun j hj x => ?_
  have e : whoV G j q = whoV H j q := by
    unfold whoV
    rw [(k j hj).2.2.1, (k j hj).2.2.2]
  rw [e, isV_ds h k hG hj]
theorem ofV_de {A B : DV} (h : DE A B) (hD : DOK A) {n : Nat} (hn : n ≤ 4) (en : A.pl = nI n) (w q : Nat) : ofV A w q n = ofV B w q n := by
  unfold ofV
  refine fo_congr fun j hj x => ?_
  have hj2 : nI j < A.pl := by rw [en]; exact (nI_ltI (by omega) (by omega)).mpr hj
  exact ofG_ds h.ds (h.2.2.2.2.2.2 j hj2 (by omega)) (hD.2.2.2.2 j hj2 (by omega)) _ _ _
theorem leF_congr {f g : Nat → UInt32} (h : ∀ j, j < 120 → f j = g j) : leF f 119 = leF g 119 := by
  unfold leF
  rw [h 0 (by omega)]
  exact fo_congr fun j hj x => by rw [h (j + 1) (by omega)]
theorem suF_congr {f g : Nat → UInt32} (h : ∀ j, j < 120 → f j = g j) : suF f 120 = suF g 120 := fo_congr fun j hj x => by rw [h j hj]
theorem smD_congr {f g : Nat → UInt32} (h : ∀ j, j < 120 → f j = g j) : smD f 120 = smD g 120 := fo_congr fun j hj x => by rw [h j hj]
theorem darkV_ds {A B : DV} {G H : GV} (h : DS A B) (k : GE G H) {w : Nat} (hw : w < 5) (j : Nat) : darkV A G w j 120 = darkV B H w j 120 := by
  unfold darkV
  refine cn_congr fun i hi => ?_
  rw [(k i hi).2.2.2, (k i hi).1, enV_ds h, dimV_ds h hw, enV_ds h]
theorem iwV_ds {A B : DV} {G H : GV} (h : DS A B) (hs : StV A) (k : GE G H) (hG : GOK G) {w j : Nat} (hw : w < 5) (q : Int32) : iwV A G w j q = iwV B H w j q := by
  unfold iwV
  rw [lostV_ds h k hw j (Nat.le_refl _), darkV_ds h k hw]
  have e : cn (fun i => roV A (markV A G w j (nI 0)) i) 120 = cn (fun i => roV B (markV B H w j (nI 0)) i) 120 := cn_congr fun i hi => roV_ds h (markV_ds h k hw j _) (GOK_mark hs hG hw (by omega)) hi
  rw [e]
theorem fiV_0 (D : DV) (w : Nat) (G : GV) : fiV D w G 0 = (G, 0) := rfl
theorem fiV_ds {A B : DV} {G H : GV} (h : DS A B) (hs : StV A) (k : GE G H) (hG : GOK G) {w : Nat} (hw : w < 5) : ∀ n, GE (fiV A w G n).1 (fiV B w H n).1 ∧ GOK (fiV A w G n).1 ∧ (fiV A w G n).2 = (fiV B w H n).2
  | 0 => by
    rw [fiV_0, fiV_0]
    exact ⟨k, hG, Eq.trans (b := 0) rfl rfl⟩
  | n + 1 => by
    obtain ⟨i1, i2, i3⟩ := fiV_ds h hs k hG hw n
    rw [fiV_s, fiV_s, ← bestV_ds h i1 i2 120 (Nat.le_refl _)]
    by_cases c : (bestV A (fiV A w G n).1 120).1 = mI 6
    · rw [if_pos c, if_pos c]
      exact ⟨i1, i2, i3⟩
    · rw [if_neg c, if_neg c]
      exact ⟨markV_ds h i1 hw _ _, GOK_mark hs i2 hw (by omega), by show (fiV A w G n).2 + 1 = _; rw [i3]⟩
theorem cntV_de {A B : DV} (h : DE A B) (w a b : Int32) : cntV A w a b = cntV B w a b := by
  unfold cntV
  rw [h.hr', h.pl', h.dk', h.pp', h.1 0 (by omega), h.1 1 (by omega), h.1 2 (by omega), h.1 3 (by omega)]
theorem isC_ds {A B : DV} {G H : GV} (h : DS A B) (k : GE G H) (hG : GOK G) (s : Nat) : cn (fun j => isV A G j s) 120 = cn (fun j => isV B H j s) 120 := cn_congr fun j hj => isV_ds h k hG hj s

