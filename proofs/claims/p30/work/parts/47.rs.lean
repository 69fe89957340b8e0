/-! the law's view of the object: its desk, how many states are kept, the last of them, what stands in slot 1 -/
def slotS (S : SS) (x : Nat) (T : Option DV) : Prop := (∀ j, j < 2 → sI S (x + 212) j = nI 0 ∨ sI S (x + 212) j = nI 1) ∧ (∀ j, j < 2 → sI S (x + 212) j = nI 1 → DOK (dV S (x + 228 + 26 * j))) ∧ ∀ B, T = some B → sI S (x + 212) 1 = nI 1 ∧ DE (dV S (x + 228 + 26 * 1)) B
def lastS (S : SS) (x nx kc : Nat) (L : Option DV) : Prop := ∀ A, L = some A → 0 < kc ∧ DOK A ∧ DE (dV S (x + 29 + 26 * ((nx + 6) % 7))) A
def RS (G : Gx) (S0 S : SS) (x : Nat) (D : DV) (kc : Nat) (L T : Option DV) : Prop := ∃ nx, OwnOK S x nx kc ∧ DE (dV S (x + 1)) D ∧ lastS S x nx kc L ∧ slotS S x T ∧ Fr S0 S x (x + 280) ∧ GC G S0 ∧ (G.2.2.1 0).1 < x ∧ (G.2.2.1 1).1 < x
theorem OwnOK.fr {S S' : SS} {x nx kc lo hi : Nat} (h : OwnOK S x nx kc) (hF : Fr S S' lo hi) (h1 : hi ≤ x ∨ x + 29 ≤ lo) : OwnOK S' x nx kc := by
  obtain ⟨a, b, c, d, e, f⟩ := h
  exact ⟨a.fr hF, DOK.congr (hF.dE (by omega)).symm b, c, d, by rw [hF.i (by omega)]; exact e, by rw [hF.i (by omega)]; exact f⟩
theorem slotS.fr {S S' : SS} {x lo hi : Nat} {T : Option DV} (h : slotS S x T) (hF : Fr S S' lo hi) (h1 : hi ≤ x + 212 ∨ x + 280 ≤ lo ∨ x + 213 ≤ lo ∧ hi ≤ x + 228) : slotS S' x T := by
  obtain ⟨h2, h3, h4⟩ := h
  have e : sI S' (x + 212) = sI S (x + 212) := hF.i (by omega)
  have d : ∀ j, j < 2 → DE (dV S' (x + 228 + 26 * j)) (dV S (x + 228 + 26 * j)) := fun j hj => hF.dE (by omega)
  unfold slotS
  rw [e]
  exact ⟨h2, fun j hj q => DOK.congr (d j hj).symm (h3 j hj q), fun B hB => ⟨(h4 B hB).1, (d 1 (by omega)).trans (h4 B hB).2⟩⟩
theorem slotS.wk {S : SS} {x : Nat} {T : Option DV} (h : slotS S x T) : slotS S x none := ⟨h.1, h.2.1, fun B hB => by cases hB⟩
theorem on_uni {D : DV} {p q : Nat} (h : OnD D p) (k : OnD D q) : q = p := by
  have e := h.1
  have h2 := h.2.1
  have k2 := k.2.1
  rw [k.1, nI_eq (by omega) (by omega)] at e
  exact e
theorem nI_uni {r : Int32} {a b : Nat} (ha : a < 1000) (hb : b < 1000) (e1 : r = nI a) (e2 : r = nI b) : b = a := by
  rw [e1, nI_eq (by omega) (by omega)] at e2
  exact e2.symm
theorem on_no1 {D : DV} {p : Nat} (q : D.dk = mI 6) (hp : OnD D p) : False := by
  rw [hp.1] at q
  exact nI_ne_mI (by have := hp.2.1; omega) (by omega) (by omega) q
theorem on_no {D : DV} {p a b : Nat} {r c : Int32} (q : D.dk = mI 6 ∨ ¬ Pl r c) (hp : OnD D p) (ha : a < 10) (hb : b < 12) (e1 : r = nI a) (e2 : c = nI b) : False :=
  q.elim (fun z => on_no1 z hp) (fun z => z (kP_of ha hb e1 e2).2)
theorem pl_no {D : DV} {p : Int32} {pn : Nat} (z : ¬ (0 ≤ p ∧ p < D.pl)) (e : p = nI pn) (h4 : pn < 4) (hl : nI pn < D.pl) : False := z (by subst e; exact ⟨nI_pos' (by omega), hl⟩)
theorem le_self (x : Int32) : x ≤ x := Int32.le_refl x
section RQ
variable {G : Gx} {S0 S : SS} {x kc : Nat} {D : DV} {L T : Option DV} {E : Option Value → SS → Prop}
theorem RS.de (h : RS G S0 S x D kc L T) : DE (dV S (x + 1)) D := by obtain ⟨nx, a, d, -⟩ := h; exact d
theorem RS.dok (h : RS G S0 S x D kc L T) : DOK D := by obtain ⟨nx, a, d, -⟩ := h; exact DOK.congr d a.2.1
theorem RS.own (h : RS G S0 S x D kc L T) : OwnD S x := by obtain ⟨nx, a, d, -⟩ := h; exact ⟨a.1, a.2.1⟩
theorem RS.fr0 (h : RS G S0 S x D kc L T) : Fr S0 S x (x + 280) := by obtain ⟨nx, a, d, -, -, f, -⟩ := h; exact f
theorem RS.gc (h : RS G S0 S x D kc L T) : GC G S := by obtain ⟨nx, a, d, -, -, f, g, g0, g1⟩ := h; exact g.fr f g0 g1
theorem RS.le6 (h : RS G S0 S x D kc L T) : kc ≤ 6 := by obtain ⟨nx, a, -⟩ := h; exact a.2.2.2.1
theorem RS.k (h : RS G S0 S x D kc L T) : sI S (x + 27) 2 = nI kc := by obtain ⟨nx, a, -⟩ := h; exact a.2.2.2.2.2
theorem RS.sk (h : RS G S0 S x D kc L T) : sK S x = some (6, 0) := h.own.1.1
theorem RS.wk (h : RS G S0 S x D kc L T) : RS G S0 S x D kc none none := by
  obtain ⟨nx, a, d, l, s, r⟩ := h
  exact ⟨nx, a, d, fun A hA => by (cases hA), s.wk, r⟩
theorem RS.wkL (h : RS G S0 S x D kc L T) : RS G S0 S x D kc none T := by
  obtain ⟨nx, a, d, l, s, r⟩ := h
  exact ⟨nx, a, d, fun A hA => by (cases hA), s, r⟩
theorem RS.ask {S' : SS} (h : RS G S0 S x D kc L T) (hF : Fr S S' (x + 221) (x + 228)) : RS G S0 S' x D kc L T := by
  obtain ⟨nx, a, d, l, s, f, r⟩ := h
  have hn := a.2.2.1
  refine ⟨nx, a.fr hF (by omega), (hF.dE (by omega)).trans d, fun A hA => ?_, s.fr hF (by omega), f.trans (hF.mono (by omega) (by omega)), r⟩
  have hm : (nx + 6) % 7 < 7 := Nat.mod_lt _ (by omega)
  exact ⟨(l A hA).1, (l A hA).2.1, (hF.dE (by omega)).trans (l A hA).2.2⟩
theorem RS.bad {S' : SS} {nx : Nat} {D' : DV} (a : OwnOK S x nx kc) (d : DE (dV S (x + 1)) D) (l : lastS S x nx kc L) (s : slotS S x T) (f : Fr S0 S x (x + 280)) (r : GC G S0 ∧ (G.2.2.1 0).1 < x ∧ (G.2.2.1 1).1 < x) (hC : Chg S S' x nx kc D' false) (hD : DE D' (dV S (x + 1))) : RS G S0 S' x D kc L T := by
  obtain ⟨c1, c2, c3, -, c5, c6⟩ := hC
  have hn := a.2.2.1
  refine ⟨nx, ⟨a.1.fr c1, DOK.congr (c2.trans hD).symm a.2.1, hn, a.2.2.2.1, c5, c6⟩, (c2.trans hD).trans d, fun A hA => ?_, s.fr c1 (by omega), f.trans (c1.mono (by omega) (by omega)), r⟩
  have hm : (nx + 6) % 7 < 7 := Nat.mod_lt _ (by omega)
  exact ⟨(l A hA).1, (l A hA).2.1, (c3 ((nx + 6) % 7) hm (by omega)).trans (l A hA).2.2⟩
theorem RS.good {S' : SS} {nx : Nat} {D' N : DV} (a : OwnOK S x nx kc) (d : DE (dV S (x + 1)) D) (s : slotS S x T) (f : Fr S0 S x (x + 280)) (r : GC G S0 ∧ (G.2.2.1 0).1 < x ∧ (G.2.2.1 1).1 < x) (hC : Chg S S' x nx kc D' true) (hN : DE D' N) (hO : DOK N) : RS G S0 S' x N (min (kc + 1) 6) (some D) T := by
  obtain ⟨c1, c2, c3, c4, c5, c6⟩ := hC
  have hn := a.2.2.1
  have dN : DE (dV S' (x + 1)) N := c2.trans hN
  rw [if_pos rfl] at c5 c6
  refine ⟨(nx + 1) % 7, ⟨a.1.fr c1, DOK.congr dN.symm hO, Nat.mod_lt _ (by omega), Nat.min_le_right _ _, c5, c6⟩, dN, fun A hA => ?_, s.fr c1 (by omega), f.trans (c1.mono (by omega) (by omega)), r⟩
  cases hA
  have en : ((nx + 1) % 7 + 6) % 7 = nx := by omega
  rw [en]
  exact ⟨by omega, DOK.congr d a.2.1, (c4 rfl).trans d⟩
/-- questions -/
theorem at_eq (h : RS G S0 S x D kc L T) {p a b : Nat} (hp : OnD D p) (ha : a < 10) (hb : b < 12) (w : Int32) : P_X6_at [.ref x, .int (nI a), .int (nI b), .int w] S E = E (some (.int (atV D p (a * 12 + b) w))) S := by
  have hd := h.de
  have hO := h.own
  apply propext
  refine ⟨fun ⟨_, _, q⟩ => ?_, fun q => ⟨hO, fun z => (on_no z (hd.symm.onD hp) ha hb rfl rfl).elim, fun p' a' b' hp' ha' hb' e1 e2 => ?_⟩⟩
  · have := q p a b (hd.symm.onD hp) ha hb rfl rfl
    rwa [atV_de hd hO.2 (hd.symm.onD hp) (by omega)] at this
  · have ea := nI_uni (by omega) (by omega) rfl e1
    have eb := nI_uni (by omega) (by omega) rfl e2
    subst ea eb
    rw [on_uni hp (hd.onD hp'), atV_de hd hO.2 (hd.symm.onD hp) (by omega)]
    exact q
theorem row_eq (h : RS G S0 S x D kc L T) {p a : Nat} (hp : OnD D p) (ha : a < 10) (w : Int32) : P_X6_row [.ref x, .int (nI a), .int w] S E = E (some (.int (rowV D (D.g p) a w))) S := by
  have hd := h.de
  have hO := h.own
  apply propext
  refine ⟨fun ⟨_, _, q⟩ => ?_, fun q => ⟨hO, fun z => ?_, fun p' a' hp' ha' e1 => ?_⟩⟩
  · have := q p a (hd.symm.onD hp) ha rfl
    rwa [rowV_de hd hO.2 (hd.symm.onD hp) ha] at this
  · exact (z.elim (fun z => on_no1 z (hd.symm.onD hp)) (fun z => z ⟨nI_pos' (by omega), (nI_ltI (by omega) (by omega)).mpr ha⟩)).elim
  · have ea := nI_uni (by omega) (by omega) rfl e1
    subst ea
    rw [on_uni hp (hd.onD hp'), rowV_de hd hO.2 (hd.symm.onD hp) ha]
    exact q
/-- what a writer's number is -/
def oV (D : DV) (n wn : Nat) (q : Int32) : Int32 := if q = nI 0 then D.pr wn else if q = nI 1 then nI (ofV D wn 1 n) else if q = nI 2 then nI (ofV D wn 2 n) else if q = nI 3 then nI (ofV D wn 3 n) else if q = nI 4 then D.wr wn else if q = nI 5 then D.sp wn else mI 2
theorem of_eq (h : RS G S0 S x D kc L T) {n m wn : Nat} (hn : n ≤ 4) (en : D.pl = nI n) (hm : m ≤ 5) (em : D.pp = nI m) (hw : wn < m) (q : Int32) : P_X6_of [.ref x, .int (nI wn), .int q] S E = E (some (.int (oV D n wn q))) S := by
  have hd := h.de
  have hO := h.own
  have lt : nI wn < D.pp := by rw [em]; exact (nI_ltI (by omega) (by omega)).mpr hw
  have e : ∀ q, oV (dV S (x + 1)) n wn q = oV D n wn q := fun q => by
    unfold oV
    rw [ofV_de hd hO.2 hn (hd.pl'.trans en), ofV_de hd hO.2 hn (hd.pl'.trans en), ofV_de hd hO.2 hn (hd.pl'.trans en), (hd.2.1 wn (by omega)).1, (hd.2.1 wn (by omega)).2.1, (hd.2.1 wn (by omega)).2.2]
  apply propext
  refine ⟨fun ⟨_, _, z⟩ => ?_, fun z => ⟨hO, fun y => (y ⟨nI_pos' (by omega), hd.pp'.symm ▸ lt⟩).elim, fun wn' n' h0 h1 ew hw' hn' en' => ?_⟩⟩
  · rw [← e]
    exact z wn n (nI_pos' (by omega)) (hd.pp'.symm ▸ lt) rfl (by omega) hn (hd.pl'.trans en)
  · have ea := nI_uni (by omega) (by omega) rfl ew
    have eb := nI_uni (by omega) (by omega) (hd.pl'.trans en) en'
    subst ea eb
    rw [← e] at z
    exact z
theorem of_no (h : RS G S0 S x D kc L T) (q : Int32) : P_X6_of [.ref x, .int D.pp, .int q] S E = E (some (.int (mI 1))) S := by
  have hd := h.de
  have hO := h.own
  apply propext
  refine ⟨fun ⟨_, z, _⟩ => z (fun y => absurd y.2 (by rw [hd.pp']; exact Int32.lt_irrefl)), fun z => ⟨hO, fun _ => z, fun wn' n' h0 h1 => absurd h1 (by rw [hd.pp']; exact Int32.lt_irrefl)⟩⟩
/-- what a plate's number is -/
def pV (D : DV) (pn : Nat) (q : Int32) : Int32 := if q = nI 4 then (leF (D.g pn).l 119).toInt32 else if q = nI 5 then (suF (D.g pn).l 120).toInt32 else if q = nI 0 ∨ q = nI 1 ∨ q = nI 2 ∨ q = nI 3 then nI (cn (fun k => isV D (D.g pn) k (wh q)) 120) else mI 2
theorem ofP_eq (h : RS G S0 S x D kc L T) {n pn : Nat} (hn : n ≤ 4) (en : D.pl = nI n) (hp : pn < n) (q : Int32) : P_X6_ofPlate [.ref x, .int (nI pn), .int q] S E = E (some (.int (pV D pn q))) S := by
  have hd := h.de
  have hO := h.own
  have lt : nI pn < D.pl := by rw [en]; exact (nI_ltI (by omega) (by omega)).mpr hp
  have lt' : nI pn < (dV S (x + 1)).pl := hd.pl'.symm ▸ lt
  have g := hd.2.2.2.2.2.2 pn lt' (by omega)
  have e : ∀ q, pV (dV S (x + 1)) pn q = pV D pn q := fun q => by
    unfold pV
    rw [leF_congr (fun j hj => (g j hj).1), suF_congr (fun j hj => (g j hj).1), isC_ds hd.ds g (hO.2.2.2.2.2 pn lt' (by omega))]
  apply propext
  refine ⟨fun ⟨_, _, z⟩ => ?_, fun z => ⟨hO, fun y => (y ⟨nI_pos' (by omega), lt'⟩).elim, fun pn' e' h4' hl' => ?_⟩⟩
  · rw [← e]
    exact z pn rfl (by omega) lt'
  · have ea := nI_uni (by omega) (by omega) rfl e'
    subst ea
    rw [← e] at z
    exact z
theorem ofP_no (h : RS G S0 S x D kc L T) (q : Int32) : P_X6_ofPlate [.ref x, .int D.pl, .int q] S E = E (some (.int (mI 1))) S := by
  have hd := h.de
  have hO := h.own
  apply propext
  refine ⟨fun ⟨_, z, _⟩ => z (fun y => absurd y.2 (by rw [hd.pl']; exact Int32.lt_irrefl)), fun z => ⟨hO, fun _ => z, fun pn' e' _ hl' => absurd hl' (by rw [← e', hd.pl']; exact Int32.lt_irrefl)⟩⟩
theorem count_eq (h : RS G S0 S x D kc L T) (w : Int32) : P_X6_count [.ref x, .int w] S E = E (some (.int (cntV D w (sI S (x + 214) 1) (nI kc)))) S := by
  have hd := h.de
  have hO := h.own
  apply propext
  refine ⟨fun ⟨_, z⟩ => ?_, fun z => ⟨hO.1, ?_⟩⟩
  · rwa [h.k, cntV_de hd] at z
  · rwa [h.k, cntV_de hd]
theorem cnt_1 (D : DV) (a b : Int32) : cntV D (nI 1) a b = D.pl := by unfold cntV; rw [if_neg (by decide), if_pos rfl]
theorem cnt_2 (D : DV) (a b : Int32) : cntV D (nI 2) a b = D.dk := by unfold cntV; rw [if_neg (by decide), if_neg (by decide), if_pos rfl]
theorem cnt_3 (D : DV) (a b : Int32) : cntV D (nI 3) a b = D.pp := by unfold cntV; rw [if_neg (by decide), if_neg (by decide), if_neg (by decide), if_pos rfl]
theorem cnt_4 (D : DV) (a b : Int32) : cntV D (nI 4) a b = D.st 0 := by unfold cntV; rw [if_neg (by decide), if_neg (by decide), if_neg (by decide), if_neg (by decide), if_pos rfl]
theorem cnt_5 (D : DV) (a b : Int32) : cntV D (nI 5) a b = D.st 1 := by unfold cntV; rw [if_neg (by decide), if_neg (by decide), if_neg (by decide), if_neg (by decide), if_neg (by decide), if_pos rfl]
theorem cnt_9 (D : DV) (a b : Int32) : cntV D (nI 9) a b = b := by unfold cntV; rw [if_neg (by decide), if_neg (by decide), if_neg (by decide), if_neg (by decide), if_neg (by decide), if_neg (by decide), if_neg (by decide), if_neg (by decide), if_neg (by decide), if_pos rfl]
/-- the first eight numbers need neither the pad nor the history -/
theorem cnt_8 (D : DV) (a b : Int32) {w : Nat} (hw : w < 8) : cntV D (nI w) a b = cntV D (nI w) 0 0 := by
  unfold cntV
  rw [if_neg (show ¬ nI w = nI 8 from by rw [nI_eq (by omega) (by omega)]; omega), if_neg (show ¬ nI w = nI 9 from by rw [nI_eq (by omega) (by omega)]; omega), if_neg (show ¬ nI w = nI 8 from by rw [nI_eq (by omega) (by omega)]; omega), if_neg (show ¬ nI w = nI 9 from by rw [nI_eq (by omega) (by omega)]; omega)]
def meV (D : DV) (p : Nat) : Int64 := (FP.ddiv (smD (D.g p).l 120) d120).toInt64
theorem mean_eq (h : RS G S0 S x D kc L T) {p : Nat} (hp : OnD D p) : P_X6_mean [.ref x] S E = E (some (.long (meV D p))) S := by
  have hd := h.de
  have hO := h.own
  have g := hd.gg (hd.symm.onD hp)
  apply propext
  unfold meV
  rw [← smD_congr (fun j hj => (g j hj).1)]
  refine ⟨fun ⟨_, _, z⟩ => z p (hd.symm.onD hp), fun z => ⟨hO, fun y => (on_no1 y (hd.symm.onD hp)).elim, fun p' hp' => ?_⟩⟩
  rw [on_uni hp (hd.onD hp')]
  exact z
def riV (D : DV) (p : Nat) : Int32 := if 500 < mostV D (D.g p) 120 then mI 6 else nI (mostV D (D.g p) 120)
theorem read_eq (h : RS G S0 S x D kc L T) {n pn : Nat} (hn : n ≤ 4) (en : D.pl = nI n) (hp : pn < n) : P_X6_readableIn [.ref x, .int (nI pn)] S E = E (some (.int (riV D pn))) S := by
  have hd := h.de
  have hO := h.own
  have lt : nI pn < D.pl := by rw [en]; exact (nI_ltI (by omega) (by omega)).mpr hp
  have lt' : nI pn < (dV S (x + 1)).pl := hd.pl'.symm ▸ lt
  have g := hd.2.2.2.2.2.2 pn lt' (by omega)
  apply propext
  unfold riV
  rw [← mostV_ds hd.ds g 120 (Nat.le_refl _)]
  refine ⟨fun ⟨_, _, z⟩ => z pn rfl (by omega) lt', fun z => ⟨hO, fun y => (y ⟨nI_pos' (by omega), lt'⟩).elim, fun pn' e' h4' hl' => ?_⟩⟩
  have ea := nI_uni (by omega) (by omega) rfl e'
  subst ea
  exact z
theorem best_eq (h : RS G S0 S x D kc L T) {p : Nat} (hp : OnD D p) : P_X6_bestPlace [.ref x] S E = ∀ S', Fr S S' (x + 221) (x + 228) → E (some (.int (bestV D (D.g p) 120).1)) S' := by
  have hd := h.de
  have hO := h.own
  have hp' := hd.symm.onD hp
  apply propext
  rw [← bestV_ds hd.ds (hd.gg hp') (hO.2.gg hp') 120 (Nat.le_refl _)]
  refine ⟨fun ⟨_, _, z⟩ => z p hp', fun z => ⟨hO, fun y => (on_no1 y hp').elim, fun q hq => ?_⟩⟩
  rw [on_uni hp' hq]
  exact z
theorem fills_eq (h : RS G S0 S x D kc L T) {p m wn : Nat} (hp : OnD D p) (hm : m ≤ 5) (em : D.pp = nI m) (hw : wn < m) : P_X6_fills [.ref x, .int (nI wn)] S E = ∀ S', Fr S S' (x + 221) (x + 228) → E (some (.int (nI (fiV D wn (D.g p) 120).2))) S' := by
  have hd := h.de
  have hO := h.own
  have hp' := hd.symm.onD hp
  have lt : nI wn < (dV S (x + 1)).pp := by rw [hd.pp', em]; exact (nI_ltI (by omega) (by omega)).mpr hw
  apply propext
  rw [← (fiV_ds hd.ds hO.2.1 (hd.gg hp') (hO.2.gg hp') (show wn < 5 by omega) 120).2.2]
  refine ⟨fun ⟨_, _, z⟩ => z p wn hp' (nI_pos' (by omega)) lt rfl (by omega), fun z => ⟨hO, fun y => (y.elim (fun y => y ⟨nI_pos' (by omega), lt⟩) (fun y => on_no1 y hp')).elim, fun q wn' hq h0 h1 ew hw' => ?_⟩⟩
  have ea := nI_uni (by omega) (by omega) rfl ew
  subst ea
  rw [on_uni hp' hq]
  exact z
theorem ifw_eq (h : RS G S0 S x D kc L T) {p m wn a b : Nat} (hp : OnD D p) (hm : m ≤ 5) (em : D.pp = nI m) (hw : wn < m) (ha : a < 10) (hb : b < 12) (q : Int32) : P_X6_ifWritten [.ref x, .int (nI wn), .int (nI a), .int (nI b), .int q] S E = ∀ S', Fr S S' (x + 221) (x + 228) → E (some (.int (iwV D (D.g p) wn (a * 12 + b) q))) S' := by
  have hd := h.de
  have hO := h.own
  have hp' := hd.symm.onD hp
  have lt : nI wn < (dV S (x + 1)).pp := by rw [hd.pp', em]; exact (nI_ltI (by omega) (by omega)).mpr hw
  apply propext
  rw [← iwV_ds hd.ds hO.2.1 (hd.gg hp') (hO.2.gg hp') (show wn < 5 by omega)]
  refine ⟨fun ⟨_, _, z⟩ => z p a b wn hp' ha hb rfl rfl (nI_pos' (by omega)) lt rfl (by omega), fun z => ⟨hO, fun y => (y.elim (fun y => y ⟨nI_pos' (by omega), lt⟩) (fun y => on_no y hp' ha hb rfl rfl)).elim, fun p2 a' b' wn' hq ha' hb' e1 e2 h0 h1 ew hw' => ?_⟩⟩
  have ec := nI_uni (by omega) (by omega) rfl ew
  have ea := nI_uni (by omega) (by omega) rfl e1
  have eb := nI_uni (by omega) (by omega) rfl e2
  subst ea eb ec
  rw [on_uni hp' hq]
  exact z
/-- changes -/
theorem w_lay (h : RS G S0 S x D kc L T) (p : Int32) (h1 : ∀ S', ¬ erLay D p = nI 0 → erLay D p < 0 → RS G S0 S' x D kc L T → E (some (.int (erLay D p))) S') (h2 : ∀ S', erLay D p = nI 0 → 0 ≤ D.dk → RS G S0 S' x (neLay D p) (min (kc + 1) 6) (some D) T → E (some (.int D.dk)) S') : P_X6_lay [.ref x, .int p] S E := by
  have hDO := h.dok
  obtain ⟨nx, a, d, l, s, f, r⟩ := h
  refine ⟨nx, kc, a, fun D0 hD => ?_⟩
  have hO : DOK D0 := DOK.congr hD.symm a.2.1
  have i3 : DE D0 D := hD.trans d
  refine cl_lay (K := fun v D' ok => ∀ S', Chg S S' x nx kc D' ok → E (some (.int v)) S') hO (fun v ev h0 hv S' hC => ?_) (fun h0 hv D' hD' S' hC => ?_)
  · rw [erLay_de i3] at ev
    rw [ev] at h0 hv ⊢
    exact h1 S' h0 hv (RS.bad a d l s f r hC hD)
  · rw [erLay_de i3] at h0
    rw [i3.dk'] at hv ⊢
    exact h2 S' h0 hv (RS.good a d s f r hC (hD'.trans (neLay_de i3 p)) (hDO.lay h0))
theorem w_plate (h : RS G S0 S x D kc L T) (h1 : ∀ S', ¬ erCome D = nI 0 → erCome D < 0 → RS G S0 S' x D kc L T → E (some (.int (erCome D))) S') (h2 : ∀ S' n, n < 4 → D.pl = nI n → erCome D = nI 0 → RS G S0 S' x (neCome D) (min (kc + 1) 6) (some D) T → E (some (.int (nI n))) S') : P_X6_plate [.ref x] S E := by
  have hDO := h.dok
  obtain ⟨nx, a, d, l, s, f, r⟩ := h
  refine ⟨nx, kc, a, fun D0 hD => ?_⟩
  have hO : DOK D0 := DOK.congr hD.symm a.2.1
  have i3 : DE D0 D := hD.trans d
  obtain ⟨k1, k2⟩ := cl_come (K := fun v D' ok => ∀ S', Chg S S' x nx kc D' ok → E (some (.int v)) S') hO (fun v ev h0 hv S' hC => by
    rw [erCome_de i3] at ev
    rw [ev] at h0 hv ⊢
    exact h1 S' h0 hv (RS.bad a d l s f r hC hD)) (fun h0 m hm em D' hD' S' hC => by
    rw [erCome_de i3] at h0
    exact h2 S' m hm (i3.pl'.symm.trans em) h0 (RS.good a d s f r hC (hD'.trans (neCome_de i3 hm em)) (hDO.come h0)))
  exact ⟨k1, fun m hm em S' N hN => k2 m hm em N hN S'⟩
theorem w_writer (h : RS G S0 S x D kc L T) (p : Int32) (h1 : ∀ S', ¬ erJoin D p = nI 0 → erJoin D p < 0 → RS G S0 S' x D kc L T → E (some (.int (erJoin D p))) S') (h2 : ∀ S' n, n < 5 → D.pp = nI n → erJoin D p = nI 0 → RS G S0 S' x (neJoin D p) (min (kc + 1) 6) (some D) T → E (some (.int (nI n))) S') : P_X6_writer [.ref x, .int p] S E := by
  have hDO := h.dok
  obtain ⟨nx, a, d, l, s, f, r⟩ := h
  refine ⟨nx, kc, a, fun D0 hD => ?_⟩
  have hO : DOK D0 := DOK.congr hD.symm a.2.1
  have i3 : DE D0 D := hD.trans d
  refine cl_join (K := fun v D' ok => ∀ S', Chg S S' x nx kc D' ok → E (some (.int v)) S') hO (fun v ev h0 hv S' hC => ?_) (fun h0 m hm em D' hD' S' hC => ?_)
  · rw [erJoin_de i3] at ev
    rw [ev] at h0 hv ⊢
    exact h1 S' h0 hv (RS.bad a d l s f r hC hD)
  · rw [erJoin_de i3] at h0
    exact h2 S' m hm (i3.pp'.symm.trans em) h0 (RS.good a d s f r hC (hD'.trans (neJoin_de i3 p)) (hDO.join h0))
theorem w_pass (h : RS G S0 S x D kc L T) (m : Int32) (h1 : ∀ S', ¬ erPass D m = nI 0 → erPass D m < 0 → RS G S0 S' x D kc L T → E (some (.int (erPass D m))) S') (h2 : ∀ S', erPass D m = nI 0 → 0 ≤ D.hr + m → RS G S0 S' x (nePass D m) (min (kc + 1) 6) (some D) T → E (some (.int (D.hr + m))) S') : P_X6_pass [.ref x, .int m] S E := by
  have hDO := h.dok
  obtain ⟨nx, a, d, l, s, f, r⟩ := h
  refine ⟨nx, kc, a, fun D0 hD => ?_⟩
  have i3 : DE D0 D := hD.trans d
  refine cl_pass (K := fun v D' ok => ∀ S', Chg S S' x nx kc D' ok → E (some (.int v)) S') (fun v ev h0 hv S' hC => ?_) (fun h0 hv D' hD' S' hC => ?_)
  · rw [erPass_de i3] at ev
    rw [ev] at h0 hv ⊢
    exact h1 S' h0 hv (RS.bad a d l s f r hC hD)
  · rw [erPass_de i3] at h0
    rw [i3.hr'] at hv ⊢
    exact h2 S' h0 hv (RS.good a d s f r hC (hD'.trans (nePass_de i3 m)) (hDO.pass h0))
theorem w_write (h : RS G S0 S x D kc L T) (w r c t : Int32) (h1 : ∀ S', ¬ erWrite D w r c t = nI 0 → erWrite D w r c t < 0 → RS G S0 S' x D kc L T → E (some (.int (erWrite D w r c t))) S') (h2 : ∀ S', erWrite D w r c t = nI 0 → RS G S0 S' x (neWrite D w r c t) (min (kc + 1) 6) (some D) T → E (some (.int (vaWrite D w r c))) S') : P_X6_write [.ref x, .int w, .int r, .int c, .int t] S E := by
  have hDO := h.dok
  obtain ⟨nx, a, d, l, s, f, gr⟩ := h
  refine ⟨nx, kc, a, fun D0 hD => ?_⟩
  have hO : DOK D0 := DOK.congr hD.symm a.2.1
  have i3 : DE D0 D := hD.trans d
  refine cl_write (K := fun v D' ok => ∀ S', Chg S S' x nx kc D' ok → E (some (.int v)) S') (fun v ev h0 hv S' hC => ?_) (fun h0 D' hD' S' hC => ?_)
  · rw [erWrite_de i3 hO] at ev
    rw [ev] at h0 hv ⊢
    exact h1 S' h0 hv (RS.bad a d l s f gr hC hD)
  · obtain ⟨c1, c2, c3, c4, -⟩ := erWrite_0 h0
    obtain ⟨wn, hwn, ew⟩ := hO.wr c1.1 c1.2
    obtain ⟨v1, v2⟩ := vaWrite_de i3 hO w r c t hwn ew c2
    rw [erWrite_de i3 hO] at h0
    rw [v1]
    exact h2 S' h0 (RS.good a d s f gr hC (hD'.trans v2) (hDO.write h0))
theorem w_promise (h : RS G S0 S x D kc L T) (w r c : Int32) (h1 : ∀ S', ¬ erProm D w r c = nI 0 → erProm D w r c < 0 → RS G S0 S' x D kc L T → E (some (.int (erProm D w r c))) S') (h2 : ∀ S', erProm D w r c = nI 0 → RS G S0 S' x (neProm D w r c) (min (kc + 1) 6) (some D) T → E (some (.int (vaProm D w r c))) S') : P_X6_promise [.ref x, .int w, .int r, .int c] S E := by
  have hDO := h.dok
  obtain ⟨nx, a, d, l, s, f, gr⟩ := h
  refine ⟨nx, kc, a, fun D0 hD => ?_⟩
  have hO : DOK D0 := DOK.congr hD.symm a.2.1
  have i3 : DE D0 D := hD.trans d
  refine cl_prom (K := fun v D' ok => ∀ S', Chg S S' x nx kc D' ok → E (some (.int v)) S') (fun v ev h0 hv S' hC => ?_) (fun h0 D' hD' S' hC => ?_)
  · rw [erProm_de i3 hO] at ev
    rw [ev] at h0 hv ⊢
    exact h1 S' h0 hv (RS.bad a d l s f gr hC hD)
  · obtain ⟨v1, v2⟩ := vaProm_de i3 hO w r c (erProm_0 h0).2.1
    rw [erProm_de i3 hO] at h0
    rw [v1]
    exact h2 S' h0 (RS.good a d s f gr hC (hD'.trans v2) (hDO.prom h0))
theorem w_rub (h : RS G S0 S x D kc L T) (r c : Int32) (h1 : ∀ S', ¬ erRub D r c = nI 0 → erRub D r c < 0 → RS G S0 S' x D kc L T → E (some (.int (erRub D r c))) S') (h2 : ∀ S', erRub D r c = nI 0 → RS G S0 S' x (neRub D r c) (min (kc + 1) 6) (some D) T → E (some (.int (vaRub D r c))) S') : P_X6_rub [.ref x, .int r, .int c] S E := by
  have hDO := h.dok
  obtain ⟨nx, a, d, l, s, f, gr⟩ := h
  refine ⟨nx, kc, a, fun D0 hD => ?_⟩
  have hO : DOK D0 := DOK.congr hD.symm a.2.1
  have i3 : DE D0 D := hD.trans d
  refine cl_rub (K := fun v D' ok => ∀ S', Chg S S' x nx kc D' ok → E (some (.int v)) S') (fun v ev h0 hv S' hC => ?_) (fun h0 D' hD' S' hC => ?_)
  · rw [erRub_de i3 hO] at ev
    rw [ev] at h0 hv ⊢
    exact h1 S' h0 hv (RS.bad a d l s f gr hC hD)
  · obtain ⟨v1, v2⟩ := vaRub_de i3 hO r c (erRub_0 h0).2.1 (erRub_0 h0).1
    rw [erRub_de i3 hO] at h0
    rw [v1]
    exact h2 S' h0 (RS.good a d s f gr hC (hD'.trans v2) (hDO.rub h0))
theorem w_back (h : RS G S0 S x D kc L T) (r c : Int32) (h1 : ∀ S', ¬ erBack D r c = nI 0 → erBack D r c < 0 → RS G S0 S' x D kc L T → E (some (.int (erBack D r c))) S') (h2 : ∀ S', erBack D r c = nI 0 → RS G S0 S' x (neBack D r c) (min (kc + 1) 6) (some D) T → E (some (.int (vaBack D r c))) S') : P_X6_takeBack [.ref x, .int r, .int c] S E := by
  have hDO := h.dok
  obtain ⟨nx, a, d, l, s, f, gr⟩ := h
  refine ⟨nx, kc, a, fun D0 hD => ?_⟩
  have hO : DOK D0 := DOK.congr hD.symm a.2.1
  have i3 : DE D0 D := hD.trans d
  refine cl_back (K := fun v D' ok => ∀ S', Chg S S' x nx kc D' ok → E (some (.int v)) S') (fun v ev h0 hv S' hC => ?_) (fun h0 D' hD' S' hC => ?_)
  · rw [erBack_de i3 hO] at ev
    rw [ev] at h0 hv ⊢
    exact h1 S' h0 hv (RS.bad a d l s f gr hC hD)
  · obtain ⟨v1, v2⟩ := vaBack_de i3 hO r c (erBack_0 h0).2.1 (erBack_0 h0).1
    rw [erBack_de i3 hO] at h0
    rw [v1]
    exact h2 S' h0 (RS.good a d s f gr hC (hD'.trans v2) (hDO.back h0))
/-- a setting in its range -/
theorem w_set (h : RS G S0 S x D kc L T) {k : Nat} {v : Int32} (hk : k < 4) (hv : ¬ (v < nI (leastK k) ∨ nI (mostK k) < v)) (h2 : ∀ S', RS G S0 S' x (sf_st D (upV D.st k v)) (min (kc + 1) 6) (some D) T → E (some (.int (D.st k))) S') : P_X6_set G [.ref x, .int (nI k), .int v] S E := by
  have hDO := h.dok
  have hG := h.gc
  obtain ⟨nx, a, d, l, s, f, gr⟩ := h
  refine ⟨nx, kc, a, hG, gr.2.1, gr.2.2, fun D0 hD => ?_⟩
  have i3 : DE D0 D := hD.trans d
  refine ⟨fun q => ?_, fun k' hk' ek q => ?_, fun k' hk' ek q S' hC => ?_⟩
  · rcases q with q | q
    · rw [nI_ltI (by omega) (by omega)] at q; omega
    · rw [nI_ltI (by omega) (by omega)] at q; omega
  · have ea := nI_uni (by omega) (by omega) rfl ek
    subst ea
    exact absurd q hv
  · have ea := nI_uni (by omega) (by omega) rfl ek
    subst ea
    rw [i3.1 _ hk]
    exact h2 S' (RS.good a d s f gr hC (i3.hst _ v) (hDO.set hk hv))
theorem w_undo {A : DV} (h : RS G S0 S x D kc (some A) T) (h2 : ∀ S', RS G S0 S' x A (kc - 1) none T → E (some (.int (nI (kc - 1)))) S') : P_X6_undo [.ref x] S E := by
  obtain ⟨nx, a, d, l, s, f, gr⟩ := h
  obtain ⟨l0, l1, l2⟩ := l A rfl
  have hn := a.2.2.1
  have hk := a.2.2.2.1
  refine ⟨nx, kc, a, fun _ => DOK.congr l2.symm l1, fun q => absurd q (by omega), fun _ S' w1 wE => ?_⟩
  have w0 : Fr S (stI (stI S (x + 27) 1 (nI ((nx + 6) % 7))) (x + 27) 2 (nI (kc - 1))) (x + 27) (x + 28) := ((Fr.refl _ _ _).stI _ _ _ (by omega) (by omega)).stI _ _ _ (by omega) (by omega)
  have wS : Fr S S' (x + 1) (x + 28) := (w0.mono (by omega) (by omega)).trans (w1.mono (by omega) (by omega))
  have dU : DE (dV S' (x + 1)) A := wE.trans l2
  have s27 : ∀ j, sI S' (x + 27) j = if j = 2 then nI (kc - 1) else if j = 1 then nI ((nx + 6) % 7) else sI S (x + 27) j := fun j => by
    rw [w1.i (by omega), sI_stI, sI_stI]
    simp only [true_and]
  exact h2 S' ⟨(nx + 6) % 7, ⟨a.1.fr wS, DOK.congr dU.symm l1, Nat.mod_lt _ (by omega), by omega, by rw [s27]; rfl, by rw [s27]; rfl⟩, dU, fun A hA => by (cases hA), s.fr wS (by omega), f.trans (wS.mono (by omega) (by omega)), gr⟩
theorem w_save (h : RS G S0 S x D kc L T) (h2 : ∀ S', RS G S0 S' x D kc L (some D) → E (some (.int D.pl)) S') : P_X6_save [.ref x, .int (nI 1)] S E := by
  have hO := h.own
  obtain ⟨nx, a, d, l, s, f, gr⟩ := h
  have hn := a.2.2.1
  refine ⟨hO, fun q => ?_, fun j hj ej S' w1 wE => ?_⟩
  · rcases q with q | q
    · rw [nI_ltI (by omega) (by omega)] at q; omega
    · rw [nI_leI (by omega) (by omega)] at q; omega
  have ea := nI_uni (by omega) (by omega) rfl ej
  subst ea
  have w2 : Fr S' (stI S' (x + 212) 1 (nI 1)) (x + 212) (x + 213) := (Fr.refl _ _ _).stI _ _ _ (by omega) (by omega)
  have w3 : Fr S (stI S' (x + 212) 1 (nI 1)) (x + 212) (x + 280) := (w1.mono (by omega) (by omega)).trans (w2.mono (by omega) (by omega))
  obtain ⟨W, hW⟩ : ∃ W, W = stI S' (x + 212) 1 (nI 1) := ⟨_, rfl⟩
  have wi : ∀ j, sI W (x + 212) j = if j = 1 then nI 1 else sI S (x + 212) j := fun j => by
    rw [hW, sI_stI, w1.i (by omega)]
    simp only [true_and]
  rw [← hW] at w2 w3 ⊢
  rw [d.pl']
  refine h2 W ⟨nx, a.fr w3 (by omega), (w3.dE (by omega)).trans d, fun A hA => ?_, ⟨fun j hj => ?_, fun j hj q => ?_, fun B hB => ?_⟩, f.trans (w3.mono (by omega) (by omega)), gr⟩
  · have hm : (nx + 6) % 7 < 7 := Nat.mod_lt _ (by omega)
    exact ⟨(l A hA).1, (l A hA).2.1, (w3.dE (by omega)).trans (l A hA).2.2⟩
  · rw [wi]
    split
    · exact Or.inr rfl
    · exact s.1 j hj
  · by_cases j1 : j = 1
    · subst j1
      exact DOK.congr ((w2.dE (by omega)).trans wE).symm a.2.1
    · rw [wi, if_neg j1] at q
      have e1 := (w2.dE (d := x + 228 + 26 * j) (by omega)).trans (w1.dE (d := x + 228 + 26 * j) (by omega))
      exact DOK.congr e1.symm (s.2.1 j hj q)
  · cases hB
    exact ⟨by rw [wi]; rfl, ((w2.dE (by omega)).trans wE).trans d⟩
theorem w_restore {B : DV} (h : RS G S0 S x D kc L (some B)) (h2 : ∀ S', RS G S0 S' x B (min (kc + 1) 6) (some D) (some B) → E (some (.int B.pl)) S') : P_X6_restore [.ref x, .int (nI 1)] S E := by
  obtain ⟨nx, a, d, l, s, f, gr⟩ := h
  obtain ⟨s1, s2⟩ := s.2.2 B rfl
  refine ⟨nx, kc, a, s.1, s.2.1, fun q => ?_, fun j hj ej => ⟨fun q => ?_, fun q S' hC => ?_⟩⟩
  · rcases q with q | q
    · rw [nI_ltI (by omega) (by omega)] at q; omega
    · rw [nI_leI (by omega) (by omega)] at q; omega
  · have ea := nI_uni (by omega) (by omega) rfl ej
    subst ea
    rw [s1, nI_eq (by omega) (by omega)] at q
    omega
  · have ea := nI_uni (by omega) (by omega) rfl ej
    subst ea
    rw [s2.pl']
    exact h2 S' (RS.good a d s f gr hC s2 (DOK.congr s2 (s.2.1 1 (by omega) s1)))
end RQ
