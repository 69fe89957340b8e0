-- needs: 68.rel
/-! what is asked depends only on what both say -/
theorem DE.onD {A B : DV} (h : DE A B) {p : Nat} (hp : OnD A p) : OnD B p := ⟨by rw [← h.dk']; exact hp.1, hp.2.1, by rw [← h.pl']; exact hp.2.2⟩
theorem DE.gg {A B : DV} (h : DE A B) {p : Nat} (hp : OnD A p) : GE (A.g p) (B.g p) := h.2.2.2.2.2.2 p hp.2.2 hp.2.1
theorem DOK.gg {A : DV} (h : DOK A) {p : Nat} (hp : OnD A p) : GOK (A.g p) := h.2.2.2.2 p hp.2.2 hp.2.1
theorem ahV_ds {A B : DV} {G H : GV} (h : DS A B) (k : GE G H) (hG : GOK G) {j : Nat} (hj : j < 120) : ahV A G j = ahV B H j := by
  unfold ahV
  rw [(k j hj).1, aheadV_ds h k hG _ _ 120 (Nat.le_refl _)]
theorem bI_eq {a b : Bool} (h : a = b) : bI (a = true) = bI (b = true) := by rw [h]
theorem atV_de {A B : DV} (h : DE A B) (hD : DOK A) {p k : Nat} (hp : OnD A p) (hk : k < 120) (w : Int32) : atV A p k w = atV B p k w := by
  have g := h.gg hp
  have hG := hD.gg hp
  unfold atV
  rw [(g k hk).2.1, (g k hk).2.2.1, (g k hk).2.2.2, (g k hk).1, ahV_ds h.ds g hG hk, bI_eq (roV_ds h.ds g hG hk), bI_eq (rdV_ds h.ds g hk)]
theorem runS_congr {p q : Nat → Bool} {n : Nat} (h : ∀ j, j < n → p j = q j) : runS p n = runS q n := fo_congr (fun j hj x => by rw [h j hj])
theorem setB_congr {p q : Nat → Bool} {n : Nat} (h : ∀ j, j < n → p j = q j) : setB p n = setB q n := fo_congr (fun j hj x => by rw [h j hj])
theorem rowV_de {A B : DV} (h : DE A B) (hD : DOK A) {p r : Nat} (hp : OnD A p) (hr : r < 10) (q : Int32) : rowV A (A.g p) r q = rowV B (B.g p) r q := by
  have g := h.gg hp
  have hG := hD.gg hp
  have e : ∀ s c, c < 12 → isV A (A.g p) (r * 12 + c) s = isV B (B.g p) (r * 12 + c) s := fun s c hc => isV_ds h.ds g hG (by omega) s
  unfold rowV colV
  rw [runS_congr (e 1), setB_congr (e (wh q))]
theorem ofG_ds {A B : DV} {G H : GV} (h : DS A B) (k : GE G H) (hG : GOK G) (w q c : Nat) : ofG A G w q 120 c = ofG B H w q 120 c := by
  unfold ofG
  refine fo_congr fun j hj x => ?_
  have e : whoV G j q = whoV H j q := by
    unfold whoV
    rw [(k j hj).2.2.1, (k j hj).2.2.2]
  rw [e, isV_ds h k hG hj]
theorem ofV_de {A B : DV} (h : DE A B) (hD : DOK A) {n : Nat} (hn : n ≤ 4) (en : A.pl = nI n) (w q : Nat) : ofV A w q n = ofV B w q n := by
  unfold ofV
  refine fo_congr fun j hj x => ?_
  have hj2 : nI j < A.pl := by rw [en]; exact (nI_ltI (by omega) (by omega)).mpr hj
  exact ofG_ds h.ds (h.2.2.2.2.2.2 j hj2 (by omega)) (hD.2.2.2.2 j hj2 (by omega)) _ _ _
theorem leF_congr {f g : Nat → UInt32} (h : ∀ j, j < 120 → f j = g j) : leF f 119 = leF g 119 := by
  unfold leF
  rw [h 0 (by omega)]
  exact fo_congr fun j hj x => by rw [h (j + 1) (by omega)]
theorem suF_congr {f g : Nat → UInt32} (h : ∀ j, j < 120 → f j = g j) : suF f 120 = suF g 120 := fo_congr fun j hj x => by rw [h j hj]
theorem smD_congr {f g : Nat → UInt32} (h : ∀ j, j < 120 → f j = g j) : smD f 120 = smD g 120 := fo_congr fun j hj x => by rw [h j hj]
theorem whoS_ds {A B : DV} {G H : GV} (h : DS A B) (k : GE G H) (j : Nat) : ∀ n, n ≤ 5 → whoS A G j n = whoS B H j n := fun n hn => fo_congr fun w hw x => by rw [leftV_ds h k (by omega) j 120 (Nat.le_refl _)]
theorem darkV_ds {A B : DV} {G H : GV} (h : DS A B) (k : GE G H) {w : Nat} (hw : w < 5) (j : Nat) : darkV A G w j 120 = darkV B H w j 120 := by
  unfold darkV
  refine cn_congr fun i hi => ?_
  rw [(k i hi).2.2.2, (k i hi).1, enV_ds h, dimV_ds h hw, enV_ds h]
theorem iwV_ds {A B : DV} {G H : GV} (h : DS A B) (hs : StV A) (k : GE G H) (hG : GOK G) {w j : Nat} (hw : w < 5) (q : Int32) : iwV A G w j q = iwV B H w j q := by
  unfold iwV
  rw [lostV_ds h k hw j (Nat.le_refl _), darkV_ds h k hw]
  have e : cn (fun i => roV A (markV A G w j (nI 0)) i) 120 = cn (fun i => roV B (markV B H w j (nI 0)) i) 120 := cn_congr fun i hi => roV_ds h (markV_ds h k hw j _) (GOK_mark hs hG hw (by omega)) hi
  rw [e]
theorem fiV_0 (D : DV) (w : Nat) (G : GV) : fiV D w G 0 = (G, 0) := rfl
theorem fiV_ds {A B : DV} {G H : GV} (h : DS A B) (hs : StV A) (k : GE G H) (hG : GOK G) {w : Nat} (hw : w < 5) : ∀ n, GE (fiV A w G n).1 (fiV B w H n).1 ∧ GOK (fiV A w G n).1 ∧ (fiV A w G n).2 = (fiV B w H n).2
  | 0 => by
    rw [fiV_0, fiV_0]
    exact ⟨k, hG, Eq.trans (b := 0) rfl rfl⟩
  | n + 1 => by
    obtain ⟨i1, i2, i3⟩ := fiV_ds h hs k hG hw n
    rw [fiV_s, fiV_s, ← bestV_ds h i1 i2 120 (Nat.le_refl _)]
    by_cases c : (bestV A (fiV A w G n).1 120).1 = mI 6
    · rw [if_pos c, if_pos c]
      exact ⟨i1, i2, i3⟩
    · rw [if_neg c, if_neg c]
      exact ⟨markV_ds h i1 hw _ _, GOK_mark hs i2 hw (by omega), by show (fiV A w G n).2 + 1 = _; rw [i3]⟩
theorem cntV_de {A B : DV} (h : DE A B) (w a b : Int32) : cntV A w a b = cntV B w a b := by
  unfold cntV
  rw [h.hr', h.pl', h.dk', h.pp', h.1 0 (by omega), h.1 1 (by omega), h.1 2 (by omega), h.1 3 (by omega)]
theorem isC_ds {A B : DV} {G H : GV} (h : DS A B) (k : GE G H) (hG : GOK G) (s : Nat) : cn (fun j => isV A G j s) 120 = cn (fun j => isV B H j s) 120 := cn_congr fun j hj => isV_ds h k hG hj s
