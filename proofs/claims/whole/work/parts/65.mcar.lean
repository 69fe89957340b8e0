-- needs: 64.mone
/-! orders one after the other -/
/-- orders done until one may not be: how many, the desk left, whether all were done -/
noncomputable def rE : List Ent → Nat → DV → Nat × DV × Bool
  | [], n, D => (n, D, true)
  | e :: es, n, D => if erE D e = nI 0 then rE es (n + 1) (neE D e) else (n, D, false)
theorem rE_cons (e : Ent) (es : List Ent) (n : Nat) (D : DV) : rE (e :: es) n D = if erE D e = nI 0 then rE es (n + 1) (neE D e) else (n, D, false) := rfl
theorem rE_app : ∀ (a b : List Ent) n D, rE (a ++ b) n D = if (rE a n D).2.2 = true then rE b (rE a n D).1 (rE a n D).2.1 else rE a n D
  | [], b, n, D => by simp [rE]
  | e :: a, b, n, D => by
    rw [List.cons_append, rE_cons, rE_cons]
    by_cases h : erE D e = nI 0
    · rw [if_pos h, if_pos h]
      exact rE_app a b (n + 1) (neE D e)
    · rw [if_neg h, if_neg h]
      rfl
theorem rE_de : ∀ (es : List Ent) n {A B : DV}, DE A B → DOK A → (rE es n A).1 = (rE es n B).1 ∧ DE (rE es n A).2.1 (rE es n B).2.1 ∧ (rE es n A).2.2 = (rE es n B).2.2 ∧ DOK (rE es n A).2.1
  | [], n, A, B, h, hD => ⟨rfl, h, rfl, hD⟩
  | e :: es, n, A, B, h, hD => by
    unfold rE
    rw [← erE_de h hD]
    by_cases h0 : erE A e = nI 0
    · rw [if_pos h0, if_pos h0]
      exact rE_de es (n + 1) (neE_de h hD h0) (neE_ok hD h0)
    · rw [if_neg h0, if_neg h0]
      exact ⟨rfl, h, rfl, hD⟩
theorem rE_le : ∀ (es : List Ent) n D, (rE es n D).1 ≤ n + es.length
  | [], n, D => Nat.le_refl _
  | e :: es, n, D => by
    unfold rE
    by_cases h0 : erE D e = nI 0
    · rw [if_pos h0]
      have := rE_le es (n + 1) (neE D e)
      rw [List.length_cons]
      omega
    · rw [if_neg h0]
      exact Nat.le_add_right _ _
theorem rE_lo : ∀ (es : List Ent) n D, n ≤ (rE es n D).1
  | [], n, D => Nat.le_refl _
  | e :: es, n, D => by
    unfold rE
    by_cases h0 : erE D e = nI 0
    · rw [if_pos h0]
      have := rE_lo es (n + 1) (neE D e)
      omega
    · rw [if_neg h0]
      exact Nat.le_refl _
/-- the class's conditions, by the error and what is left -/
theorem kP_of {r c : Int32} {a b : Nat} (ha : a < 10) (hb : b < 12) (e1 : r = nI a) (e2 : c = nI b) : kP r c = a * 12 + b ∧ Pl r c := by
  subst e1 e2
  exact ⟨kP_n ha hb, nI_pos' (by omega), (nI_ltI (by omega) (by omega)).mpr ha, nI_pos' (by omega), (nI_ltI (by omega) (by omega)).mpr hb⟩
theorem cl_lay {D : DV} {p : Int32} {K : Int32 → DV → Bool → Prop} (hD : DOK D) (h1 : ∀ v, v = erLay D p → ¬ v = nI 0 → v < 0 → K v D false) (h2 : erLay D p = nI 0 → 0 ≤ D.dk → ∀ D', DE D' (neLay D p) → K D.dk D' true) :
    (¬ (0 ≤ p ∧ p < D.pl) → K (mI 1) D false) ∧ (0 ≤ p ∧ p < D.pl → p = D.dk → K (mI 5) D false) ∧ (0 ≤ p ∧ p < D.pl → ¬ p = D.dk → K D.dk (sf_dk D (p)) true) := by
  unfold erLay at h1 h2
  refine ⟨fun c => h1 _ (by rw [if_pos c]) (by decide) (by decide), fun c d => h1 _ (by rw [if_neg (fun a => a c), if_pos d]) (by decide) (by decide), fun c d => h2 (by rw [if_neg (fun a => a c), if_neg d]) ?_ _ (DE.refl _)⟩
  obtain ⟨n, hn, en, a | ⟨q, hq, eq⟩⟩ := hD.2.2.1
  · rw [en, a.2] at c
    exact absurd (Int32.lt_of_le_of_lt c.1 c.2) (by decide)
  · rw [eq]; exact nI_pos' (by omega)
theorem cl_join {D : DV} {p : Int32} {K : Int32 → DV → Bool → Prop} (hD : DOK D) (h1 : ∀ v, v = erJoin D p → ¬ v = nI 0 → v < 0 → K v D false) (h2 : erJoin D p = nI 0 → ∀ n, n < 5 → D.pp = nI n → ∀ D', DE D' (neJoin D p) → K (nI n) D' true) :
    (p < nI 1 ∨ nI 5 < p → K (mI 2) D false) ∧ (¬ (p < nI 1 ∨ nI 5 < p) → nI 5 ≤ D.pp → K (mI 4) D false) ∧ (¬ (p < nI 1 ∨ nI 5 < p) → ∀ n, n < 5 → D.pp = nI n → K (nI n) (sf_pp (sf_sp (sf_wr (sf_pr D (upV D.pr n p)) (upV D.wr n (nI 0))) (upV D.sp n (nI 0))) (nI (n + 1))) true) := by
  unfold erJoin at h1 h2
  have q : ¬ (p < nI 1 ∨ nI 5 < p) ↔ nI 1 ≤ p ∧ p ≤ nI 5 := by
    rw [not_or, Int32.not_lt, Int32.not_lt]
  obtain ⟨m, hm, em⟩ := hD.pp
  refine ⟨fun c => h1 _ (by rw [if_pos (fun a => q.mpr a c)]) (by decide) (by decide), fun c d => h1 _ ?_ (by decide) (by decide), fun c n hn en => h2 ?_ n hn en _ ?_⟩
  · rw [if_neg (fun a => a (q.mp c)), if_pos]
    rw [em] at d ⊢
    rw [nI_leI (by omega) (by omega)] at d
    rw [show m = 5 by omega]
  · rw [if_neg (fun a => a (q.mp c)), if_neg]
    rw [en, nI_eq (by omega) (by omega)]
    omega
  · unfold neJoin
    rw [en, nI_cl (by omega), nI_add]
    exact DE.refl _
theorem cl_come {D : DV} {K : Int32 → DV → Bool → Prop} (hD : DOK D) (h1 : ∀ v, v = erCome D → ¬ v = nI 0 → v < 0 → K v D false) (h2 : erCome D = nI 0 → ∀ n, n < 4 → D.pl = nI n → ∀ D', DE D' (neCome D) → K (nI n) D' true) :
    (nI 4 ≤ D.pl → K (mI 4) D false) ∧ (∀ n, n < 4 → D.pl = nI n → ∀ N, GE N newV → K (nI n) (sf_dk (sf_pl (putG D n N) (nI (n + 1))) (nI n)) true) := by
  unfold erCome at h1 h2
  obtain ⟨m, hm, em⟩ := hD.pl
  refine ⟨fun c => h1 _ ?_ (by decide) (by decide), fun n hn en N hN => h2 ?_ n hn en _ ?_⟩
  · rw [if_pos]
    rw [em] at c ⊢
    rw [nI_leI (by omega) (by omega)] at c
    rw [show m = 4 by omega]
  · rw [if_neg]
    rw [en, nI_eq (by omega) (by omega)]
    omega
  · unfold neCome
    rw [en, nI_cl (by omega), nI_add]
    have := (DE.refl D).put hN n
    exact ⟨this.1, this.2.1, this.2.2.1, rfl, rfl, this.2.2.2.2.2.1, fun r _ _ => by
      show GE (upV D.g n N r) (upV D.g n newV r)
      unfold upV
      split
      · exact hN
      · exact GE.refl _⟩
theorem cl_write {D : DV} {w r c t : Int32} {K : Int32 → DV → Bool → Prop} (h1 : ∀ v, v = erWrite D w r c t → ¬ v = nI 0 → v < 0 → K v D false) (h2 : erWrite D w r c t = nI 0 → ∀ D', DE D' (neWrite D w r c t) → K (vaWrite D w r c) D' true) :
    (¬ (0 ≤ w ∧ w < D.pp) ∨ D.dk = mI 6 ∨ ¬ Pl r c → K (mI 1) D false) ∧ ∀ p a b wn, OnD D p → a < 10 → b < 12 → r = nI a → c = nI b → 0 ≤ w → w < D.pp → w = nI wn → wn < 5 → (t < nI 0 ∨ nI 26 ≤ t → K (mI 2) D false) ∧
    (¬ (t < nI 0 ∨ nI 26 ≤ t) → (¬ wrOK D (D.g p) wn (a * 12 + b) = true → K (mI 5) D false) ∧ (wrOK D (D.g p) wn (a * 12 + b) = true → K (nI (lostV D (D.g p) wn (a * 12 + b) 120)) (wriV D p wn (a * 12 + b) t) true)) := by
  unfold erWrite at h1 h2
  refine ⟨fun q => h1 _ (by rw [if_pos q]) (by decide) (by decide), fun p a b wn hp ha hb e1 e2 w1 w2 ew hw => ?_⟩
  obtain ⟨k1, k2⟩ := kP_of ha hb e1 e2
  have n1 : ¬ (¬ (0 ≤ w ∧ w < D.pp) ∨ D.dk = mI 6 ∨ ¬ Pl r c) := fun x => x.elim (fun y => y ⟨w1, w2⟩) (fun y => y.elim (fun z => by rw [hp.1] at z; exact nI_ne_mI (by have := hp.2.1; omega) (by omega) (by omega) z) (fun z => z k2))
  have ht : ¬ (0 ≤ t ∧ t < nI 26) ↔ t < nI 0 ∨ nI 26 ≤ t := by
    rw [nI_0, Decidable.not_and_iff_or_not, Int32.not_le, Int32.not_lt]
  rw [if_neg n1, hp.on, k1, ew, nI_cl (by omega)] at h1 h2
  have v1 : vaWrite D (nI wn) r c = nI (lostV D (D.g p) wn (a * 12 + b) 120) := by
    unfold vaWrite
    rw [hp.on, k1, nI_cl (by omega)]
  have v2 : neWrite D (nI wn) r c t = wriV D p wn (a * 12 + b) t := by
    unfold neWrite
    rw [hp.dk, k1, nI_cl (by omega)]
  rw [v1, v2] at h2
  refine ⟨fun q => h1 _ (by rw [if_pos (ht.mpr q)]) (by decide) (by decide), fun q => ⟨fun d => h1 _ ?_ (by decide) (by decide), fun d => h2 ?_ _ (DE.refl _)⟩⟩
  · rw [if_neg (fun x => q (ht.mp x)), if_neg d]
  · rw [if_neg (fun x => q (ht.mp x)), if_pos d]
theorem cl_prom {D : DV} {w r c : Int32} {K : Int32 → DV → Bool → Prop} (h1 : ∀ v, v = erProm D w r c → ¬ v = nI 0 → v < 0 → K v D false) (h2 : erProm D w r c = nI 0 → ∀ D', DE D' (neProm D w r c) → K (vaProm D w r c) D' true) :
    (¬ (0 ≤ w ∧ w < D.pp) ∨ D.dk = mI 6 ∨ ¬ Pl r c → K (mI 1) D false) ∧ ∀ p a b, OnD D p → a < 10 → b < 12 → r = nI a → c = nI b → 0 ≤ w → w < D.pp → (¬ roV D (D.g p) (a * 12 + b) = true → K (mI 5) D false) ∧
    (roV D (D.g p) (a * 12 + b) = true → K (nI (cn (fun j => !decide (upV (D.g p).p (a * 12 + b) w j = mI 6)) 120)) (putG D p (sf_p (D.g p) (upV (D.g p).p (a * 12 + b) w))) true) := by
  unfold erProm at h1 h2
  refine ⟨fun q => h1 _ (by rw [if_pos q]) (by decide) (by decide), fun p a b hp ha hb e1 e2 w1 w2 => ?_⟩
  obtain ⟨k1, k2⟩ := kP_of ha hb e1 e2
  have n1 : ¬ (¬ (0 ≤ w ∧ w < D.pp) ∨ D.dk = mI 6 ∨ ¬ Pl r c) := fun x => x.elim (fun y => y ⟨w1, w2⟩) (fun y => y.elim (fun z => by rw [hp.1] at z; exact nI_ne_mI (by have := hp.2.1; omega) (by omega) (by omega) z) (fun z => z k2))
  rw [if_neg n1, hp.on, k1] at h1 h2
  unfold vaProm neProm at h2
  rw [hp.dk, hp.on, k1] at h2
  exact ⟨fun d => h1 _ (by rw [if_neg d]) (by decide) (by decide), fun d => h2 (by rw [if_pos d]) _ (DE.refl _)⟩
theorem cl_rub {D : DV} {r c : Int32} {K : Int32 → DV → Bool → Prop} (h1 : ∀ v, v = erRub D r c → ¬ v = nI 0 → v < 0 → K v D false) (h2 : erRub D r c = nI 0 → ∀ D', DE D' (neRub D r c) → K (vaRub D r c) D' true) :
    (D.dk = mI 6 ∨ ¬ Pl r c → K (mI 1) D false) ∧ ∀ p a b, OnD D p → a < 10 → b < 12 → r = nI a → c = nI b → ((D.g p).t (a * 12 + b) = mI 6 → K (mI 5) D false) ∧ (¬ (D.g p).t (a * 12 + b) = mI 6 → K ((D.g p).t (a * 12 + b)) (putG D p (rubV (D.g p) (a * 12 + b))) true) := by
  unfold erRub at h1 h2
  refine ⟨fun q => h1 _ (by rw [if_pos q]) (by decide) (by decide), fun p a b hp ha hb e1 e2 => ?_⟩
  obtain ⟨k1, k2⟩ := kP_of ha hb e1 e2
  have n1 : ¬ (D.dk = mI 6 ∨ ¬ Pl r c) := fun y => y.elim (fun z => by rw [hp.1] at z; exact nI_ne_mI (by have := hp.2.1; omega) (by omega) (by omega) z) (fun z => z k2)
  rw [if_neg n1, hp.on, k1] at h1 h2
  unfold vaRub neRub at h2
  rw [hp.dk, hp.on, k1] at h2
  exact ⟨fun d => h1 _ (by rw [if_pos d]) (by decide) (by decide), fun d => h2 (by rw [if_neg d]) _ (DE.refl _)⟩
theorem cl_back {D : DV} {r c : Int32} {K : Int32 → DV → Bool → Prop} (h1 : ∀ v, v = erBack D r c → ¬ v = nI 0 → v < 0 → K v D false) (h2 : erBack D r c = nI 0 → ∀ D', DE D' (neBack D r c) → K (vaBack D r c) D' true) :
    (D.dk = mI 6 ∨ ¬ Pl r c → K (mI 1) D false) ∧ ∀ p a b, OnD D p → a < 10 → b < 12 → r = nI a → c = nI b → ((D.g p).p (a * 12 + b) = mI 6 → K (mI 5) D false) ∧ (¬ (D.g p).p (a * 12 + b) = mI 6 → K ((D.g p).p (a * 12 + b)) (putG D p (sf_p (D.g p) (upV (D.g p).p (a * 12 + b) (mI 6)))) true) := by
  unfold erBack at h1 h2
  refine ⟨fun q => h1 _ (by rw [if_pos q]) (by decide) (by decide), fun p a b hp ha hb e1 e2 => ?_⟩
  obtain ⟨k1, k2⟩ := kP_of ha hb e1 e2
  have n1 : ¬ (D.dk = mI 6 ∨ ¬ Pl r c) := fun y => y.elim (fun z => by rw [hp.1] at z; exact nI_ne_mI (by have := hp.2.1; omega) (by omega) (by omega) z) (fun z => z k2)
  rw [if_neg n1, hp.on, k1] at h1 h2
  unfold vaBack neBack at h2
  rw [hp.dk, hp.on, k1] at h2
  exact ⟨fun d => h1 _ (by rw [if_pos d]) (by decide) (by decide), fun d => h2 (by rw [if_neg d]) _ (DE.refl _)⟩
theorem cl_pass {D : DV} {m : Int32} {K : Int32 → DV → Bool → Prop} (h1 : ∀ v, v = erPass D m → ¬ v = nI 0 → v < 0 → K v D false) (h2 : erPass D m = nI 0 → 0 ≤ D.hr + m → ∀ D', DE D' (nePass D m) → K (D.hr + m) D' true) :
    (m < nI 1 ∨ nI 48 < m → K (mI 2) D false) ∧ ∀ k h, 1 ≤ k → k ≤ 48 → m = nI k → D.hr = nI h → h ≤ 9999 → (9999 < h + k → K (mI 5) D false) ∧ (h + k ≤ 9999 → K (nI (h + k)) (sf_g (sf_hr D (nI (h + k))) (pasG D k 4)) true) := by
  unfold erPass at h1 h2
  have q : ¬ (m < nI 1 ∨ nI 48 < m) ↔ nI 1 ≤ m ∧ m ≤ nI 48 := by
    rw [not_or, Int32.not_lt, Int32.not_lt]
  refine ⟨fun c => h1 _ (by rw [if_pos (fun a => q.mpr a c)]) (by decide) (by decide), fun k h k1 k2 em eh hh => ?_⟩
  subst em
  have q1 : nI 1 ≤ nI k ∧ nI k ≤ nI 48 := ⟨(nI_leI (by omega) (by omega)).mpr k1, (nI_leI (by omega) (by omega)).mpr k2⟩
  rw [if_neg (fun a => a q1), eh, nI_add] at h1 h2
  unfold nePass at h2
  rw [eh, nI_add, nI_cl (by omega)] at h2
  refine ⟨fun c => h1 _ ?_ (by decide) (by decide), fun c => h2 ?_ (nI_pos' (by omega)) _ (DE.refl _)⟩
  · rw [if_pos ((nI_ltI (by omega) (by omega)).mpr c)]
  · rw [if_neg (fun a => by rw [nI_ltI (by omega) (by omega)] at a; omega)]
/-- an order of the class by its error and what it leaves -/
theorem ObP_of {D : DV} {e : Ent} {K : Int32 → DV → Prop} (hD : DOK D) (h1 : ¬ erE D e = nI 0 → ∀ v, ¬ 0 ≤ v → K v D) (h2 : erE D e = nI 0 → ∀ v D', 0 ≤ v → DE D' (neE D e) → K v D') : ObP D e K := by
  unfold erE at h1 h2
  unfold neE at h2
  refine ⟨fun q => ?_, fun q => ?_, fun q => ?_, fun q => ?_, fun q => ?_, fun q => ?_, fun q => ?_⟩
  · rw [if_pos q] at h1 h2
    rw [if_pos q] at h2
    exact cl_come (K := fun v D _ => K v D) hD (fun v ev h0 hv => h1 (ev ▸ h0) v (Int32.not_le.mpr hv)) (fun h0 n hn en D' hD' => h2 h0 _ _ (nI_pos' (by omega)) hD')
  · rw [if_neg (by omega), if_pos q] at h1
    rw [if_neg (by omega), if_pos q, if_neg (by omega), if_pos q] at h2
    exact cl_lay (K := fun v D _ => K v D) hD (fun v ev h0 hv => h1 (ev ▸ h0) v (Int32.not_le.mpr hv)) (fun h0 hv D' hD' => h2 h0 _ _ hv hD')
  · simp only [show ¬ e.k = 110 by omega, show ¬ e.k = 111 by omega, if_false] at h1 h2
    rw [if_pos q] at h1 h2
    rw [if_pos q] at h2
    exact cl_join (K := fun v D _ => K v D) hD (fun v ev h0 hv => h1 (ev ▸ h0) v (Int32.not_le.mpr hv)) (fun h0 n hn en D' hD' => h2 h0 _ _ (nI_pos' (by omega)) hD')
  · simp only [show ¬ e.k = 110 by omega, show ¬ e.k = 111 by omega, show ¬ e.k = 107 by omega, if_false] at h1 h2
    rw [if_pos q] at h1 h2
    rw [if_pos q] at h2
    exact cl_write (K := fun v D _ => K v D) (fun v ev h0 hv => h1 (ev ▸ h0) v (Int32.not_le.mpr hv)) (fun h0 D' hD' => h2 h0 _ _ (by unfold vaWrite; exact nI_pos' (by have := lostV_le D (onG D) (nI e.a).toNatClampNeg (kP (nI e.r) (nI e.c)) 120; omega)) hD')
  · simp only [show ¬ e.k = 110 by omega, show ¬ e.k = 111 by omega, show ¬ e.k = 107 by omega, show ¬ e.k = 119 by omega, if_false] at h1 h2
    rw [if_pos q] at h1 h2
    rw [if_pos q] at h2
    exact cl_prom (K := fun v D _ => K v D) (fun v ev h0 hv => h1 (ev ▸ h0) v (Int32.not_le.mpr hv)) (fun h0 D' hD' => h2 h0 _ _ (by unfold vaProm; exact nI_pos' (Nat.lt_of_le_of_lt (cn_le _ 120) (by omega))) hD')
  · simp only [show ¬ e.k = 110 by omega, show ¬ e.k = 111 by omega, show ¬ e.k = 107 by omega, show ¬ e.k = 119 by omega, show ¬ e.k = 112 by omega, if_false] at h1 h2
    rw [if_pos q] at h1 h2
    rw [if_pos q] at h2
    refine cl_rub (K := fun v D _ => K v D) (fun v ev h0 hv => h1 (ev ▸ h0) v (Int32.not_le.mpr hv)) (fun h0 D' hD' => h2 h0 _ _ ?_ hD')
    obtain ⟨c1, c2, c3⟩ := erRub_0 h0
    obtain ⟨-, a | ⟨a, b, ha, hb, ea, -⟩, -⟩ := hD.on c1 _ (kP_lt c2)
    · exact absurd a.1 c3
    · unfold vaRub
      rw [ea]
      exact nI_pos' (by omega)
  · simp only [show ¬ e.k = 110 by omega, show ¬ e.k = 111 by omega, show ¬ e.k = 107 by omega, show ¬ e.k = 119 by omega, show ¬ e.k = 112 by omega, show ¬ e.k = 120 by omega, if_false] at h1 h2
    exact cl_pass (K := fun v D _ => K v D) (fun v ev h0 hv => h1 (ev ▸ h0) v (Int32.not_le.mpr hv)) (fun h0 hv D' hD' => h2 h0 _ _ hv hD')
theorem CaP_of {K : Nat → DV → Prop} : ∀ (es : List Ent) n (A : DV), DOK A → (∀ D', DE D' (rE es n A).2.1 → K (rE es n A).1 D') → CaP es n A K
  | [], n, A, hD, h => h A (DE.refl A)
  | e :: es, n, A, hD, h => by
    rw [rE_cons] at h
    refine ObP_of hD (fun h0 v hv => ⟨fun a => absurd a hv, fun _ => ?_⟩) (fun h0 v D' hv hE => ⟨fun _ => ?_, fun a => absurd hv a⟩)
    · rw [if_neg h0] at h
      exact h A (DE.refl A)
    · rw [if_pos h0] at h
      have hN := neE_ok hD h0
      refine ⟨DOK.congr hE.symm hN, fun D2 h2 => ?_⟩
      have h3 : DE (neE A e) D2 := (h2.trans hE).symm
      obtain ⟨q1, q2, q3, q4⟩ := rE_de es (n + 1) h3 hN
      refine CaP_of es (n + 1) D2 (DOK.congr h3 hN) fun D3 h4 => ?_
      rw [← q1]
      exact h D3 (h4.trans q2.symm)
