-- needs: 62.morder
/-! what a change leaves is in range; an order's error, answer, change -/
theorem GOK_new : GOK newV := fun _ _ => ⟨okL_1, Or.inl ⟨rfl, rfl⟩, Or.inl rfl⟩
theorem GOK_p {G : GV} (h : GOK G) {k : Nat} {v : Int32} (hv : v = mI 6 ∨ ∃ b, b < 5 ∧ v = nI b) : GOK (sf_p G (upV G.p k v)) := fun i hi => by
  obtain ⟨h1, h2, h3⟩ := h i hi
  refine ⟨h1, h2, ?_⟩
  show upV G.p k v i = mI 6 ∨ ∃ b, b < 5 ∧ upV G.p k v i = nI b
  unfold upV
  by_cases c : i = k
  · rw [if_pos c]; exact hv
  · rw [if_neg c]; exact h3
theorem GOK_rub {G : GV} (h : GOK G) {k : Nat} (hk : k < 120) : GOK (rubV G k) := fun i hi => by
  obtain ⟨h1, h2, h3⟩ := h i hi
  refine ⟨?_, ?_, h3⟩
  · show okL (upV G.l k (FP.fdiv (FP.fadd (G.l k) FP.fconst1) FP.fconst2) i)
    unfold upV
    by_cases c : i = k
    · rw [if_pos c]; exact (fl_rub (h k hk).1).2.2
    · rw [if_neg c]; exact h1
  · show (upV G.t k (mI 6) i = mI 6 ∧ upV G.w k (mI 6) i = mI 6) ∨ ∃ a b, a < 26 ∧ b < 5 ∧ upV G.t k (mI 6) i = nI a ∧ upV G.w k (mI 6) i = nI b
    unfold upV
    by_cases c : i = k
    · rw [if_pos c, if_pos c]; exact Or.inl ⟨rfl, rfl⟩
    · rw [if_neg c, if_neg c]; exact h2
theorem DOK.put {D : DV} (h : DOK D) {p : Nat} {G : GV} (hG : GOK G) : DOK (putG D p G) := by
  obtain ⟨h1, h2, h3, h4, h5⟩ := h
  refine ⟨h1, h2, h3, h4, fun r hr hr4 => ?_⟩
  show GOK (upV D.g p G r)
  unfold upV
  by_cases c : r = p
  · rw [if_pos c]; exact hG
  · rw [if_neg c]; exact h5 r hr hr4
theorem DOK.on {D : DV} (h : DOK D) (hd : ¬ D.dk = mI 6) : GOK (onG D) := ((DE.refl D).on h hd).2.1
theorem DOK.lay {D : DV} (h : DOK D) {p : Int32} (e : erLay D p = nI 0) : DOK (neLay D p) := by
  have h0 := h
  obtain ⟨h1, h2, ⟨n, hn, en, -⟩, h4, h5⟩ := h
  refine ⟨h1, h2, ⟨n, hn, en, Or.inr ?_⟩, h4, h5⟩
  unfold erLay at e
  by_cases c : ¬ (0 ≤ p ∧ p < D.pl)
  · rw [if_pos c] at e; exact absurd e (by decide)
  · have c := Decidable.not_not.mp c
    obtain ⟨k, hk, ek⟩ := vp_in_of ((in_cmp (by omega)).mpr (en ▸ c)) (by omega)
    exact ⟨k, by omega, ek⟩
theorem erJoin_0 {D : DV} {p : Int32} (e : erJoin D p = nI 0) : (∃ k, 1 ≤ k ∧ k ≤ 5 ∧ p = nI k) ∧ ¬ D.pp = nI 5 := by
  unfold erJoin at e
  by_cases c : ¬ (nI 1 ≤ p ∧ p ≤ nI 5)
  · rw [if_pos c] at e; exact absurd e (by decide)
  · rw [if_neg c] at e
    by_cases c2 : D.pp = nI 5
    · rw [if_pos c2] at e; exact absurd e (by decide)
    · have c := Decidable.not_not.mp c
      have h0 : 0 ≤ p := Int32.le_trans (by decide) c.1
      obtain ⟨k, hk, rfl⟩ := vp_in_of ((in_cmp (n := 6) (by omega)).mpr ⟨h0, Int32.lt_of_le_of_lt c.2 (by decide)⟩) (by omega)
      exact ⟨⟨k, (nI_leI (by omega) (by omega)).mp c.1, by omega, rfl⟩, c2⟩
theorem DOK.join {D : DV} (h : DOK D) {p : Int32} (e : erJoin D p = nI 0) : DOK (neJoin D p) := by
  obtain ⟨⟨k, k1, k5, rfl⟩, e5⟩ := erJoin_0 e
  obtain ⟨⟨s1, s2, s3, s4, s5⟩, h2, h3, ⟨n, hn, en⟩, h5⟩ := h
  have hn5 : n < 5 := by
    apply Nat.lt_of_le_of_ne hn
    intro a
    exact e5 (by rw [en, a])
  refine ⟨⟨s1, s2, s3, s4, fun i hi => ?_⟩, h2, h3, ⟨n + 1, by omega, ?_⟩, h5⟩
  · show ∃ a, a ≤ 5 ∧ upV D.pr D.pp.toNatClampNeg (nI k) i = nI a
    unfold upV
    by_cases c : i = D.pp.toNatClampNeg
    · rw [if_pos c]; exact ⟨k, k5, rfl⟩
    · rw [if_neg c]; exact s5 i hi
  · show D.pp + nI 1 = nI (n + 1)
    rw [en, nI_add]
theorem erCome_0 {D : DV} (h : DOK D) (e : erCome D = nI 0) : ∃ n, n < 4 ∧ D.pl = nI n := by
  obtain ⟨n, hn, en⟩ := h.pl
  refine ⟨n, ?_, en⟩
  unfold erCome at e
  by_cases c : D.pl = nI 4
  · rw [if_pos c] at e; exact absurd e (by decide)
  · apply Nat.lt_of_le_of_ne hn
    intro a
    exact c (by rw [en, a])
theorem DOK.come {D : DV} (h : DOK D) (e : erCome D = nI 0) : DOK (neCome D) := by
  obtain ⟨n, hn, en⟩ := erCome_0 h e
  obtain ⟨h1, h2, -, h4, h5⟩ := h
  refine ⟨h1, h2, ⟨n + 1, by omega, ?_, Or.inr ⟨n, by omega, en⟩⟩, h4, fun r hr hr4 => ?_⟩
  · show D.pl + nI 1 = nI (n + 1)
    rw [en, nI_add]
  · show GOK (upV D.g D.pl.toNatClampNeg newV r)
    have hr : nI r < D.pl + nI 1 := hr
    rw [en, nI_add, nI_ltI (by omega) (by omega)] at hr
    rw [en, nI_cl (by omega)]
    unfold upV
    by_cases c : r = n
    · rw [if_pos c]; exact GOK_new
    · rw [if_neg c]; exact h5 r (by rw [en, nI_ltI (by omega) (by omega)]; omega) hr4
theorem DOK.write {D : DV} (h : DOK D) {w r c t : Int32} (e : erWrite D w r c t = nI 0) : DOK (neWrite D w r c t) := by
  obtain ⟨c1, c2, c3, c4, -⟩ := erWrite_0 e
  obtain ⟨n, hn, en⟩ := h.pp
  obtain ⟨wn, hwn, ew⟩ := vp_in_of ((in_cmp (by omega)).mpr (en ▸ c1)) (by omega)
  obtain ⟨an, han, ea⟩ := vp_in_of ((in_cmp (by omega)).mpr c4) (by omega)
  have hg : GOK (markV D (D.g (dkP D)) wn (kP r c) (nI an)) := GOK_mark h.1 (h.on c2) (by omega) han
  have := h.put (p := dkP D) hg
  unfold neWrite wriV
  rw [ew, nI_cl (by omega), ea]
  exact this
theorem DOK.prom {D : DV} (h : DOK D) {w r c : Int32} (e : erProm D w r c = nI 0) : DOK (neProm D w r c) := by
  obtain ⟨c1, c2, c3⟩ := erProm_0 e
  obtain ⟨n, hn, en⟩ := h.pp
  obtain ⟨wn, hwn, ew⟩ := vp_in_of ((in_cmp (by omega)).mpr (en ▸ c1)) (by omega)
  exact h.put (GOK_p (h.on c2) (Or.inr ⟨wn, by omega, ew⟩))
theorem DOK.rub {D : DV} (h : DOK D) {r c : Int32} (e : erRub D r c = nI 0) : DOK (neRub D r c) := by
  obtain ⟨c1, c2, -⟩ := erRub_0 e
  exact h.put (GOK_rub (h.on c1) (kP_lt c2))
theorem erBack_0 {D : DV} {r c : Int32} (h : erBack D r c = nI 0) : ¬ D.dk = mI 6 ∧ Pl r c ∧ ¬ vaBack D r c = mI 6 := by
  unfold erBack at h
  by_cases c1 : D.dk = mI 6 ∨ ¬ Pl r c
  · rw [if_pos c1] at h
    exact absurd h (by decide)
  · rw [if_neg c1] at h
    refine ⟨fun a => c1 (Or.inl a), Decidable.not_not.mp fun a => c1 (Or.inr a), fun a => ?_⟩
    unfold vaBack at a
    rw [if_pos a] at h
    exact absurd h (by decide)
theorem DOK.back {D : DV} (h : DOK D) {r c : Int32} (e : erBack D r c = nI 0) : DOK (neBack D r c) :=
  h.put (GOK_p (h.on (erBack_0 e).1) (Or.inl rfl))
theorem DOK.pass {D : DV} (h : DOK D) {m : Int32} (e : erPass D m = nI 0) : DOK (nePass D m) := by
  obtain ⟨k, k1, k2, rfl⟩ := erPass_0 e
  have h0 := h
  obtain ⟨h1, ⟨v, hv, ev⟩, h3, h4, h5⟩ := h
  refine ⟨h1, ?_, h3, h4, fun r hr hr4 => ?_⟩
  · unfold erPass at e
    by_cases c1 : ¬ (nI 1 ≤ nI k ∧ nI k ≤ nI 48)
    · rw [if_pos c1] at e
      exact absurd e (by decide)
    · rw [if_neg c1] at e
      by_cases c2 : nI 9999 < D.hr + nI k
      · rw [if_pos c2] at e
        exact absurd e (by decide)
      · rw [ev, nI_add, nI_ltI (by omega) (by omega)] at c2
        refine ⟨v + k, by omega, ?_⟩
        show D.hr + nI k = nI (v + k)
        rw [ev, nI_add]
  · show GOK (pasG D (nI k).toNatClampNeg 4 r)
    rw [nI_cl (by omega)]
    unfold pasG
    have g := h5 r hr hr4
    split
    · exact fun j hj => ⟨okL_itV h1 (g j hj).1 k, (g j hj).2⟩
    · exact g
theorem leastK_le (k : Nat) : leastK k ≤ 1 := by
  unfold leastK
  split <;> omega
theorem DOK.set {D : DV} (h : DOK D) {k : Nat} {v : Int32} (hk : k < 4) (hv : ¬ (v < nI (leastK k) ∨ nI (mostK k) < v)) : DOK (sf_st D (upV D.st k v)) := by
  obtain ⟨⟨s1, s2, s3, s4, s5⟩, h2, h3, h4, h5⟩ := h
  have q : ∀ a b, leastK k = a → mostK k = b → b < 100 → ∃ c, (a ≤ c ∧ c ≤ b) ∧ v = nI c := fun a b e1 e2 hb => by
    rw [e1, e2] at hv
    have v1 : nI a ≤ v := Int32.not_lt.mp fun x => hv (Or.inl x)
    have v2 : v ≤ nI b := Int32.not_lt.mp fun x => hv (Or.inr x)
    have v0 : 0 ≤ v := Int32.not_lt.mp fun x => by
      have x1 := Int32.lt_iff_toInt_lt.mp x
      have x2 := Int32.le_iff_toInt_le.mp v1
      have x3 := Int32.le_iff_toInt_le.mp v2
      by_cases ha : a ≤ b
      · rw [nI_toInt (by omega)] at x2
        rw [show (0 : Int32).toInt = 0 from rfl] at x1
        omega
      · have := leastK_le k
        rw [e1] at this
        rw [nI_toInt (by omega)] at x2
        rw [show (0 : Int32).toInt = 0 from rfl] at x1
        omega
    have x3 := Int32.le_iff_toInt_le.mp v2
    rw [nI_toInt (by omega)] at x3
    have v3 : v < nI (b + 1) := by
      rw [Int32.lt_iff_toInt_lt, nI_toInt (by omega)]
      omega
    obtain ⟨c, hc, rfl⟩ := vp_in_of ((in_cmp (by omega)).mpr ⟨v0, v3⟩) (by omega)
    exact ⟨c, ⟨(nI_leI (by have := leastK_le k; omega) (by omega)).mp v1, by omega⟩, rfl⟩
  have st : ∀ j, ¬ j = k → upV D.st k v j = D.st j := fun j hj => if_neg hj
  have sk : upV D.st k v k = v := if_pos rfl
  refine ⟨⟨?_, ?_, ?_, ?_, s5⟩, h2, h3, h4, h5⟩
  · show ∃ a, a ≤ 18 ∧ upV D.st k v 0 = nI a
    by_cases c : 0 = k
    · subst c
      obtain ⟨c, c1, c2⟩ := q 0 18 rfl rfl (by omega)
      exact ⟨c, c1.2, sk.trans c2⟩
    · rw [st 0 c]; exact s1
  · show ∃ a, a ≤ 9 ∧ upV D.st k v 1 = nI a
    by_cases c : 1 = k
    · subst c
      obtain ⟨c, c1, c2⟩ := q 0 9 rfl rfl (by omega)
      exact ⟨c, c1.2, sk.trans c2⟩
    · rw [st 1 c]; exact s2
  · show ∃ a, (1 ≤ a ∧ a ≤ 99) ∧ upV D.st k v 2 = nI a
    by_cases c : 2 = k
    · subst c
      obtain ⟨c, c1, c2⟩ := q 1 99 rfl rfl (by omega)
      exact ⟨c, c1, sk.trans c2⟩
    · rw [st 2 c]; exact s3
  · show ∃ a, a ≤ 50 ∧ upV D.st k v 3 = nI a
    by_cases c : 3 = k
    · subst c
      obtain ⟨c, c1, c2⟩ := q 0 50 rfl rfl (by omega)
      exact ⟨c, c1.2, sk.trans c2⟩
    · rw [st 3 c]; exact s4
/-- an order's error, what it leaves -/
noncomputable def erE (D : DV) (e : Ent) : Int32 := if e.k = 110 then erCome D else if e.k = 111 then erLay D (nI e.a) else if e.k = 107 then erJoin D (nI e.a) else if e.k = 119 then erWrite D (nI e.a) (nI e.r) (nI e.c) (nI e.l) else if e.k = 112 then erProm D (nI e.a) (nI e.r) (nI e.c) else if e.k = 120 then erRub D (nI e.r) (nI e.c) else erPass D (nI e.a)
noncomputable def neE (D : DV) (e : Ent) : DV := if e.k = 110 then neCome D else if e.k = 111 then neLay D (nI e.a) else if e.k = 107 then neJoin D (nI e.a) else if e.k = 119 then neWrite D (nI e.a) (nI e.r) (nI e.c) (nI e.l) else if e.k = 112 then neProm D (nI e.a) (nI e.r) (nI e.c) else if e.k = 120 then neRub D (nI e.r) (nI e.c) else nePass D (nI e.a)
theorem erE_de {A B : DV} (h : DE A B) (hD : DOK A) (e : Ent) : erE A e = erE B e := by
  unfold erE
  rw [erCome_de h, erLay_de h, erJoin_de h, erWrite_de h hD, erProm_de h hD, erRub_de h hD, erPass_de h]
theorem neE_ok {A : DV} (hD : DOK A) {e : Ent} (h0 : erE A e = nI 0) : DOK (neE A e) := by
  unfold erE at h0
  unfold neE
  repeat' split
  all_goals simp only [*, if_true, if_false] at h0
  · exact hD.come h0
  · exact hD.lay h0
  · exact hD.join h0
  · exact hD.write h0
  · exact hD.prom h0
  · exact hD.rub h0
  · exact hD.pass h0
theorem neE_de {A B : DV} (h : DE A B) (hD : DOK A) {e : Ent} (h0 : erE A e = nI 0) : DE (neE A e) (neE B e) := by
  unfold erE at h0
  unfold neE
  repeat' split
  all_goals simp only [*, if_true, if_false] at h0
  · obtain ⟨n, hn, en⟩ := erCome_0 hD h0
    exact neCome_de h hn en
  · exact neLay_de h _
  · exact neJoin_de h _
  · obtain ⟨c1, c2, c3, c4, -⟩ := erWrite_0 h0
    obtain ⟨n, hn, en⟩ := hD.pp
    obtain ⟨wn, hwn, ew⟩ := vp_in_of ((in_cmp (by omega)).mpr (en ▸ c1)) (by omega)
    exact (vaWrite_de h hD _ _ _ _ (show wn < 5 by omega) ew c2).2
  · exact (vaProm_de h hD _ _ _ (erProm_0 h0).2.1).2
  · exact (vaRub_de h hD _ _ (erRub_0 h0).2.1 (erRub_0 h0).1).2
  · exact nePass_de h _
