/-! the machine does what a stretch of code is computed to ask -/
section SO
variable {G : Gx} {nL : Nat} {p : Program} {l : Launch} {e : Env} {R : Room} {s : State} {m : MethodId} {args : Array Value} {below : List Frame} {meth : Method} {c : Code} {Q : State → Prop} {cc : ByteArray} {own : String} {Γ : List (MI × PT)} {K : KT} {E : ET}
theorem take_split {st : List Value} {w : Nat} (h : w ≤ st.length) : (st.take w).reverse.reverse ++ st.drop w = st := by
  rw [List.reverse_reverse, List.take_append_drop]
theorem last_split {st : List Value} {w : Nat} {v : Value} (h : (st.take w).getLast? = some v) : ∃ as : List Value, (st.take w).reverse = v :: as ∧ as.reverse ++ v :: st.drop w = st ∧ as.length + 1 = (st.take w).length := by
  have h1 : (st.take w).reverse.head? = some v := by rw [List.head?_reverse]; exact h
  cases hr : (st.take w).reverse with
  | nil => rw [hr] at h1; cases h1
  | cons a as =>
    rw [hr] at h1
    cases h1
    refine ⟨as, rfl, ?_, ?_⟩
    · have h2 : st.take w = as.reverse ++ [v] := by rw [← List.reverse_reverse (st.take w), hr, List.reverse_cons]
      have h3 : as.reverse ++ v :: st.drop w = st.take w ++ st.drop w := by rw [h2]; simp
      rw [h3, List.take_append_drop]
    · rw [← List.length_reverse (as := st.take w), hr]
      rfl
set_option maxHeartbeats 4000000 in
theorem wpC_ok (C0 : CX G cc nL own p s m args c) (hΓ : ∀ q ∈ Γ, Ct l G q.1 q.2) {kk : List Value → SS → Nat → Nat → Prop} {pc x y z w : Nat} {i : Instr} {L : List (Option Value)} {st : List Value} {S : SS} {cs sl : Nat}
    (hi : (∃ k, i = .invokestatic k) ∨ (∃ k, i = .invokespecial k) ∨ (∃ k, i = .invokevirtual k)) {ini : Bool} (hok : insOK cc own ini R (Γ.map Prod.fst) (pc, i, x, y, z, w) = true) (hw : wpC Γ R kk y z w st S cs sl)
    (hkk : ∀ st S cs sl, kk st S cs sl → VW G nL p l e R s m args below meth c Q (pc + 3) L st S cs sl) : VW G nL p l e R s m args below meth c Q pc L st S cs sl := by
  have call : ∀ (M : MI) (P : PT), Γ[y]? = some (M, P) → (Γ.map Prod.fst)[y]? = some M ∧ Ct l G M P := by
    intro M P h
    refine ⟨by rw [List.getElem?_map, h]; rfl, hΓ _ (List.mem_of_getElem? h)⟩
  rcases hi with ⟨k, rfl⟩ | ⟨k, rfl⟩ | ⟨k, rfl⟩
  · simp only [insOK, Bool.and_eq_true, decide_eq_true_eq] at hok
    obtain ⟨hd, hok⟩ := hok
    have hd : decode cc pc = .ok (.invokestatic k, 3) := hd
    split at hok
    · simp only [wpC] at hw
      simp only [Bool.and_eq_true, decide_eq_true_eq] at hok
      split at hw
      · obtain ⟨n0, n1, q1, q2, q3, q4, q5, q6, q7, q8, q9⟩ := hw
        exact copyI_ok C0 (wAt_in hok.1) natw1.1 natw1.2.1 natw1.2.2 q1 q2 q3 q4 q5 q6 q7 hok.2.1 (by omega) hd (hkk _ _ _ _ q9)
      · exact hw.elim
    · simp only [wpC] at hw
      simp only [Bool.and_eq_true, decide_eq_true_eq] at hok
      split at hw
      · obtain ⟨n0, n1, q1, q2, q3, q4, q5, q6, q7, q8, q9⟩ := hw
        exact copyF_ok C0 (wAt_in hok.1) natw1.1 natw1.2.1 natw1.2.2 q1 q2 q3 q4 q5 q6 q7 hok.2.1 (by omega) hd (hkk _ _ _ _ q9)
      · exact hw.elim
    · simp only [wpC] at hw
      split at hw
      · rename_i M P hΓy
        obtain ⟨h1, h2⟩ := call M P hΓy
        rw [h1] at hok
        simp only [Bool.and_eq_true, decide_eq_true_eq] at hok
        obtain ⟨q1, q2, q3, q4, q5, q6⟩ := hw
        have hv := callS_ok (Q := Q) (st := st.drop w) h2 C0 (l := l) (e := e) (below := below) (meth := meth) (L := L) hok.2.1 (wAt_in hok.1) ⟨hok.2.2.2.1, hok.2.2.2.2⟩ (by rw [List.length_reverse, List.length_take]; omega) q2 q3 q4 hd q6 (fun v S' h => hkk _ _ _ _ h)
        rwa [take_split q1] at hv
      · exact hw.elim
    · simp only [wpC] at hw
      split at hw
      · rename_i M P hΓy
        obtain ⟨h1, h2⟩ := call M P hΓy
        rw [h1] at hok
        simp only [Bool.and_eq_true, decide_eq_true_eq] at hok
        obtain ⟨q1, q2, q3, q4, q5, q6⟩ := hw
        have hv := callSN_ok (Q := Q) (st := st.drop w) h2 C0 (l := l) (e := e) (below := below) (meth := meth) (L := L) hok.2.1 (nest_in hok.1) ⟨hok.2.2.2.1, hok.2.2.2.2⟩ (by rw [List.length_reverse, List.length_take]; omega) q2 q3 q4 hd q6 (fun v S' h => hkk _ _ _ _ h)
        rwa [take_split q1] at hv
      · exact hw.elim
    · cases hok
  · simp only [insOK, Bool.and_eq_true, decide_eq_true_eq] at hok
    obtain ⟨hd, hok⟩ := hok
    have hd : decode cc pc = .ok (.invokespecial k, 3) := hd
    split at hok
    · simp only [wpC] at hw
      simp only [Bool.and_eq_true, decide_eq_true_eq] at hok
      split at hw
      · exact objInit_ok C0 (wAt_in hok.1) natw4.1 natw4.2 hok.2.1 (by omega) hd (hkk _ _ _ _ hw.2)
      · exact hw.elim
    · simp only [wpC] at hw
      split at hw
      · rename_i M P hΓy
        obtain ⟨h1, h2⟩ := call M P hΓy
        rw [h1] at hok
        simp only [Bool.and_eq_true, decide_eq_true_eq] at hok
        obtain ⟨q1, q2, q3, q4, q5, q6⟩ := hw
        obtain ⟨a, q5, -⟩ := q5 (by omega)
        obtain ⟨as, e1, e2, e3⟩ := last_split q5
        rw [e1] at q6
        have hv := callI_ok (Q := Q) (st := st.drop w) h2 C0 (l := l) (e := e) (below := below) (meth := meth) (L := L) hok.2.1 (wAt_in hok.1) ⟨hok.2.2.2.1, hok.2.2.2.2⟩ (by rw [List.length_take] at e3; omega) q2 q3 q4 hd q6 (fun v S' h => hkk _ _ _ _ h)
        rwa [e2] at hv
      · exact hw.elim
    · simp only [wpC] at hw
      split at hw
      · rename_i M P hΓy
        obtain ⟨h1, h2⟩ := call M P hΓy
        rw [h1] at hok
        simp only [Bool.and_eq_true, decide_eq_true_eq] at hok
        obtain ⟨q1, q2, q3, q4, q5, q6⟩ := hw
        obtain ⟨a, q5, -⟩ := q5 (by omega)
        obtain ⟨as, e1, e2, e3⟩ := last_split q5
        rw [e1] at q6
        have hv := callIN_ok (Q := Q) (st := st.drop w) h2 C0 (l := l) (e := e) (below := below) (meth := meth) (L := L) hok.2.1 (nest_in hok.1) ⟨hok.2.2.2.1, hok.2.2.2.2⟩ (by rw [List.length_take] at e3; omega) q2 q3 q4 hd q6 (fun v S' h => hkk _ _ _ _ h)
        rwa [e2] at hv
      · exact hw.elim
    · cases hok
  · simp only [insOK, Bool.and_eq_true, decide_eq_true_eq] at hok
    obtain ⟨hd, hok⟩ := hok
    have hd : decode cc pc = .ok (.invokevirtual k, 3) := hd
    split at hok
    · rename_i M hΓy
      simp only [Bool.and_eq_true, decide_eq_true_eq] at hok
      obtain ⟨hl, hz, hz2, hcl, hmk, hwn, hR⟩ := hok
      unfold wpC at hw
      split at hw
      · omega
      · omega
      · omega
      · split at hw
        · rename_i M' P hΓy'
          obtain ⟨h1, h2⟩ := call M' P hΓy'
          rw [h1] at hΓy
          cases hΓy
          obtain ⟨q1, q2, q3, q4, q5, q6⟩ := hw
          obtain ⟨a, q5, q7⟩ := q5 (by omega)
          obtain ⟨as, e1, e2, e3⟩ := last_split q5
          rw [e1] at q6
          have hv := callV_ok (Q := Q) (st := st.drop w) h2 C0 (l := l) (e := e) (below := below) (meth := meth) (L := L) hmk (wAt_in hl) hR (by rw [List.length_take] at e3; omega) q2 hz2 hcl (q7 hz) q3 q4 hd q6 (fun v S' h => hkk _ _ _ _ h)
          rwa [e2] at hv
        · exact hw.elim
    · cases hok
/-- the ends of methods -/
def isRet : Instr → Bool
  | .return_ | .ireturn | .lreturn | .freturn | .areturn => true
  | _ => false
theorem brO_of {i : Instr} (x : Nat) {P : Prop} {o : Int} {st st' : List Value} (hp : brI i st = some (P, o, st')) : brO i = some o ∧ ilen i x = 3 := by
  cases i <;> try (simp only [brI] at hp; cases hp; done)
  case if_icmp q o => cases q <;> simp only [brI] at hp <;> split at hp <;> cases hp <;> exact ⟨rfl, rfl⟩
  case ifCond q o => cases q <;> simp only [brI] at hp <;> split at hp <;> cases hp <;> exact ⟨rfl, rfl⟩
  case ifnull o => simp only [brI] at hp; split at hp <;> cases hp <;> exact ⟨rfl, rfl⟩
  case ifnonnull o => simp only [brI] at hp; split at hp <;> cases hp <;> exact ⟨rfl, rfl⟩
set_option maxHeartbeats 8000000 in
theorem wpO_ok (C0 : CX G cc nL own p s m args c) {kk : List (Option Value) → List Value → Prop} {pc x y z : Nat} {i : Instr} {L : List (Option Value)} {st : List Value} {S : SS} {cs sl : Nat}
    (hd : decode cc pc = .ok (i, ilen i x)) (hb : ∀ o, brO i = some o → (pc : Int) + o = (z : Int)) (hw : wpO K kk i x y z L st S cs sl)
    (hK : ∀ pc L st S cs sl, K pc L st S cs sl → VW G nL p l e R s m args below meth c Q pc L st S cs sl)
    (hkk : ∀ L st, kk L st → VW G nL p l e R s m args below meth c Q (pc + ilen i x) L st S cs sl) : VW G nL p l e R s m args below meth c Q pc L st S cs sl := by
  unfold wpO at hw
  split at hw
  · rename_i P st' hp
    exact pst_ok C0.1 C0.2.1 hp hd hw.1 (hkk _ _ hw.2)
  · split at hw
    · rename_i k tg hp
      split at hw
      · rename_i v hv
        exact ldI_ok C0.1 C0.2.1 hp hd hv hw.1 (hkk _ _ hw.2)
      · exact hw.elim
    · split at hw
      · rename_i k tg hp
        split at hw
        · exact sdI_ok C0.1 C0.2.1 hp hd hw.1 hw.2.1 (hkk _ _ hw.2.2)
        · exact hw.elim
      · split at hw
        · rename_i P o st' hp
          have ho : brO i = some o ∧ ilen i x = 3 := brO_of x hp
          rw [ho.2] at hkk
          exact brI_ok C0.1 C0.2.1 hp hd (hb o ho.1) (fun q => hK _ _ _ _ _ _ (hw.1 q)) (fun q => hkk _ _ (hw.2 q))
        · exact hw.elim
set_option maxHeartbeats 16000000 in
theorem wp1_ok (C0 : CX G cc nL own p s m args c) {ini : Bool} (hini : ini = true → meth.name = "<init>") (hΓ : ∀ q ∈ Γ, Ct l G q.1 q.2) {kk : List (Option Value) → List Value → SS → Nat → Nat → Prop} {pc x y z w : Nat} {i : Instr} {L : List (Option Value)} {st : List Value} {S : SS} {cs sl : Nat}
    (hok : insOK cc own ini R (Γ.map Prod.fst) (pc, i, x, y, z, w) = true) (hw : wp1 G Γ R K E kk (pc, i, x, y, z, w) L st S cs sl)
    (hK : ∀ pc L st S cs sl, K pc L st S cs sl → VW G nL p l e R s m args below meth c Q pc L st S cs sl)
    (hE : ∀ pc i v L S cs sl, E i v S cs sl → isRet i = true → decode cc pc = .ok (i, 1) → VW G nL p l e R s m args below meth c Q pc L v.toList S cs sl)
    (hkk : ∀ L st S cs sl, isEnd i = false → kk L st S cs sl → VW G nL p l e R s m args below meth c Q (pc + ilen i x) L st S cs sl) : VW G nL p l e R s m args below meth c Q pc L st S cs sl := by
  have dflt : ∀ j : Instr, j = i → isEnd j = false → decode cc pc = .ok (j, ilen j x) → (∀ o, brO j = some o → (pc : Int) + o = (z : Int)) → wpO K (fun L st => kk L st S cs sl) j x y z L st S cs sl → VW G nL p l e R s m args below meth c Q pc L st S cs sl := by
    intro j hj he hd hb h
    subst hj
    exact wpO_ok C0 hd hb h hK (fun L st q => hkk L st S cs sl he q)
  cases i
  case nop => exact hK _ _ _ _ _ _ hw
  case goto o =>
    simp only [insOK, Bool.and_eq_true, decide_eq_true_eq] at hok
    exact goto_ok C0.1 C0.2.1 hok.1 hok.2 (hK _ _ _ _ _ _ hw)
  case tableswitch d lo hi offs =>
    simp only [insOK, Bool.and_eq_true, decide_eq_true_eq] at hok
    obtain ⟨hd, ⟨h1, h2⟩, h3⟩ := hok
    simp only [wp1] at hw
    split at hw
    · have hin : ∀ (v : Int32) (st : List Value) (os : List Int) (k : Int), tblW (fun t => K t L st S cs sl) v pc k os → tblW (fun t => VW G nL p l e R s m args below meth c Q t L st S cs sl) v pc k os := by
        intro v st os
        induction os with
        | nil => exact fun _ _ => trivial
        | cons o os ih => exact fun k h => ⟨fun q => hK _ _ _ _ _ _ (h.1 q), ih _ h.2⟩
      exact tbl_ok C0.1 C0.2.1 hd h1 h2 h3 (hin _ _ _ _ hw.1) (fun q => hK _ _ _ _ _ _ (hw.2 q))
    · exact hw.elim
  case iinc k n =>
    simp only [insOK, Bool.and_eq_true, decide_eq_true_eq] at hok
    simp only [wp1] at hw
    split at hw
    · rename_i a ha
      exact iinc_ok C0.1 C0.2.1 hok.1 ha hok.2 (hkk _ _ _ _ _ rfl hw)
    · exact hw.elim
  case ldc idx =>
    simp only [insOK, Bool.and_eq_true, decide_eq_true_eq] at hok
    exact ldc_ok C0.1 C0.2.1 C0.2.2.2.1 (C0.2.2.2.2.1 _ (wAt_in hok.2.1)) hok.2.2 hok.1 (hkk _ _ _ _ _ rfl hw)
  case ldc2_w idx =>
    simp only [insOK, Bool.and_eq_true, decide_eq_true_eq] at hok
    exact ldc2_ok C0.1 C0.2.1 C0.2.2.2.1 (C0.2.2.2.2.1 _ (wAt_in hok.2.1)) hok.2.2 hok.1 (hkk _ _ _ _ _ rfl hw)
  case getfield idx =>
    simp only [insOK, Bool.and_eq_true, decide_eq_true_eq] at hok
    obtain ⟨hd, ⟨⟨h1, h2⟩, h3⟩, h4⟩ := hok
    simp only [wp1] at hw
    split at hw
    · obtain ⟨q1, q2⟩ := hw
      refine getf_ok C0 h1 h2 (wAt_in h3) h4 q1 hd ?_
      unfold fV
      split at q2
      · rename_i hr
        obtain ⟨r, q3, q4⟩ := q2
        rw [hr, q3]
        exact hkk _ _ _ _ _ rfl q4
      · rename_i hr
        rw [hr]
        exact hkk _ _ _ _ _ rfl q2
    · exact hw.elim
  case putfield idx =>
    simp only [insOK, Bool.and_eq_true, decide_eq_true_eq, Bool.or_eq_true, Bool.not_eq_true'] at hok
    obtain ⟨hd, ⟨⟨⟨h1, h2⟩, h3⟩, h4⟩, h5⟩ := hok
    have hfin : (clT x y).2.2.2 = true → meth.name = "<init>" ∧ clR x = own := by
      intro q
      rcases h5 with h5 | h5
      · rw [q] at h5; cases h5
      · exact ⟨hini h5.1, h5.2⟩
    simp only [wp1] at hw
    split at hw
    · obtain ⟨q1, q2, q3, q4⟩ := hw
      exact putI_ok C0 h1 h2 (wAt_in h3) h4 q1 hfin q2 q3 hd (hkk _ _ _ _ _ rfl q4)
    · obtain ⟨q1, q2, q3⟩ := hw
      exact putR_ok C0 h1 h2 (wAt_in h3) h4 q1 hfin q2 hd (hkk _ _ _ _ _ rfl q3)
    · exact hw.elim
  case iaload =>
    simp only [insOK, Bool.and_eq_true, decide_eq_true_eq] at hok
    simp only [wp1] at hw
    split at hw
    · obtain ⟨n, q1, q2, q3⟩ := hw
      rcases hok.2 with h8 | h8
      · subst h8
        exact iald_ok C0 q1 q2 hok.1 (hkk _ _ _ _ _ rfl q3)
      · exact tald_ok C0 q1 h8 q2 hok.1 (hkk _ _ _ _ _ rfl q3)
    · exact hw.elim
  case faload =>
    simp only [insOK, Bool.and_eq_true, decide_eq_true_eq] at hok
    simp only [wp1] at hw
    split at hw
    · obtain ⟨n, q1, q2, q3⟩ := hw
      exact fald_ok C0 q1 q2 hok.1 (hkk _ _ _ _ _ rfl q3)
    · exact hw.elim
  case baload =>
    simp only [insOK, Bool.and_eq_true, decide_eq_true_eq] at hok
    simp only [wp1] at hw
    split at hw
    · obtain ⟨n, q1, q2, q3⟩ := hw
      exact zald_ok C0 q1 q2 hok.1 (hkk _ _ _ _ _ rfl q3)
    · exact hw.elim
  case caload =>
    simp only [insOK, Bool.and_eq_true, decide_eq_true_eq] at hok
    simp only [wp1] at hw
    split at hw
    · obtain ⟨n, q1, q2, q3⟩ := hw
      exact cald_ok C0 q1 q2 hok.1 (hkk _ _ _ _ _ rfl q3)
    · exact hw.elim
  case aaload =>
    simp only [insOK, Bool.and_eq_true, decide_eq_true_eq] at hok
    simp only [wp1] at hw
    split at hw
    · obtain ⟨n, r, q1, q2, q3, q4⟩ := hw
      exact aald_ok C0 hok.2 q1 q2 q3 hok.1 (hkk _ _ _ _ _ rfl q4)
    · exact hw.elim
  case iastore =>
    simp only [insOK, Bool.and_eq_true, decide_eq_true_eq] at hok
    simp only [wp1] at hw
    split at hw
    · obtain ⟨n, q1, q2, q3⟩ := hw
      exact iast_ok C0 q1 q2 hok.1 (hkk _ _ _ _ _ rfl q3)
    · exact hw.elim
  case fastore =>
    simp only [insOK, Bool.and_eq_true, decide_eq_true_eq] at hok
    simp only [wp1] at hw
    split at hw
    · obtain ⟨n, q1, q2, q3⟩ := hw
      exact fast_ok C0 q1 q2 hok.1 (hkk _ _ _ _ _ rfl q3)
    · exact hw.elim
  case bastore =>
    simp only [insOK, Bool.and_eq_true, decide_eq_true_eq] at hok
    simp only [wp1] at hw
    split at hw
    · obtain ⟨n, q1, q2, q3, q4⟩ := hw
      exact zast_ok C0 q1 q2 q3 hok.1 (hkk _ _ _ _ _ rfl q4)
    · exact hw.elim
  case castore =>
    simp only [insOK, Bool.and_eq_true, decide_eq_true_eq] at hok
    simp only [wp1] at hw
    split at hw
    · obtain ⟨n, q1, q2, q3, q4⟩ := hw
      exact cast_ok C0 q1 q2 q3 hok.1 (hkk _ _ _ _ _ rfl q4)
    · exact hw.elim
  case aastore =>
    simp only [insOK, Bool.and_eq_true, decide_eq_true_eq] at hok
    simp only [wp1] at hw
    split at hw
    · obtain ⟨n, q1, q2, q3, q4⟩ := hw
      exact aast_ok C0 hok.2 q1 q2 q3 hok.1 (hkk _ _ _ _ _ rfl q4)
    · exact hw.elim
  case arraylength =>
    simp only [insOK, Bool.and_eq_true, decide_eq_true_eq] at hok
    simp only [wp1] at hw
    split at hw
    · obtain ⟨n, q1, q2⟩ := hw
      exact alen_ok C0 hok.2 q1 hok.1 (hkk _ _ _ _ _ rfl q2)
    · exact hw.elim
  case getstatic idx =>
    simp only [insOK, Bool.and_eq_true, decide_eq_true_eq] at hok
    exact gets_ok C0 hok.2.1 (nest_inF hok.2.2) hok.1 (hkk _ _ _ _ _ rfl hw)
  case new idx =>
    simp only [insOK, Bool.and_eq_true, decide_eq_true_eq] at hok
    obtain ⟨hd, ⟨⟨h1, h2⟩, h3⟩, h4⟩ := hok
    exact new_ok C0 h1 (wAt_in h2) (wAt_in h3) (wAt_in h4) hw.1 hw.2.1 hd (hkk _ _ _ _ _ rfl hw.2.2)
  case newarray at_ =>
    simp only [insOK, Bool.and_eq_true, decide_eq_true_eq] at hok
    obtain ⟨hd, ⟨⟨h1, h2⟩, h3⟩, h4⟩ := hok
    subst h3
    simp only [wp1] at hw
    split at hw
    · obtain ⟨q1, q2, q3, q4, q5⟩ := hw
      exact newa_ok C0 h1 h2 (wAt_in h4) q1 rfl q2 q3 q4 hd (hkk _ _ _ _ _ rfl q5)
    · exact hw.elim
  case anewarray idx =>
    simp only [insOK, Bool.and_eq_true, decide_eq_true_eq] at hok
    obtain ⟨hd, h1, h2⟩ := hok
    simp only [wp1] at hw
    split at hw
    · obtain ⟨q1, q2, q3, q4, q5⟩ := hw
      exact anew_ok C0 h1 (wAt_in h2) q1 rfl q2 q3 q4 hd (hkk _ _ _ _ _ rfl q5)
    · exact hw.elim
  case invokestatic idx => exact wpC_ok C0 hΓ (Or.inl ⟨idx, rfl⟩) hok hw (fun st S cs sl q => hkk _ _ _ _ _ rfl q)
  case invokespecial idx => exact wpC_ok C0 hΓ (Or.inr (Or.inl ⟨idx, rfl⟩)) hok hw (fun st S cs sl q => hkk _ _ _ _ _ rfl q)
  case invokevirtual idx => exact wpC_ok C0 hΓ (Or.inr (Or.inr ⟨idx, rfl⟩)) hok hw (fun st S cs sl q => hkk _ _ _ _ _ rfl q)
  case return_ =>
    simp only [insOK, Bool.and_eq_true, decide_eq_true_eq] at hok
    simp only [wp1] at hw
    split at hw
    · exact hE pc .return_ none L S cs sl hw rfl hok.1
    · exact hw.elim
  case ireturn =>
    simp only [insOK, Bool.and_eq_true, decide_eq_true_eq] at hok
    simp only [wp1] at hw
    split at hw
    · rename_i v
      exact hE pc .ireturn (some v) L S cs sl hw rfl hok.1
    · exact hw.elim
  case lreturn =>
    simp only [insOK, Bool.and_eq_true, decide_eq_true_eq] at hok
    simp only [wp1] at hw
    split at hw
    · rename_i v
      exact hE pc .lreturn (some v) L S cs sl hw rfl hok.1
    · exact hw.elim
  case freturn =>
    simp only [insOK, Bool.and_eq_true, decide_eq_true_eq] at hok
    simp only [wp1] at hw
    split at hw
    · rename_i v
      exact hE pc .freturn (some v) L S cs sl hw rfl hok.1
    · exact hw.elim
  case areturn =>
    simp only [insOK, Bool.and_eq_true, decide_eq_true_eq] at hok
    simp only [wp1] at hw
    split at hw
    · rename_i v
      exact hE pc .areturn (some v) L S cs sl hw rfl hok.1
    · exact hw.elim
  all_goals
    refine dflt _ rfl rfl ?_ ?_ hw
    · simp only [insOK, Bool.and_eq_true, decide_eq_true_eq] at hok
      exact hok.1
    · intro o ho
      first
        | (simp only [brO] at ho; cases ho; done)
        | (simp only [insOK, brO, Bool.and_eq_true, decide_eq_true_eq] at hok
           simp only [brO, Option.some.injEq] at ho
           rw [← ho]
           exact hok.2)
theorem wp_ok (C0 : CX G cc nL own p s m args c) {ini : Bool} (hini : ini = true → meth.name = "<init>") (hΓ : ∀ q ∈ Γ, Ct l G q.1 q.2)
    (hK : ∀ pc L st S cs sl, K pc L st S cs sl → VW G nL p l e R s m args below meth c Q pc L st S cs sl)
    (hE : ∀ pc i v L S cs sl, E i v S cs sl → isRet i = true → decode cc pc = .ok (i, 1) → VW G nL p l e R s m args below meth c Q pc L v.toList S cs sl) :
    ∀ (sg : List Ins) (L : List (Option Value)) (st : List Value) (S : SS) (cs sl : Nat), segOK cc own ini R (Γ.map Prod.fst) sg = true → wp G Γ R K E sg L st S cs sl → VW G nL p l e R s m args below meth c Q (segPc sg) L st S cs sl
  | [], _, _, _, _, _, _, hw => hw.elim
  | (pc, i, x, y, z, w) :: qs, L, st, S, cs, sl, hok, hw => by
    simp only [segOK, Bool.and_eq_true, Bool.or_eq_true] at hok
    obtain ⟨⟨h1, h2⟩, h3⟩ := hok
    refine wp1_ok C0 hini hΓ h1 hw hK hE (fun L st S cs sl he q => ?_)
    have ih := wp_ok C0 hini hΓ hK hE qs L st S cs sl h3 q
    rcases h2 with h2 | h2
    · rw [he] at h2; cases h2
    · match qs, h2, q, ih with
      | [], _, q, _ => exact q.elim
      | q2 :: qs, h2, _, ih =>
        simp only [decide_eq_true_eq] at h2
        have e : segPc (q2 :: qs) = pc + ilen i x := h2
        rw [e] at ih
        exact ih
end SO
