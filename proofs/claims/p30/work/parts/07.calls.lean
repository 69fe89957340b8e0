/-! contracts of methods in the words of the plain machine; calls; ends -/
/-- a method: name, bytes, locals, answer, room, parameters, kind (0 static, 1 of an object, 2 constructor), places of its words: code, initialized, static or instanceMethod, selects -/
abbrev MI : Type := MethodName × ByteArray × Nat × Option FieldType × Room × Nat × Nat × Nat × Nat × Nat × Nat
def mY (M : MI) : MethodName := M.1
def mC (M : MI) : ByteArray := M.2.1
def mL (M : MI) : Nat := M.2.2.1
def mT (M : MI) : Option FieldType := M.2.2.2.1
def mR (M : MI) : Room := M.2.2.2.2.1
def mP (M : MI) : Nat := M.2.2.2.2.2.1
def mK (M : MI) : Nat := M.2.2.2.2.2.2.1
def wsM (M : MI) : List Cond := .code (mY M) (mC M) (mL M) (mT M) :: lw_all
def okM (M : MI) : Bool := plainFor (mY M) && decide ((mY M).cls ≠ "java/lang/invoke/MethodHandle" ∧ (mY M).cls ≠ "java/lang/invoke/VarHandle") && decide ((parseMethodDescriptor (mY M).desc).map (fun d => d.parameters.length) = some (mP M)) &&
  wAt M.2.2.2.2.2.2.2.1 (.code (mY M) (mC M) (mL M) (mT M)) && wAt M.2.2.2.2.2.2.2.2.1 (.initialized (mY M).cls) &&
  (match mK M with
    | 0 => wAt M.2.2.2.2.2.2.2.2.2.1 (.static (mY M))
    | 1 => wAt M.2.2.2.2.2.2.2.2.2.1 (.instanceMethod (mY M)) && wAt M.2.2.2.2.2.2.2.2.2.2 (.selects (mY M).cls (mY M) (mY M))
    | _ => wAt M.2.2.2.2.2.2.2.2.2.1 (.instanceMethod (mY M)) && decide ((mY M).name = "<init>" ∧ mT M = none))
theorem okM_use {M : MI} (h : okM M = true) : plainFor (mY M) = true ∧ ((mY M).cls ≠ "java/lang/invoke/MethodHandle" ∧ (mY M).cls ≠ "java/lang/invoke/VarHandle") ∧ (parseMethodDescriptor (mY M).desc).map (fun d => d.parameters.length) = some (mP M) ∧
    Cond.code (mY M) (mC M) (mL M) (mT M) ∈ lw_all ∧ Cond.initialized (mY M).cls ∈ lw_all ∧ (mK M = 0 → Cond.static (mY M) ∈ lw_all) ∧ (mK M = 1 → Cond.instanceMethod (mY M) ∈ lw_all ∧ Cond.selects (mY M).cls (mY M) (mY M) ∈ lw_all) ∧ (mK M = 2 → Cond.instanceMethod (mY M) ∈ lw_all ∧ (mY M).name = "<init>" ∧ mT M = none) := by
  unfold okM at h
  simp only [Bool.and_eq_true, decide_eq_true_eq] at h
  obtain ⟨⟨⟨⟨⟨h1, h2⟩, h3⟩, h4⟩, h5⟩, h6⟩ := h
  refine ⟨h1, h2, h3, wAt_in h4, wAt_in h5, fun k => ?_, fun k => ?_, fun k => ?_⟩
  · rw [k] at h6
    exact wAt_in h6
  · rw [k] at h6
    simp only [Bool.and_eq_true] at h6
    exact ⟨wAt_in h6.1, wAt_in h6.2⟩
  · rw [k] at h6
    simp only [Bool.and_eq_true, decide_eq_true_eq] at h6
    exact ⟨wAt_in h6.1, h6.2⟩
/-- what a method's end says -/
def QE (G : Gx) (E : Option Value → SS → Prop) : Array Value → State → Outcome → State → Prop := fun _ st o t => (∃ v S', o = .returned v ∧ E v S' ∧ Rep G S' t.heap) ∧ va_F (gA G) st t
/-- what a method's start says -/
def PB (G : Gx) (S : SS) : State → Prop := fun U => Rep G S U.heap ∧ gOK G U U.heap ∧ G.2.2.2 ≤ U.heap.size
/-- a method does what P says: from arguments and a state, to every end E that P allows -/
def Ct (l : Launch) (G : Gx) (M : MI) (P : List Value → SS → (Option Value → SS → Prop) → Prop) : Prop :=
  okM M = true ∧ ∀ (as : List Value) (S : SS) (E : Option Value → SS → Prop), P as S E → Met l (mY M) (wsM M) (mR M) (va_Pc as (PB G S)) (QE G E) (mR M).cells (mR M).slots (gA G)
theorem good_wsM {M : MI} (h : okM M = true) : GoodIn lw_all (wsM M) := by
  intro w hw
  have hin : w ∈ lw_all := by
    rcases List.mem_cons.mp hw with rfl | hw
    · exact (okM_use h).2.2.2.1
    · exact hw
  exact ⟨hin, all_good hin⟩
section CA
variable {G : Gx} {nL : Nat} {p : Program} {l : Launch} {e : Env} {R : Room} {s : State} {m : MethodId} {args : Array Value} {below : List Frame} {meth : Method} {c : Code} {Q : State → Prop} {cc : ByteArray} {pc : Nat} {L : List (Option Value)} {S : SS} {cs sl : Nat} {own : String} {H : Heap} {locs : List Loc}
theorem run_go {ls : Array Slot} {rest st0 : List Value} {a : Array Value} {mc ms : Nat} {E : Option Value → SS → Prop} (hr : va_Run p l e R s m args below meth c H locs cs sl mc ms (F0 m pc ls st0) rest (QE G E a) (gA G)) (hS : va_S (gA G) s.heap H locs)
    (kk : ∀ (v : Option Value) (S' : SS) (H1 : Heap) (locs1 : List Loc), E v S' → Rep G S' H1 → va_S (gA G) s.heap H1 locs1 → W p l e R s m args below meth c H1 locs1 (cs + mc) (sl + ms) Q (F0 m (pc + 3) ls (v.toList ++ rest))) : W p l e R s m args below meth c H locs cs sl Q (F0 m pc ls st0) := by
  intro T hT X
  obtain ⟨v, st₀, t, T', L', h0, X', hL, e1, e2, ⟨⟨v', S', hv, hE, hR⟩, hz, hk⟩, st⟩ := hr T hT X
  cases hv
  rw [h0] at hz hk
  obtain ⟨t2, a1, b1⟩ := kk v S' T'.heap (locs ++ L') hE (by rw [e1]; exact hR)
    ⟨Nat.le_trans hS.1 (by rw [e1]; exact hz), fun q h1 h2 => by rw [e1, hk q (Nat.lt_of_lt_of_le h1 hS.1) h2]; exact hS.2.1 q h1 h2, fun q hq => by
      rcases List.mem_append.mp hq with h | h
      · exact hS.2.2 q h
      · exact hL q h⟩ T' rfl X'
  exact ⟨t2, st t2 a1, b1⟩
theorem gOK_on (hG : gOK G s s.heap) (hbase : G.2.2.2 ≤ s.heap.size) (h1 : Rep G S H) (h2 : va_S (gA G) s.heap H locs) {U : State} (hU : U.heap = H) (hW : s.WarmedH U.vm) : PB G S U := by
  unfold PB
  rw [hU]
  exact ⟨h1, (hG.kept h2.2.1).warm hW, Nat.le_trans hbase h2.1⟩
theorem blind {as : List Value} : FrameBlind (va_Pc as (PB G S)) := fun a U g mk h => ⟨h.1, h.2.1, h.2.2.1.calling g mk a, h.2.2.2⟩
/-- the room that a call needs -/
def fitsR (M : MI) (R : Room) : Prop := (mR M).frames + 1 ≤ R.frames ∧ 8 + (mL M + 11) + (mR M).locals ≤ R.locals
theorem callB {M : MI} (hM : okM M = true) (C0 : CX G cc nL own p s m args c) {idx : Nat} (hl : Cond.methodLink own idx (mY M) ∈ lw_all) (hR : fitsR M R) :
    CallB R s args own idx (mY M) (mC M) (mL M) (mT M) (wsM M) (mR M) (mR M).cells (mR M).slots (mP M) := by
  obtain ⟨h1, h2, h3, h4, h5, -⟩ := okM_use hM
  obtain ⟨hx, hb, hml, hown, hts, hG, hbase⟩ := C0
  exact callB_of (mP M) hts (good_wsM hM) rfl rfl rfl (hts _ h5) (hts _ hl) ⟨h2.1, h2.2, h3⟩ hR
theorem callN {M : MI} (hM : okM M = true) (C0 : CX G cc nL own p s m args c) {idx : Nat} {host : String} (hl : Cond.methodLinkNest own idx (mY M) host ∈ nestW) (hR : fitsR M R) :
    va_CN R s args own idx (mY M) host (mC M) (mL M) (mT M) (wsM M) (mR M) (mR M).cells (mR M).slots (mP M) := by
  obtain ⟨h1, h2, h3, h4, h5, -⟩ := okM_use hM
  obtain ⟨hx, hb, hml, hown, hts, hG, hbase⟩ := C0
  exact va_cnB (mP M) hts (good_wsM hM) rfl rfl rfl (hG.2.1 _ hl) (hts _ h5) ⟨h2.1, h2.2, h3⟩ hR
theorem callS_ok {M : MI} {P : List Value → SS → (Option Value → SS → Prop) → Prop} (hC : Ct l G M P) (C0 : CX G cc nL own p s m args c) {idx : Nat} {as st : List Value} (hk : mK M = 0) (hl : Cond.methodLink own idx (mY M) ∈ lw_all) (hR : fitsR M R) (hn : as.length = mP M) (hst : (st.map fun v => v.category).sum ≤ 8)
    (hcs : cs + (mR M).cells ≤ R.cells) (hsl : sl + (mR M).slots ≤ R.slots) (hd : decode cc pc = .ok (.invokestatic idx, 3)) {E : Option Value → SS → Prop} (hP : P as S E)
    (kk : ∀ v S', E v S' → VW G nL p l e R s m args below meth c Q (pc + 3) L (v.toList ++ st) S' (cs + (mR M).cells) (sl + (mR M).slots)) : VW G nL p l e R s m args below meth c Q pc L (as.reverse ++ st) S cs sl := by
  intro H locs ls h1 h2 h3
  have C1 := C0
  obtain ⟨hx, hb, hml, hown, hts, hG, hbase⟩ := C0
  exact run_go (va_runS (As := as) (rest := st) ⟨hx, hb, hml, hown, hts⟩ (hC.2 as S E hP) ⟨callB hC.1 C1 hl hR, hts _ ((okM_use hC.1).2.2.2.2.2.1 hk)⟩ ⟨blind, fun U hU hW => ⟨rfl, gOK_on hG hbase h1 h2 hU hW⟩⟩ rfl hn h3.1 rfl (by show 2 * 0 + _ ≤ 8; omega) hd ⟨hcs, hsl⟩) h2
    (fun v S' H1 locs1 hE hR1 hS1 => kk v S' hE H1 locs1 ls hR1 hS1 h3)
theorem callSN_ok {M : MI} {P : List Value → SS → (Option Value → SS → Prop) → Prop} (hC : Ct l G M P) (C0 : CX G cc nL own p s m args c) {idx : Nat} {host : String} {as st : List Value} (hk : mK M = 0) (hl : Cond.methodLinkNest own idx (mY M) host ∈ nestW) (hR : fitsR M R) (hn : as.length = mP M) (hst : (st.map fun v => v.category).sum ≤ 8)
    (hcs : cs + (mR M).cells ≤ R.cells) (hsl : sl + (mR M).slots ≤ R.slots) (hd : decode cc pc = .ok (.invokestatic idx, 3)) {E : Option Value → SS → Prop} (hP : P as S E)
    (kk : ∀ v S', E v S' → VW G nL p l e R s m args below meth c Q (pc + 3) L (v.toList ++ st) S' (cs + (mR M).cells) (sl + (mR M).slots)) : VW G nL p l e R s m args below meth c Q pc L (as.reverse ++ st) S cs sl := by
  intro H locs ls h1 h2 h3
  have C1 := C0
  obtain ⟨hx, hb, hml, hown, hts, hG, hbase⟩ := C0
  exact run_go (va_runSN (As := as) (rest := st) ⟨hx, hb, hml, hown, hts⟩ (hC.2 as S E hP) ⟨callN hC.1 C1 hl hR, hts _ ((okM_use hC.1).2.2.2.2.2.1 hk), trivial⟩ ⟨blind, fun U hU hW => ⟨rfl, gOK_on hG hbase h1 h2 hU hW⟩⟩ rfl hn h3.1 rfl (by show 2 * 0 + _ ≤ 8; omega) hd ⟨hcs, hsl⟩) h2
    (fun v S' H1 locs1 hE hR1 hS1 => kk v S' hE H1 locs1 ls hR1 hS1 h3)
theorem callV_ok {M : MI} {P : List Value → SS → (Option Value → SS → Prop) → Prop} (hC : Ct l G M P) (C0 : CX G cc nL own p s m args c) {idx ci n0 a : Nat} {as st : List Value} (hk : mK M = 1) (hl : Cond.methodLink own idx (mY M) ∈ lw_all) (hR : fitsR M R) (hn : as.length = mP M) (hst : (st.map fun v => v.category).sum ≤ 8)
    (hc : ci < 7) (hcl : (mY M).cls = clR ci) (ha : sK S a = some (ci, n0)) (hcs : cs + (mR M).cells ≤ R.cells) (hsl : sl + (mR M).slots ≤ R.slots) (hd : decode cc pc = .ok (.invokevirtual idx, 3)) {E : Option Value → SS → Prop} (hP : P (.ref a :: as) S E)
    (kk : ∀ v S', E v S' → VW G nL p l e R s m args below meth c Q (pc + 3) L (v.toList ++ st) S' (cs + (mR M).cells) (sl + (mR M).slots)) : VW G nL p l e R s m args below meth c Q pc L (as.reverse ++ .ref a :: st) S cs sl := by
  intro H locs ls h1 h2 h3
  have C1 := C0
  obtain ⟨hx, hb, hml, hown, hts, hG, hbase⟩ := C0
  obtain ⟨-, cell, q1, q2, q3, -⟩ := h1.obj hc ha
  have hw := (okM_use hC.1).2.2.2.2.2.2.1 hk
  have hrec : ∃ cellB : Cell, H[a]? = some cellB ∧ cellB.vm.isStatics = false ∧ s.vm.findClass (mY M).cls = some cellB.cls := ⟨cell, q1, by rw [q3]; rfl, by rw [q2, hcl]; exact (hG.1.1 ci _ (cl_at hc)).2.1⟩
  exact run_go (va_runV (As := as) (rest := st) (b := a) ⟨hx, hb, hml, hown, hts⟩ (hC.2 (.ref a :: as) S E hP) ⟨callB hC.1 C1 hl hR, hts _ hw.1, hts _ hw.2⟩ ⟨blind, hrec, fun U hU hW => ⟨rfl, gOK_on hG hbase h1 h2 hU hW⟩⟩ rfl hn h3.1 rfl (by show 2 * 0 + _ ≤ 8; omega) hd ⟨hcs, hsl⟩) h2
    (fun v S' H1 locs1 hE hR1 hS1 => kk v S' hE H1 locs1 ls hR1 hS1 h3)
theorem callI_ok {M : MI} {P : List Value → SS → (Option Value → SS → Prop) → Prop} (hC : Ct l G M P) (C0 : CX G cc nL own p s m args c) {idx a : Nat} {as st : List Value} (hk : mK M = 2) (hl : Cond.methodLink own idx (mY M) ∈ lw_all) (hR : fitsR M R) (hn : as.length = mP M) (hst : (st.map fun v => v.category).sum ≤ 8)
    (hcs : cs + (mR M).cells ≤ R.cells) (hsl : sl + (mR M).slots ≤ R.slots) (hd : decode cc pc = .ok (.invokespecial idx, 3)) {E : Option Value → SS → Prop} (hP : P (.ref a :: as) S E)
    (kk : ∀ v S', E v S' → VW G nL p l e R s m args below meth c Q (pc + 3) L (v.toList ++ st) S' (cs + (mR M).cells) (sl + (mR M).slots)) : VW G nL p l e R s m args below meth c Q pc L (as.reverse ++ .ref a :: st) S cs sl := by
  intro H locs ls h1 h2 h3
  have C1 := C0
  have hw := (okM_use hC.1).2.2.2.2.2.2.2 hk
  have hB := callB hC.1 C1 hl hR
  have hMt := hC.2 (.ref a :: as) S E hP
  rw [hw.2.2] at hB
  obtain ⟨hx, hb, hml, hown, hts, hG, hbase⟩ := C0
  exact run_go (va_runI (As := as) (rest := st) (b := a) ⟨hx, hb, hml, hown, hts⟩ hMt ⟨hB, hw.2.1, hts _ hw.1⟩ ⟨blind, fun U hU hW => ⟨rfl, gOK_on hG hbase h1 h2 hU hW⟩⟩ rfl hn h3.1 rfl (by show 2 * 0 + _ ≤ 8; omega) hd ⟨hcs, hsl⟩) h2
    (fun v S' H1 locs1 hE hR1 hS1 => kk v S' hE H1 locs1 ls hR1 hS1 h3)
theorem callIN_ok {M : MI} {P : List Value → SS → (Option Value → SS → Prop) → Prop} (hC : Ct l G M P) (C0 : CX G cc nL own p s m args c) {idx a : Nat} {host : String} {as st : List Value} (hk : mK M = 2) (hl : Cond.methodLinkNest own idx (mY M) host ∈ nestW) (hR : fitsR M R) (hn : as.length = mP M) (hst : (st.map fun v => v.category).sum ≤ 8)
    (hcs : cs + (mR M).cells ≤ R.cells) (hsl : sl + (mR M).slots ≤ R.slots) (hd : decode cc pc = .ok (.invokespecial idx, 3)) {E : Option Value → SS → Prop} (hP : P (.ref a :: as) S E)
    (kk : ∀ v S', E v S' → VW G nL p l e R s m args below meth c Q (pc + 3) L (v.toList ++ st) S' (cs + (mR M).cells) (sl + (mR M).slots)) : VW G nL p l e R s m args below meth c Q pc L (as.reverse ++ .ref a :: st) S cs sl := by
  intro H locs ls h1 h2 h3
  have C1 := C0
  have hw := (okM_use hC.1).2.2.2.2.2.2.2 hk
  have hB := callN hC.1 C1 hl hR
  have hMt := hC.2 (.ref a :: as) S E hP
  rw [hw.2.2] at hB
  obtain ⟨hx, hb, hml, hown, hts, hG, hbase⟩ := C0
  exact run_go (va_runIN (As := as) (rest := st) (b := a) ⟨hx, hb, hml, hown, hts⟩ hMt ⟨hB, hw.2.1, hts _ hw.1⟩ ⟨blind, fun U hU hW => ⟨rfl, gOK_on hG hbase h1 h2 hU hW⟩⟩ rfl hn h3.1 rfl (by show 2 * 0 + _ ≤ 8; omega) hd ⟨hcs, hsl⟩) h2
    (fun v S' H1 locs1 hE hR1 hS1 => kk v S' hE H1 locs1 ls hR1 hS1 h3)
/-- which answers an end may give -/
def retOK (i : Instr) (ret : Option FieldType) (v : Option Value) : Prop := match i, v with
  | .ireturn, some (.int x) => ∃ ty, ret = some ty ∧ narrow ty (.int x) = .int x
  | .lreturn, some (.long _) => ret = some .long
  | .freturn, some (.float _) => ret = some .float
  | .areturn, some (.ref _) => ∃ C, ret = some (.object C)
  | .areturn, some .null => ∃ C, ret = some (.object C)
  | .return_, none => ret = none
  | _, _ => False
theorem ret_ok {ret : Option FieldType} {E : Option Value → SS → Prop} {mc ms : Nat} (C0 : CX G cc nL own p s m args c) (hr : meth.sig.returnType = ret) (hlocks : meth.locks = false) {i : Instr} {v : Option Value} (hv : retOK i ret v) (hE : E v S) (h1' : cs ≤ mc) (h2' : sl ≤ ms) (hd : decode cc pc = .ok (i, 1)) :
    VW G nL p l e R s m args below meth c (MQ below (QE G E) args s mc ms (gA G)) pc L v.toList S cs sl := by
  obtain ⟨hx, hb, hml, hown, hts, hG, hbase⟩ := C0
  intro H locs ls h1 h2 h3
  refine W.widen h1' h2' ?_
  have key : ∀ t : State, t.heap = H → s.WarmedH t.vm → QE G E args s (.returned v) t := fun t ht hW => ⟨⟨v, S, rfl, hE, by rw [ht]; exact h1⟩, h2.F ht⟩
  unfold retOK at hv
  split at hv
  · obtain ⟨ty, rfl, hn⟩ := hv
    exact W.zret hx hb hr hn key h2.2.2 hd
  · subst hv
    exact W.lret hx hb hr key h2.2.2 hd
  · subst hv
    exact W.fret hx hb hr key h2.2.2 hd
  · obtain ⟨C, rfl⟩ := hv
    exact W.aret hx hb hr (Or.inl ⟨_, rfl⟩) (Or.inr ⟨_, rfl⟩) key h2.2.2 hd
  · obtain ⟨C, rfl⟩ := hv
    exact W.aret hx hb hr (Or.inl ⟨_, rfl⟩) (Or.inl rfl) key h2.2.2 hd
  · subst hv
    exact W.vret hx hb hr key h2.2.2 hd
  · exact hv.elim
end CA
/-- the locals at the entry -/
def entL : List Value → List (Option Value)
  | [] => []
  | v :: vs => match v with
    | .long _ | .double _ => some v :: none :: entL vs
    | _ => some v :: entL vs
theorem entL_len : ∀ vs : List Value, (entL vs).length = (lg_sl vs).length
  | [] => rfl
  | v :: vs => by
    have ih := entL_len vs
    cases v <;> simp_all [entL, lg_sl, Value.category]
theorem entL_at : ∀ (vs : List Value) (t : List Slot) (u : List (Option Value)) (i : Nat) (v : Value), (∀ w, some w ∉ u) → (entL vs ++ u)[i]? = some (some v) → (lg_sl vs ++ t)[i]? = some (.val v)
  | [], t, u, i, v, hu, h => by
    simp only [entL, List.nil_append] at h
    exact absurd (List.mem_of_getElem? h) (hu v)
  | w :: vs, t, u, i, v, hu, h => by
    have ih := entL_at vs t u
    have one : (some w :: (entL vs ++ u))[i]? = some (some v) → (Slot.val w :: (lg_sl vs ++ t))[i]? = some (.val v) := by
      intro h
      cases i with
      | zero => simp at h ⊢; exact h
      | succ i => simp only [List.getElem?_cons_succ] at h ⊢; exact ih i v hu h
    have two : (some w :: none :: (entL vs ++ u))[i]? = some (some v) → (Slot.val w :: Slot.second :: (lg_sl vs ++ t))[i]? = some (.val v) := by
      intro h
      match i, h with
      | 0, h => simp at h ⊢; exact h
      | 1, h => simp at h
      | i + 2, h => simp only [List.getElem?_cons_succ] at h ⊢; exact ih i v hu h
    cases w <;> first | exact two h | exact one h
def entLn (vs : List Value) (n : Nat) : List (Option Value) := entL vs ++ List.replicate (n - (entL vs).length) none
theorem ent_h (vs : List Value) {n : Nat} (h : (entL vs).length ≤ n) : lvh ((lg_sl vs ++ List.replicate (n - (lg_sl vs).length) Slot.unset).toArray) n (entLn vs n) := by
  rw [entL_len] at h
  obtain ⟨h1, h2, -⟩ := lv_entry vs h
  refine ⟨h1, h2, by unfold entLn; simp [entL_len]; omega, fun i v hv => ?_⟩
  rw [List.getElem?_toArray]
  exact entL_at vs _ _ i v (fun w hw => by have := List.eq_of_mem_replicate hw; cases this) hv
/-- Met.ofW for a method of a class of which some are run otherwise -/
theorem Met.ofWF {l : Launch} {y : MethodName} {ws ws' : List Cond} {rm : Room} {Pc : Array Value → State → Prop} {Qc : Array Value → State → Outcome → State → Prop} {mc ms : Nat} {free : Addr → Prop} {cc : ByteArray} {maxL : Nat} {ret : Option FieldType}
    (hy : plainFor y = true) (hw : ws = Cond.code y cc maxL ret :: ws')
    (body : ∀ p e s m args below meth c s₁, BodyLoose p l y (headSpec ws rm) cc maxL ret e s m args below meth c s₁ → c.maxLocals = maxL → Pc args s →
      W p l e (headSpec ws rm).room s m args below meth c s.heap [] 0 0 (MQ below Qc args s mc ms free) (entryFrame m args maxL)) : Met l y ws rm Pc Qc mc ms free := by
  refine MetFree.of_bodySF (code := cc) (maxLocals := maxL) (ret := ret) hy ?_ ?_
  · intro args s m h hn
    obtain ⟨meth, c, h1, h2, h3, h4, h5, h6, -, -⟩ := Cond.code_spec hn (atoms_spec (ws := ws) h _ (by rw [hw]; exact List.mem_cons_self))
    exact ⟨meth, c, h1, h2, h3, h4, h5, h6⟩
  · intro p e s m args below meth c s₁ B hml hP _
    have hh0 : s₁.heap = s.heap := by rw [B.state]; rfl
    obtain ⟨t, a1, o, b1, b2, b3⟩ := body p e s m args below meth c s₁ B hml hP s₁ hh0 (Stand.of_body B)
    exact ⟨t, o, a1, b1, b2, ⟨b3.1, b3.2⟩⟩
/-- a contract out of a walk of the body -/
theorem Ct.of {l : Launch} {G : Gx} {M : MI} {P : List Value → SS → (Option Value → SS → Prop) → Prop} (hM : okM M = true)
    (body : ∀ (as : List Value) (S : SS) (E : Option Value → SS → Prop), P as S E → (entL as).length ≤ mL M ∧ ∀ (p : Program) (e : Env) (s : State) (m : MethodId) (args : Array Value) (below : List Frame) (meth : Method) (c : Code), CX G (mC M) (mL M) (mY M).cls p s m args c → meth.name = (mY M).name → meth.sig.returnType = mT M → meth.locks = false →
      VW G (mL M) p l e (mR M) s m args below meth c (MQ below (QE G E) args s (mR M).cells (mR M).slots (gA G)) 0 (entLn as (mL M)) [] S 0 0) : Ct l G M P := by
  refine ⟨hM, fun as S E hP => ?_⟩
  obtain ⟨hlen, hb⟩ := body as S E hP
  refine Met.ofWF (cc := mC M) (maxL := mL M) (ret := mT M) (okM_use hM).1 rfl ?_
  intro p e s m args below meth c s₁ B hml hv
  obtain ⟨rfl, hR, hG, hbs⟩ := hv
  have hts := atoms_spec (ws := wsM M) B.pre
  have C0 : CX G (mC M) (mL M) (mY M).cls p s m as.toArray c := ⟨B.exec, B.bytes, hml, findClass_of_methodNamed B.named, fun w hw => hts w (List.mem_cons_of_mem _ hw), hG, hbs⟩
  have hk := hb p e s m as.toArray below meth c C0 (name_of_methodNamed B.named B.method).1 B.returns B.notSynchronized
  rw [lg_entry_eq]
  exact hk s.heap [] _ hR va_S.rf (ent_h as hlen)
