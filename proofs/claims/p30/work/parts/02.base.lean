/-! THE PLAIN MACHINE: states as functions of addresses, and what holds between one and the heap -/
/-- the tables' words that keep -/
def lw_all : List Cond := lw_tbl.filter goodWord
theorem all_good {w : Cond} (h : w ∈ lw_all) : (w.onTables && w.keeps) = true ∨ ∃ ty, w = .arrayClass ty := good_of_word (List.mem_filter.mp h).2
theorem all_tbl {w : Cond} (h : w ∈ lw_all) : w ∈ lw_tbl := (List.mem_filter.mp h).1
/-- the word at a place of the tables -/
def wAt (k : Nat) (w : Cond) : Bool := decide (lw_tbl[k]? = some w) && goodWord w
theorem wAt_in {k : Nat} {w : Cond} (h : wAt k w = true) : w ∈ lw_all := by
  unfold wAt at h
  rw [Bool.and_eq_true, decide_eq_true_eq] at h
  exact List.mem_filter.mpr ⟨List.mem_of_getElem? h.1, h.2⟩
/-- kinds of cells (with their lengths), references, the next address, whole numbers, floats -/
abbrev SS : Type := (Nat → Option (Nat × Nat)) × (Nat → Nat → Option Nat) × Nat × (Nat → Nat → Int32) × (Nat → Nat → UInt32)
def sK (S : SS) : Nat → Option (Nat × Nat) := S.1
def sR (S : SS) : Nat → Nat → Option Nat := S.2.1
def sZ (S : SS) : Nat := S.2.2.1
def sI (S : SS) : Nat → Nat → Int32 := S.2.2.2.1
def sF (S : SS) : Nat → Nat → UInt32 := S.2.2.2.2
def up2 {α : Type} (f : Nat → Nat → α) (a k : Nat) (v : α) : Nat → Nat → α := fun b j => if b = a ∧ j = k then v else f b j
def upA {α : Type} (f : Nat → α) (a : Nat) (v : α) : Nat → α := fun b => if b = a then v else f b
def stI (S : SS) (a k : Nat) (v : Int32) : SS := (S.1, S.2.1, S.2.2.1, up2 S.2.2.2.1 a k v, S.2.2.2.2)
def stF (S : SS) (a k : Nat) (v : UInt32) : SS := (S.1, S.2.1, S.2.2.1, S.2.2.2.1, up2 S.2.2.2.2 a k v)
def stR (S : SS) (a k : Nat) (v : Option Nat) : SS := (S.1, up2 S.2.1 a k v, S.2.2.1, S.2.2.2.1, S.2.2.2.2)
/-- a whole row laid anew -/
def stIA (S : SS) (a : Nat) (f : Nat → Int32) : SS := (S.1, S.2.1, S.2.2.1, upA S.2.2.2.1 a f, S.2.2.2.2)
def stFA (S : SS) (a : Nat) (f : Nat → UInt32) : SS := (S.1, S.2.1, S.2.2.1, S.2.2.2.1, upA S.2.2.2.2 a f)
/-- a new cell -/
def stN (S : SS) (kd n : Nat) : SS := (upA S.1 S.2.2.1 (some (kd, n)), upA S.2.1 S.2.2.1 (fun _ => none), S.2.2.1 + 1, upA S.2.2.2.1 S.2.2.1 (fun _ => 0), upA S.2.2.2.2 S.2.2.1 (fun _ => FP.fconst0))
/-- the class ids and slots of the objects; those of the rows by their kinds; the given rows (address, length, numbers); from where on all is ours -/
abbrev Gx : Type := va_G × (Nat → ClassId) × (Nat → Nat × Nat × (Nat → Int32)) × Nat
def gA (G : Gx) : Nat → Prop := fun q => G.2.2.2 ≤ q
/-- the types of the fields of an object of a kind -/
def fty (ci : Nat) : Nat → FieldType := match ci with
  | 0 => tyX0 | 1 => tyX1 | 2 => tyX2 | 3 => tyX3 | 4 => tyX4 | 5 => tyX5 | 6 => tyX6 | _ => tyX7
def isRefTy : FieldType → Bool
  | .object _ | .array _ => true
  | _ => false
def nf (ci : Nat) : Nat := match ci with
  | 0 => 9 | 1 => 4 | 2 => 3 | 3 => 12 | 4 => 2 | 5 => 2 | 6 => 6 | _ => 0
/-- the types of the rows -/
def aty (kd : Nat) : FieldType := match kd with
  | 8 => .int | 9 => .float | 10 => .boolean | 11 => .char | 12 => .object "PlateWriters$Desk" | _ => .object "PlateWriters$Glass"
def fV (S : SS) (a ci k : Nat) : Value := match isRefTy (fty ci k) with
  | true => va_rf (sR S a k)
  | false => .int (sI S a k)
def arC (S : SS) (a kd : Nat) : (Nat → Int32) ⊕ (Nat → Int64) ⊕ (Nat → UInt32) ⊕ (Nat → UInt64) ⊕ (Nat → Option Nat) :=
  if kd = 9 then .inr (.inr (.inl (sF S a))) else if kd = 12 ∨ kd = 13 then .inr (.inr (.inr (.inr (sR S a)))) else .inl (sI S a)
def cel (G : Gx) (S : SS) (a kd n : Nat) : va_E := if kd < 8 then .inr (kd, (List.range (nf kd)).map (fV S a kd)) else .inl (G.2.1 kd, n, arC S a kd)
def gTys (G : Gx) : List (ClassId × FieldType) := [(G.2.1 8, aty 8), (G.2.1 9, aty 9), (G.2.1 10, aty 10), (G.2.1 11, aty 11), (G.2.1 12, aty 12), (G.2.1 13, aty 13)]
/-- the words of private members of a nest mate -/
def nestW : List Cond := lw_tbl.filter (fun w => match w with | .methodLinkNest _ _ _ _ => true | .fieldLinkNest _ _ _ _ _ _ => true | _ => false)
/-- what the machine's tables and the given rows say -/
def gOK (G : Gx) (U : State) (H : Heap) : Prop := va_K G.1 vwCl (gTys G) U ∧ (∀ w ∈ nestW, va_Nw w U) ∧ (va_AO "PlateWriters$Desk" U ∧ va_AO "PlateWriters$Glass" U) ∧
  (va_Z "PlateWriters" "LEAST_OF_SETTING" "[I" (.ref (G.2.2.1 0).1) (gA G) U H ∧ va_Z "PlateWriters" "MOST_OF_SETTING" "[I" (.ref (G.2.2.1 1).1) (gA G) U H) ∧
  ∀ i, i < 3 → va_T .int (G.2.2.1 i).1 (G.2.2.1 i).2.1 (fun j => .int ((G.2.2.1 i).2.2 j)) (gA G) U H
def Rep (G : Gx) (S : SS) (H : Heap) : Prop := H.size = sZ S ∧ ∀ a kd n, sK S a = some (kd, n) →
  (kd < 14 → G.2.2.2 ≤ a ∧ va_at G.1 vwCl (a, cel G S a kd n) H) ∧
  (14 ≤ kd → kd < 17 ∧ a = (G.2.2.1 (kd - 14)).1 ∧ n = (G.2.2.1 (kd - 14)).2.1 ∧ ∀ j, j < n → sI S a j = (G.2.2.1 (kd - 14)).2.2 j)
theorem nest_in {k : Nat} {a : String} {i : Nat} {y : MethodName} {h : String} (hk : lw_tbl[k]? = some (.methodLinkNest a i y h)) : Cond.methodLinkNest a i y h ∈ nestW := List.mem_filter.mpr ⟨List.mem_of_getElem? hk, rfl⟩
theorem nest_inF {k : Nat} {a : String} {i : Nat} {b n d h : String} (hk : lw_tbl[k]? = some (.fieldLinkNest a i b n d h)) : Cond.fieldLinkNest a i b n d h ∈ nestW := List.mem_filter.mpr ⟨List.mem_of_getElem? hk, rfl⟩
theorem nest_form {w : Cond} (h : w ∈ nestW) : (∃ a i y q, w = .methodLinkNest a i y q) ∨ ∃ a i b n d q, w = .fieldLinkNest a i b n d q := by
  have h2 := (List.mem_filter.mp h).2
  cases w <;> first | exact Or.inl ⟨_, _, _, _, rfl⟩ | exact Or.inr ⟨_, _, _, _, _, _, rfl⟩ | simp at h2
theorem gOK.warm {G : Gx} {s U : State} {H : Heap} (h : gOK G s H) (hW : s.WarmedH U.vm) : gOK G U H := by
  obtain ⟨h1, h2, ⟨h3, h4⟩, ⟨h5, h6⟩, h7⟩ := h
  refine ⟨va_K.moved hW.alike h1, fun w hw => ?_, ⟨va_AO.moved hW.alike h3, va_AO.moved hW.alike h4⟩, ⟨va_Z.moved hW.alike h5, va_Z.moved hW.alike h6⟩, fun i hi => va_T.moved hW.alike (h7 i hi)⟩
  rcases nest_form hw with ⟨a, i, y, q, rfl⟩ | ⟨a, i, b, n, d, q, rfl⟩
  · exact va_Nw.warmM hW (h2 _ hw)
  · exact va_Nw.warmF hW (h2 _ hw)
theorem gOK.kept {G : Gx} {s : State} {H H1 : Heap} (h : gOK G s H) (hq : ∀ a : Nat, a < H.size → ¬ gA G a → H1[a]? = H[a]?) : gOK G s H1 := by
  obtain ⟨h1, h2, h34, ⟨h5, h6⟩, h7⟩ := h
  exact ⟨h1, h2, h34, ⟨h5.kept hq, h6.kept hq⟩, fun i hi => (h7 i hi).kept hq⟩
theorem gOK.calling {G : Gx} {U : State} {H : Heap} (g : JFrame) (mk : MethodId) (a : Array Value) (h : gOK G U H) : gOK G (U.calling g mk a) H := by
  obtain ⟨h1, h2, ⟨h3, h4⟩, ⟨h5, h6⟩, h7⟩ := h
  have hal : U.vm.Alike (U.calling g mk a).vm := Vm.Alike.refl U.vm
  refine ⟨va_K.moved hal h1, fun w hw => ?_, ⟨va_AO.moved hal h3, va_AO.moved hal h4⟩, ⟨va_Z.moved hal h5, va_Z.moved hal h6⟩, fun i hi => va_T.moved hal (h7 i hi)⟩
  rcases nest_form hw with ⟨a, i, y, q, rfl⟩ | ⟨a, i, b, n, d, q, rfl⟩
  · exact va_Nw.same rfl rfl (h2 _ hw)
  · exact va_Nw.same rfl rfl (h2 _ hw)
/-- one cell changed -/
theorem Rep.upd {G : Gx} {S S' : SS} {H H' : Heap} {a kd n : Nat} (h : Rep G S H) (hK : sK S' = sK S) (hZ : sZ S' = sZ S) (ha : sK S a = some (kd, n)) (hkd : kd < 14)
    (hI : ∀ b, b ≠ a → sI S' b = sI S b) (hF : ∀ b, b ≠ a → sF S' b = sF S b) (hR : ∀ b, b ≠ a → sR S' b = sR S b)
    (z : H'.size = H.size) (o : ∀ q : Nat, q ≠ a → H'[q]? = H[q]?) (he : va_at G.1 vwCl (a, cel G S' a kd n) H') : Rep G S' H' := by
  refine ⟨by rw [z, hZ]; exact h.1, fun b kb nb hb => ?_⟩
  rw [hK] at hb
  by_cases hba : b = a
  · subst hba
    rw [ha] at hb
    cases hb
    exact ⟨fun _ => ⟨((h.2 _ _ _ ha).1 hkd).1, he⟩, fun q => absurd q (by omega)⟩
  · refine ⟨fun q => ⟨((h.2 _ _ _ hb).1 q).1, ?_⟩, fun q => ?_⟩
    · have h1 := ((h.2 _ _ _ hb).1 q).2
      have e : cel G S' b kb nb = cel G S b kb nb := by
        unfold cel arC
        split
        · have : fV S' b kb = fV S b kb := by funext k; unfold fV; rw [hI b hba, hR b hba]
          rw [this]
        · rw [hI b hba, hF b hba, hR b hba]
      rw [e]
      exact h1.kept (o b hba)
    · obtain ⟨q1, q2, q3, q4⟩ := (h.2 _ _ _ hb).2 q
      exact ⟨q1, q2, q3, fun j hj => by rw [hI b hba]; exact q4 j hj⟩
/-- a new cell at the end -/
theorem Rep.push {G : Gx} {S : SS} {H H' : Heap} {kd n : Nat} (h : Rep G S H) (hkd : kd < 14) (hb : G.2.2.2 ≤ H.size) (z : H'.size = H.size + 1) (o : ∀ q : Nat, q < H.size → H'[q]? = H[q]?) (hlt : ∀ i, i < 3 → (G.2.2.1 i).1 < H.size)
    (he : va_at G.1 vwCl (H.size, cel G (stN S kd n) H.size kd n) H') : Rep G (stN S kd n) H' := by
  have hz := h.1
  refine ⟨by rw [z, hz]; rfl, fun b kb nb hbk => ?_⟩
  by_cases hba : b = H.size
  · subst hba
    have e : sK (stN S kd n) H.size = some (kd, n) := by show upA S.1 S.2.2.1 _ _ = _; unfold upA; rw [if_pos (by exact hz)]
    rw [e] at hbk
    cases hbk
    exact ⟨fun _ => ⟨hb, he⟩, fun q => absurd q (by omega)⟩
  · have hbz : ¬ b = S.2.2.1 := by intro q; exact hba (q.trans hz.symm)
    have e : sK (stN S kd n) b = sK S b := by show upA S.1 S.2.2.1 _ _ = _; unfold upA; rw [if_neg hbz]; rfl
    rw [e] at hbk
    have eI : sI (stN S kd n) b = sI S b := by show upA S.2.2.2.1 S.2.2.1 _ _ = _; unfold upA; rw [if_neg hbz]; rfl
    have eF : sF (stN S kd n) b = sF S b := by show upA S.2.2.2.2 S.2.2.1 _ _ = _; unfold upA; rw [if_neg hbz]; rfl
    have eR : sR (stN S kd n) b = sR S b := by show upA S.2.1 S.2.2.1 _ _ = _; unfold upA; rw [if_neg hbz]; rfl
    refine ⟨fun q => ⟨((h.2 _ _ _ hbk).1 q).1, ?_⟩, fun q => ?_⟩
    · have h1 := ((h.2 _ _ _ hbk).1 q).2
      have e2 : cel G (stN S kd n) b kb nb = cel G S b kb nb := by
        unfold cel arC
        split
        · have : fV (stN S kd n) b kb = fV S b kb := by funext k; unfold fV; rw [eI, eR]
          rw [this]
        · rw [eI, eF, eR]
      rw [e2]
      exact h1.kept (o b h1.lt)
    · obtain ⟨q1, q2, q3, q4⟩ := (h.2 _ _ _ hbk).2 q
      exact ⟨q1, q2, q3, fun j hj => by rw [eI]; exact q4 j hj⟩
/-- the locals, by their places -/
def lvh (ls : Array Slot) (nL : Nat) (L : List (Option Value)) : Prop := ls.size = nL ∧ lv_wf ls ∧ L.length = nL ∧ ∀ (i : Nat) (v : Value), L[i]? = some (some v) → ls[i]? = some (.val v)
def lvl (L : List (Option Value)) : List (Nat × Value) := (List.range L.length).filterMap (fun i => match L[i]? with | some (some v) => some (i, v) | _ => none)
theorem lvl_mem {L : List (Option Value)} {i : Nat} {v : Value} (h : L[i]? = some (some v)) : (i, v) ∈ lvl L :=
  List.mem_filterMap.mpr ⟨i, List.mem_range.mpr (List.getElem?_eq_some_iff.mp h).1, by rw [h]⟩
theorem mem_lvl {L : List (Option Value)} {q : Nat × Value} (h : q ∈ lvl L) : L[q.1]? = some (some q.2) := by
  obtain ⟨i, -, hi⟩ := List.mem_filterMap.mp h
  split at hi
  · rename_i v hv
    cases hi
    exact hv
  · cases hi
theorem lvh.has {ls : Array Slot} {nL : Nat} {L : List (Option Value)} (h : lvh ls nL L) : lv_has ls nL (lvl L) := ⟨h.1, h.2.1, fun q hq => h.2.2.2 _ _ (mem_lvl hq)⟩
/-- what stands ahead of place i is lost where its second half is written over -/
def wipeL (L : List (Option Value)) (i : Nat) : List (Option Value) := match i with
  | 0 => L
  | j + 1 => match L[j]? with
    | some (some (.long _)) | some (some (.double _)) => L.set j none
    | _ => L
def stL (L : List (Option Value)) (i : Nat) (v : Value) : List (Option Value) := match v with
  | .long _ | .double _ => ((wipeL L i).set i (some v)).set (i + 1) none
  | _ => (wipeL L i).set i (some v)
theorem wipeL_len (L : List (Option Value)) (i : Nat) : (wipeL L i).length = L.length := by
  unfold wipeL
  split
  · rfl
  · split <;> simp
theorem wipeL_get {L : List (Option Value)} {i j : Nat} {w : Value} (h : (wipeL L i)[j]? = some (some w)) : L[j]? = some (some w) ∧ ¬ (j + 1 = i ∧ w.category = 2) := by
  unfold wipeL at h
  split at h
  · exact ⟨h, by omega⟩
  · rename_i k
    split at h
    · rename_i x hx
      by_cases hjk : j = k
      · subst hjk
        rw [List.getElem?_set] at h
        split at h
        · split at h <;> simp at h
        · simp at *
      · rw [List.getElem?_set_ne (Ne.symm hjk)] at h
        exact ⟨h, fun q => hjk (by omega)⟩
    · rename_i x hx
      by_cases hjk : j = k
      · subst hjk
        rw [List.getElem?_set] at h
        split at h
        · split at h <;> simp at h
        · simp at *
      · rw [List.getElem?_set_ne (Ne.symm hjk)] at h
        exact ⟨h, fun q => hjk (by omega)⟩
    · rename_i hx1 hx2
      refine ⟨h, fun q => ?_⟩
      have : j = k := by omega
      subst this
      cases w with
      | long x => exact hx1 x h
      | double x => exact hx2 x h
      | _ => exact absurd q.2 (by simp [Value.category])
theorem lvh.store1 {ls : Array Slot} {nL i : Nat} {L : List (Option Value)} {v : Value} (h : lvh ls nL L) (hi : i < nL) (hc : v.category = 1) : ∃ ls', storeLocals ls i v = some ls' ∧ lvh ls' nL (stL L i v) := by
  obtain ⟨ls', e, h1, h2, h3⟩ := lv_store1 (v := v) h.has hi hc
  have es : stL L i v = (wipeL L i).set i (some v) := by unfold stL; split <;> first | rfl | (simp [Value.category] at hc)
  refine ⟨ls', e, h1, h2, by rw [es, List.length_set, wipeL_len]; exact h.2.2.1, fun j w hj => ?_⟩
  rw [es] at hj
  by_cases hji : j = i
  · subst hji
    rw [List.getElem?_set_self (by rw [wipeL_len, h.2.2.1]; exact hi)] at hj
    cases hj
    exact h3 _ List.mem_cons_self
  · rw [List.getElem?_set_ne (Ne.symm hji)] at hj
    obtain ⟨g1, g2⟩ := wipeL_get hj
    refine h3 (j, w) (List.mem_cons_of_mem _ (List.mem_filter.mpr ⟨lvl_mem g1, ?_⟩))
    simp only [Bool.and_eq_true, Bool.not_eq_true', beq_eq_false_iff_ne, ne_eq, Bool.and_eq_false_iff]
    refine ⟨hji, ?_⟩
    by_cases z : j + 1 = i
    · exact Or.inr (fun z2 => g2 ⟨z, z2⟩)
    · exact Or.inl z
theorem lvh.store2 {ls : Array Slot} {nL i : Nat} {L : List (Option Value)} {v : Value} (h : lvh ls nL L) (hi : i + 1 < nL) (hc : v.category = 2) : ∃ ls', storeLocals ls i v = some ls' ∧ lvh ls' nL (stL L i v) := by
  obtain ⟨ls', e, h1, h2, h3⟩ := lv_store2 (v := v) h.has hi hc
  have es : stL L i v = ((wipeL L i).set i (some v)).set (i + 1) none := by unfold stL; split <;> first | rfl | (rename_i q1 q2; cases v <;> simp_all [Value.category])
  refine ⟨ls', e, h1, h2, by rw [es, List.length_set, List.length_set, wipeL_len]; exact h.2.2.1, fun j w hj => ?_⟩
  rw [es] at hj
  by_cases hj1 : j = i + 1
  · subst hj1
    rw [List.getElem?_set_self (by rw [List.length_set, wipeL_len, h.2.2.1]; exact hi)] at hj
    simp at hj
  · rw [List.getElem?_set_ne (Ne.symm hj1)] at hj
    by_cases hji : j = i
    · subst hji
      rw [List.getElem?_set_self (by rw [wipeL_len, h.2.2.1]; omega)] at hj
      cases hj
      exact h3 _ List.mem_cons_self
    · rw [List.getElem?_set_ne (Ne.symm hji)] at hj
      obtain ⟨g1, g2⟩ := wipeL_get hj
      refine h3 (j, w) (List.mem_cons_of_mem _ (List.mem_filter.mpr ⟨lvl_mem g1, ?_⟩))
      simp only [Bool.and_eq_true, Bool.not_eq_true', beq_eq_false_iff_ne, ne_eq, Bool.and_eq_false_iff]
      refine ⟨hji, hj1, ?_⟩
      by_cases z : j + 1 = i
      · exact Or.inr (fun z2 => g2 ⟨z, z2⟩)
      · exact Or.inl z
