/-! rows over the plain machine: whole rows copied, natives, new cells, calls, ends -/
section NW
variable {G : Gx} {nL : Nat} {p : Program} {l : Launch} {e : Env} {R : Room} {s : State} {m : MethodId} {args : Array Value} {below : List Frame} {meth : Method} {c : Code} {Q : State → Prop} {cc : ByteArray} {pc : Nat} {L : List (Option Value)} {S : SS} {cs sl : Nat} {own : String}
theorem natW : nativeFrameWords "java/lang/System" "arraycopy" 5 + 11 ≤ 24 := by decide +kernel
theorem copyI_ok (C0 : CX G cc nL own p s m args c) {idx a0 a n0 n1 : Nat} {sp dp n : Int32} {st : List Value} (hl : Cond.methodLink own idx arraycopyName ∈ lw_all) (hn : Cond.native arraycopyName ∈ lw_all) (hs : Cond.static arraycopyName ∈ lw_all) (hi : Cond.initialized "java/lang/System" ∈ lw_all)
    (ha0 : sK S a0 = some (8, n0)) (ha : sK S a = some (8, n1)) (h1' : ¬ sp < 0) (h2' : ¬ dp < 0) (h3' : ¬ n < 0) (h4 : sp.toNatClampNeg + n.toNatClampNeg ≤ n0) (h5 : dp.toNatClampNeg + n.toNatClampNeg ≤ n1) (hframes : 1 ≤ R.frames) (hlocals : (st.map fun v => v.category).sum + 24 ≤ R.locals) (hd : decode cc pc = .ok (.invokestatic idx, 3))
    (kk : VW G nL p l e R s m args below meth c Q (pc + 3) L st (stIA S a (va_cpy (sI S a0) (sI S a) sp.toNatClampNeg dp.toNatClampNeg n.toNatClampNeg)) cs sl) : VW G nL p l e R s m args below meth c Q pc L (.int n :: .int dp :: .ref a :: .int sp :: .ref a0 :: st) S cs sl := by
  obtain ⟨hexec, hb, hml, hown, hts, hG, hbase⟩ := C0
  intro H locs ls h1 h2 h3
  have hls : c.maxLocals = ls.size := by rw [hml, h3.1]
  have nn : ∀ z : Int32, ¬ z < 0 → z.toInt = (z.toNatClampNeg : Int) := by
    intro z hz
    have hz0 : (0 : Int) ≤ z.toInt := by
      have := Int32.not_lt.mp hz
      simpa using Int32.le_iff_toInt_le.mp this
    show z.toInt = ((z.toInt.toNat : Nat) : Int)
    omega
  obtain ⟨hA0, hc0⟩ := h1.arr (by omega) (by omega) ha0
  obtain ⟨hA, hc1⟩ := h1.arr (by omega) (by omega) ha
  intro T hT X
  have hc0 : H[a0]? = some (vp_cell (G.2.1 8) (n0, .inl (sI S a0))) := hc0
  have hc1 : H[a]? = some (vp_cell (G.2.1 8) (n1, .inl (sI S a))) := hc1
  obtain ⟨-, k0, hk0, cm0, hkk0⟩ := (gTy hG (kd := 8) (by omega) (by omega)).1 n0 (fun j => .int (sI S a0 j))
  obtain ⟨-, k1, hk1, cm1, hkk1⟩ := (gTy hG (kd := 8) (by omega) (by omega)).1 n1 (fun j => .int (sI S a j))
  obtain ⟨vm', X', step⟩ := X.arraycopy hexec hown (hts _ hl) (hts _ hn) (hts _ hs) (hts _ hi) (src := a0) (dst := a) (cs := vp_cell (G.2.1 8) (n0, .inl (sI S a0))) (cd := vp_cell (G.2.1 8) (n1, .inl (sI S a))) (srcPos := sp) (destPos := dp) (n := n) (by rw [hT]; exact hc0) (by rw [hT]; exact hc1)
    (fun _ h => by cases h) (fun _ h => by cases h) (fun h => by cases h) (fun h => by cases h) hk0 hk1 hkk0 hkk1 (by simp [aty, refKind]) h1' h2' h3'
    (by rw [nn sp h1', nn n h3']; show ¬ _ > ((arrV (G.2.1 8) n0 (fun j => .int (sI S a0 j))).slots.size : Int); rw [arrV_size]; omega)
    (by rw [nn dp h2', nn n h3']; show ¬ _ > ((arrV (G.2.1 8) n1 (fun j => .int (sI S a j))).slots.size : Int); rw [arrV_size]; omega)
    (fun vm₁ _ i hi => by
      have e : (vp_cell (G.2.1 8) (n0, .inl (sI S a0))).slots.getD (sp.toNatClampNeg + i) .null = .int (sI S a0 (sp.toNatClampNeg + i)) := by
        show (arrV (G.2.1 8) n0 (fun j => .int (sI S a0 j))).slots.getD _ _ = _
        rw [Array.getD_eq_getD_getElem?, arrV_read _ _ (by omega)]
        rfl
      refine ⟨?_, ?_⟩
      · rw [e]
        rfl
      · rw [e]
        exact trivial)
    (g := F0 m pc ls (.int n :: .int dp :: .ref a :: .int sp :: .ref a0 :: st)) rfl (by rw [hls]) (rest := st) rfl (by rw [hb]; exact hd) hframes (by show 2 * 0 + _ + _ ≤ _; have := natW; omega)
  have e1 : copied (vp_cell (G.2.1 8) (n0, .inl (sI S a0))) (vp_cell (G.2.1 8) (n1, .inl (sI S a))) sp dp n = vp_cell (G.2.1 8) (n1, .inl (va_cpy (sI S a0) (sI S a) sp.toNatClampNeg dp.toNatClampNeg n.toNatClampNeg)) := va_copied (fun z => .int z) (G.2.1 8) (G.2.1 8) (sI S a0) (sI S a) h4
  rw [e1] at X' step
  have hl : a < H.size := (Array.getElem?_eq_some_iff.mp hc1).1
  generalize hY : vp_cell (G.2.1 8) (n1, .inl (va_cpy (sI S a0) (sI S a) sp.toNatClampNeg dp.toNatClampNeg n.toNatClampNeg)) = Y at X' step
  have hheap : ((T.setVm vm').setCell a Y).heap = H.setIfInBounds a Y := by rw [← hT]; rfl
  have oq : ∀ q : Nat, q ≠ a → (H.setIfInBounds a Y)[q]? = H[q]? := fun q hq => by simp [Array.getElem?_setIfInBounds, Ne.symm hq]
  have hz : (H.setIfInBounds a Y).size = H.size := by simp
  have hs2 : ∀ L' : List Loc, (∀ q ∈ L', q.base = a) → va_S (gA G) s.heap (H.setIfInBounds a Y) (locs ++ L') := fun L' hL' => ⟨by rw [hz]; exact h2.1, fun q g1 g2 => by
      rw [oq q (fun e => g2 (by rw [e]; exact hA))]
      exact h2.2.1 q g1 g2, fun q hq => by
      rcases List.mem_append.mp hq with h | h
      · exact h2.2.2 q h
      · rw [hL' q h]
        exact hA⟩
  have same : ∀ b, b ≠ a → sI (stIA S a (va_cpy (sI S a0) (sI S a) sp.toNatClampNeg dp.toNatClampNeg n.toNatClampNeg)) b = sI S b := fun b hb => by
    show upA S.2.2.2.1 a _ b = _
    unfold upA
    rw [if_neg hb]
    rfl
  have hY2 : arC (stIA S a (va_cpy (sI S a0) (sI S a) sp.toNatClampNeg dp.toNatClampNeg n.toNatClampNeg)) a 8 = .inl (va_cpy (sI S a0) (sI S a) sp.toNatClampNeg dp.toNatClampNeg n.toNatClampNeg) := by
    show Sum.inl (upA S.2.2.2.1 a _ a) = _
    unfold upA
    rw [if_pos rfl]
  obtain ⟨t, a1, b1⟩ := kk _ _ ls (h1.upd rfl rfl ha (by omega) same (fun _ _ => rfl) (fun _ _ => rfl) hz oq (arr_cel (by omega) (by rw [hY2, hY]; simp [Array.getElem?_setIfInBounds, hl]))) (hs2 _ (fun q hq => by obtain ⟨z, -, hz⟩ := List.mem_map.mp hq; rw [← hz])) h3 _ hheap X'
  exact ⟨t, step t a1, b1⟩
theorem copyF_ok (C0 : CX G cc nL own p s m args c) {idx a0 a n0 n1 : Nat} {sp dp n : Int32} {st : List Value} (hl : Cond.methodLink own idx arraycopyName ∈ lw_all) (hn : Cond.native arraycopyName ∈ lw_all) (hs : Cond.static arraycopyName ∈ lw_all) (hi : Cond.initialized "java/lang/System" ∈ lw_all)
    (ha0 : sK S a0 = some (9, n0)) (ha : sK S a = some (9, n1)) (h1' : ¬ sp < 0) (h2' : ¬ dp < 0) (h3' : ¬ n < 0) (h4 : sp.toNatClampNeg + n.toNatClampNeg ≤ n0) (h5 : dp.toNatClampNeg + n.toNatClampNeg ≤ n1) (hframes : 1 ≤ R.frames) (hlocals : (st.map fun v => v.category).sum + 24 ≤ R.locals) (hd : decode cc pc = .ok (.invokestatic idx, 3))
    (kk : VW G nL p l e R s m args below meth c Q (pc + 3) L st (stFA S a (va_cpy (sF S a0) (sF S a) sp.toNatClampNeg dp.toNatClampNeg n.toNatClampNeg)) cs sl) : VW G nL p l e R s m args below meth c Q pc L (.int n :: .int dp :: .ref a :: .int sp :: .ref a0 :: st) S cs sl := by
  obtain ⟨hexec, hb, hml, hown, hts, hG, hbase⟩ := C0
  intro H locs ls h1 h2 h3
  have hls : c.maxLocals = ls.size := by rw [hml, h3.1]
  have nn : ∀ z : Int32, ¬ z < 0 → z.toInt = (z.toNatClampNeg : Int) := by
    intro z hz
    have hz0 : (0 : Int) ≤ z.toInt := by
      have := Int32.not_lt.mp hz
      simpa using Int32.le_iff_toInt_le.mp this
    show z.toInt = ((z.toInt.toNat : Nat) : Int)
    omega
  obtain ⟨hA0, hc0⟩ := h1.arr (by omega) (by omega) ha0
  obtain ⟨hA, hc1⟩ := h1.arr (by omega) (by omega) ha
  intro T hT X
  have hc0 : H[a0]? = some (vp_cell (G.2.1 9) (n0, .inr (.inr (.inl (sF S a0))))) := hc0
  have hc1 : H[a]? = some (vp_cell (G.2.1 9) (n1, .inr (.inr (.inl (sF S a))))) := hc1
  obtain ⟨-, k0, hk0, cm0, hkk0⟩ := (gTy hG (kd := 9) (by omega) (by omega)).1 n0 (fun j => .float (sF S a0 j))
  obtain ⟨-, k1, hk1, cm1, hkk1⟩ := (gTy hG (kd := 9) (by omega) (by omega)).1 n1 (fun j => .float (sF S a j))
  obtain ⟨vm', X', step⟩ := X.arraycopy hexec hown (hts _ hl) (hts _ hn) (hts _ hs) (hts _ hi) (src := a0) (dst := a) (cs := vp_cell (G.2.1 9) (n0, .inr (.inr (.inl (sF S a0))))) (cd := vp_cell (G.2.1 9) (n1, .inr (.inr (.inl (sF S a))))) (srcPos := sp) (destPos := dp) (n := n) (by rw [hT]; exact hc0) (by rw [hT]; exact hc1)
    (fun _ h => by cases h) (fun _ h => by cases h) (fun h => by cases h) (fun h => by cases h) hk0 hk1 hkk0 hkk1 (by simp [aty, refKind]) h1' h2' h3'
    (by rw [nn sp h1', nn n h3']; show ¬ _ > ((arrV (G.2.1 9) n0 (fun j => .float (sF S a0 j))).slots.size : Int); rw [arrV_size]; omega)
    (by rw [nn dp h2', nn n h3']; show ¬ _ > ((arrV (G.2.1 9) n1 (fun j => .float (sF S a j))).slots.size : Int); rw [arrV_size]; omega)
    (fun vm₁ _ i hi => by
      have e : (vp_cell (G.2.1 9) (n0, .inr (.inr (.inl (sF S a0))))).slots.getD (sp.toNatClampNeg + i) .null = .float (sF S a0 (sp.toNatClampNeg + i)) := by
        show (arrV (G.2.1 9) n0 (fun j => .float (sF S a0 j))).slots.getD _ _ = _
        rw [Array.getD_eq_getD_getElem?, arrV_read _ _ (by omega)]
        rfl
      refine ⟨?_, ?_⟩
      · rw [e]
        rfl
      · rw [e]
        exact trivial)
    (g := F0 m pc ls (.int n :: .int dp :: .ref a :: .int sp :: .ref a0 :: st)) rfl (by rw [hls]) (rest := st) rfl (by rw [hb]; exact hd) hframes (by show 2 * 0 + _ + _ ≤ _; have := natW; omega)
  have e1 : copied (vp_cell (G.2.1 9) (n0, .inr (.inr (.inl (sF S a0))))) (vp_cell (G.2.1 9) (n1, .inr (.inr (.inl (sF S a))))) sp dp n = vp_cell (G.2.1 9) (n1, .inr (.inr (.inl (va_cpy (sF S a0) (sF S a) sp.toNatClampNeg dp.toNatClampNeg n.toNatClampNeg)))) := va_copied (fun z => .float z) (G.2.1 9) (G.2.1 9) (sF S a0) (sF S a) h4
  rw [e1] at X' step
  have hl : a < H.size := (Array.getElem?_eq_some_iff.mp hc1).1
  generalize hY : vp_cell (G.2.1 9) (n1, .inr (.inr (.inl (va_cpy (sF S a0) (sF S a) sp.toNatClampNeg dp.toNatClampNeg n.toNatClampNeg)))) = Y at X' step
  have hheap : ((T.setVm vm').setCell a Y).heap = H.setIfInBounds a Y := by rw [← hT]; rfl
  have oq : ∀ q : Nat, q ≠ a → (H.setIfInBounds a Y)[q]? = H[q]? := fun q hq => by simp [Array.getElem?_setIfInBounds, Ne.symm hq]
  have hz : (H.setIfInBounds a Y).size = H.size := by simp
  have hs2 : ∀ L' : List Loc, (∀ q ∈ L', q.base = a) → va_S (gA G) s.heap (H.setIfInBounds a Y) (locs ++ L') := fun L' hL' => ⟨by rw [hz]; exact h2.1, fun q g1 g2 => by
      rw [oq q (fun e => g2 (by rw [e]; exact hA))]
      exact h2.2.1 q g1 g2, fun q hq => by
      rcases List.mem_append.mp hq with h | h
      · exact h2.2.2 q h
      · rw [hL' q h]
        exact hA⟩
  have same : ∀ b, b ≠ a → sF (stFA S a (va_cpy (sF S a0) (sF S a) sp.toNatClampNeg dp.toNatClampNeg n.toNatClampNeg)) b = sF S b := fun b hb => by
    show upA S.2.2.2.2 a _ b = _
    unfold upA
    rw [if_neg hb]
    rfl
  have hY2 : arC (stFA S a (va_cpy (sF S a0) (sF S a) sp.toNatClampNeg dp.toNatClampNeg n.toNatClampNeg)) a 9 = .inr (.inr (.inl (va_cpy (sF S a0) (sF S a) sp.toNatClampNeg dp.toNatClampNeg n.toNatClampNeg))) := by
    show Sum.inr (Sum.inr (Sum.inl (upA S.2.2.2.2 a _ a))) = _
    unfold upA
    rw [if_pos rfl]
  obtain ⟨t, a1, b1⟩ := kk _ _ ls (h1.upd rfl rfl ha (by omega) (fun _ _ => rfl) same (fun _ _ => rfl) hz oq (arr_cel (by omega) (by rw [hY2, hY]; simp [Array.getElem?_setIfInBounds, hl]))) (hs2 _ (fun q hq => by obtain ⟨z, -, hz⟩ := List.mem_map.mp hq; rw [← hz])) h3 _ hheap X'
  exact ⟨t, step t a1, b1⟩
theorem f2i_ok (C0 : CX G cc nL own p s m args c) {idx : Nat} {b : UInt32} {st : List Value} (hl : Cond.methodLink own idx ⟨"java/lang/Float", "floatToRawIntBits", "(F)I"⟩ ∈ lw_all) (hn : Cond.native ⟨"java/lang/Float", "floatToRawIntBits", "(F)I"⟩ ∈ lw_all) (hs : Cond.static ⟨"java/lang/Float", "floatToRawIntBits", "(F)I"⟩ ∈ lw_all) (hi : Cond.initialized "java/lang/Float" ∈ lw_all)
    (hframes : 1 ≤ R.frames) (hlocals : (st.map fun v => v.category).sum + 15 ≤ R.locals) (hd : decode cc pc = .ok (.invokestatic idx, 3))
    (kk : VW G nL p l e R s m args below meth c Q (pc + 3) L (.int b.toInt32 :: st) S cs sl) : VW G nL p l e R s m args below meth c Q pc L (.float b :: st) S cs sl := by
  obtain ⟨hexec, hb, hml, hown, hts, hG, hbase⟩ := C0
  intro H locs ls h1 h2 h3
  exact vn_f2i hexec hb (by rw [hml, h3.1]) hown (hts _ hl) (hts _ hn) (hts _ hs) (hts _ hi) hframes hlocals hd (kk H locs ls h1 h2 h3)
theorem d2l_ok (C0 : CX G cc nL own p s m args c) {idx : Nat} {b : UInt64} {st : List Value} (hl : Cond.methodLink own idx ⟨"java/lang/Double", "doubleToRawLongBits", "(D)J"⟩ ∈ lw_all) (hn : Cond.native ⟨"java/lang/Double", "doubleToRawLongBits", "(D)J"⟩ ∈ lw_all) (hs : Cond.static ⟨"java/lang/Double", "doubleToRawLongBits", "(D)J"⟩ ∈ lw_all) (hi : Cond.initialized "java/lang/Double" ∈ lw_all)
    (hframes : 1 ≤ R.frames) (hlocals : (st.map fun v => v.category).sum + 15 ≤ R.locals) (hd : decode cc pc = .ok (.invokestatic idx, 3))
    (kk : VW G nL p l e R s m args below meth c Q (pc + 3) L (.long b.toInt64 :: st) S cs sl) : VW G nL p l e R s m args below meth c Q pc L (.double b :: st) S cs sl := by
  obtain ⟨hexec, hb, hml, hown, hts, hG, hbase⟩ := C0
  intro H locs ls h1 h2 h3
  exact vn_d2l hexec hb (by rw [hml, h3.1]) hown (hts _ hl) (hts _ hn) (hts _ hs) (hts _ hi) hframes hlocals hd (kk H locs ls h1 h2 h3)
theorem objInit_ok (C0 : CX G cc nL own p s m args c) {idx a : Nat} {st : List Value} (hl : Cond.methodLink own idx Lib.objectInit ∈ lw_all) (hn : Cond.instanceMethod Lib.objectInit ∈ lw_all) (hc : Cond.code Lib.objectInit ⟨#[0xb1]⟩ 1 none ∈ lw_all)
    (hframes : 1 ≤ R.frames) (hlocals : (st.map fun v => v.category).sum + 12 ≤ R.locals) (hd : decode cc pc = .ok (.invokespecial idx, 3))
    (kk : VW G nL p l e R s m args below meth c Q (pc + 3) L st S cs sl) : VW G nL p l e R s m args below meth c Q pc L (.ref a :: st) S cs sl := by
  obtain ⟨hexec, hb, hml, hown, hts, hG, hbase⟩ := C0
  intro H locs ls h1 h2 h3
  exact W.objInit hexec hb hown (hts _ hl) (hts _ hn) (hts _ hc) (a := a) (rest := st) rfl (by rw [hml]; exact h3.1) rfl hd hframes (by show 2 * 0 + _ + 12 ≤ _; omega) (kk H locs ls h1 h2 h3)
theorem tblLt {n : Nat} (hG : gOK G s s.heap) (hz : s.heap.size ≤ n) : ∀ i, i < 3 → (G.2.2.1 i).1 < n := fun i hi => by
  obtain ⟨cell, h1, -⟩ := hG.2.2.2.2 i hi
  have := (Array.getElem?_eq_some_iff.mp h1).1
  omega
theorem push_S {A : Nat → Prop} {H0 H H1 : Heap} {locs : List Loc} (hS : va_S A H0 H locs) (z1 : H1.size = H.size + 1) (o1 : ∀ q, q < H.size → H1[q]? = H[q]?) : va_S A H0 H1 locs :=
  ⟨Nat.le_trans hS.1 (by omega), fun x h1 h2 => (o1 x (Nat.lt_of_lt_of_le h1 hS.1)).trans (hS.2.1 x h1 h2), hS.2.2⟩
/-- the types that our fields have -/
def okT : FieldType → Bool
  | .int | .char | .object _ | .array _ => true
  | _ => false
theorem okT_all : ∀ ci, ci < 7 → ∀ k, k < nf ci → okT (fty ci k) = true := by decide +kernel
theorem RA_prim {U : State} {cA : ClassId} {ty : FieldType} (h : va_RA U cA ty) (hn : isRefTy ty = false) : U.vm.findClass ("[" ++ ty.toString) = some cA := by
  cases ty <;> first | exact h | cases hn
theorem new_ok (C0 : CX G cc nL own p s m args c) {ci idx : Nat} {st : List Value} (hc : ci < 7) (hl : Cond.classLink own idx (clR ci) ∈ lw_all) (hi : Cond.instantiable (clR ci) (nf ci) ∈ lw_all) (hn : Cond.initialized (clR ci) ∈ lw_all)
    (hcs : cs + 1 ≤ R.cells) (hsl : sl + nf ci ≤ R.slots) (hd : decode cc pc = .ok (.new idx, 3))
    (kk : VW G nL p l e R s m args below meth c Q (pc + 3) L (.ref (sZ S) :: st) (stN S ci 0) (cs + 1) (sl + nf ci)) : VW G nL p l e R s m args below meth c Q pc L st S cs sl := by
  obtain ⟨hx, hb, hml, hown, hts, hG, hbase⟩ := C0
  intro H locs ls h1 h2 h3
  have hKn := hG.1.1 ci _ (cl_at hc)
  refine W.newcK hx hb hown (hts _ hl) (hts _ hi) (hts _ hn) rfl hd hcs hsl hKn.2.1 rfl fun H1 kC hkC e1 z1 o1 => ?_
  have hz := h1.1
  rw [← hz] at kk
  refine kk H1 _ ls (h1.push (by omega) (Nat.le_trans hbase h2.1) z1 o1 (tblLt hG h2.1) (obj_cel hc ((u_born (fty ci) hts (cl_in hc) hKn hkC e1 (cl_ty hc)).to fun k hk => ?_))) (push_S h2 z1 o1) h3
  have eI : sI (stN S ci 0) H.size = fun _ => 0 := by show upA S.2.2.2.1 S.2.2.1 _ _ = _; unfold upA; rw [if_pos (show H.size = S.2.2.1 from hz)]
  have eR : sR (stN S ci 0) H.size = fun _ => none := by show upA S.2.1 S.2.2.1 _ _ = _; unfold upA; rw [if_pos (show H.size = S.2.2.1 from hz)]
  unfold fV
  rw [eI, eR]
  have hok := okT_all ci hc k hk
  cases h : fty ci k <;> rw [h] at hok <;> first | rfl | (simp [okT] at hok)
/-- the kinds of rows of numbers -/
def atyp (kd : Nat) : ArrayType := match kd with
  | 8 => .int | 9 => .float | 10 => .boolean | _ => .char
theorem newa_ok (C0 : CX G cc nL own p s m args c) {kd : Nat} {v : Int32} {N : Nat} {st : List Value} (h8 : 8 ≤ kd) (h12 : kd < 12) (hw : Cond.arrayClass (aty kd) ∈ lw_all) (hv : ¬ v < 0) (hN : v.toNatClampNeg = N) (hNb : N ≤ 65536) (hcs : cs + 1 ≤ R.cells) (hsl : sl + N ≤ R.slots) (hd : decode cc pc = .ok (.newarray (atyp kd), 2))
    (kk : VW G nL p l e R s m args below meth c Q (pc + 2) L (.ref (sZ S) :: st) (stN S kd N) (cs + 1) (sl + N)) : VW G nL p l e R s m args below meth c Q pc L (.int v :: st) S cs sl := by
  obtain ⟨hx, hb, hml, hown, hts, hG, hbase⟩ := C0
  intro H locs ls h1 h2 h3
  have hz := h1.1
  rw [← hz] at kk
  have hty : newarray.typeOf (atyp kd) = aty kd := by match kd, h8, h12 with
    | 8, _, _ | 9, _, _ | 10, _, _ | 11, _, _ => rfl
  have hby : N * componentBytes (newarray.typeOf (atyp kd)) ≤ 536870912 := by
    rw [hty]
    have hcb : componentBytes (aty kd) ≤ 8 := by match kd, h8, h12 with
      | 8, _, _ | 9, _, _ | 10, _, _ | 11, _, _ => decide +kernel
    have := Nat.mul_le_mul hNb hcb
    omega
  refine va_newaK hx hb (atype := atyp kd) (by rw [hty]; exact hts _ hw) rfl hd rfl hv hN hby hcs hsl rfl fun H1 cA e1 z1 o1 hAr hNm => ?_
  have hcA : cA = G.2.1 kd := by
    have hpr : isRefTy (aty kd) = false := by match kd, h8, h12 with
      | 8, _, _ | 9, _, _ | 10, _, _ | 11, _, _ => rfl
    have hr := RA_prim (gTy hG (kd := kd) h8 (by omega)).2 hpr
    rw [hty] at hNm
    exact Option.some.inj (hNm.symm.trans hr)
  subst hcA
  refine kk H1 _ ls (h1.push (by omega) (Nat.le_trans hbase h2.1) z1 o1 (tblLt hG h2.1) (arr_cel h8 ?_)) (push_S h2 z1 o1) h3
  rw [e1, hty]
  have eI : sI (stN S kd N) H.size = fun _ => 0 := by show upA S.2.2.2.1 S.2.2.1 _ _ = _; unfold upA; rw [if_pos (show H.size = S.2.2.1 from hz)]
  have eF : sF (stN S kd N) H.size = fun _ => FP.fconst0 := by show upA S.2.2.2.2 S.2.2.1 _ _ = _; unfold upA; rw [if_pos (show H.size = S.2.2.1 from hz)]
  match kd, h8, h12 with
  | 8, _, _ => (show _ = some (vp_cell _ (N, .inl (sI (stN S 8 N) H.size))); rw [eI]; rfl)
  | 9, _, _ => (show _ = some (vp_cell _ (N, .inr (.inr (.inl (sF (stN S 9 N) H.size))))); rw [eF]; rfl)
  | 10, _, _ => (show _ = some (vp_cell _ (N, .inl (sI (stN S 10 N) H.size))); rw [eI]; rfl)
  | 11, _, _ => (show _ = some (vp_cell _ (N, .inl (sI (stN S 11 N) H.size))); rw [eI]; rfl)
theorem anew_ok (C0 : CX G cc nL own p s m args c) {kd idx : Nat} {v : Int32} {N : Nat} {st : List Value} (hk : kd = 12 ∨ kd = 13) (hl : Cond.classLink own idx (clR (kd - 12)) ∈ lw_all) (hv : ¬ v < 0) (hN : v.toNatClampNeg = N) (hNb : N ≤ 65536) (hcs : cs + 1 ≤ R.cells) (hsl : sl + N ≤ R.slots) (hd : decode cc pc = .ok (.anewarray idx, 3))
    (kk : VW G nL p l e R s m args below meth c Q (pc + 3) L (.ref (sZ S) :: st) (stN S kd N) (cs + 1) (sl + N)) : VW G nL p l e R s m args below meth c Q pc L (.int v :: st) S cs sl := by
  obtain ⟨hx, hb, hml, hown, hts, hG, hbase⟩ := C0
  intro H locs ls h1 h2 h3
  have hz := h1.1
  rw [← hz] at kk
  subst hN
  have hover : va_AO (clR (kd - 12)) s := by
    rcases hk with rfl | rfl
    · exact hG.2.2.1.1
    · exact hG.2.2.1.2
  refine W.anew hx hb hown (hts _ hl) (va_AO.use hover) rfl hd rfl hv (by omega) hcs hsl fun cA kA comp f1 f2 f3 f4 => ?_
  generalize hH1 : H.push ({ cls := cA, slots := Array.replicate v.toNatClampNeg .null, vm := .none } : Cell) = H1
  have z1 : H1.size = H.size + 1 := by rw [← hH1, Array.size_push]
  have e1 : H1[H.size]? = some (arrV cA v.toNatClampNeg (fun _ => .null)) := by rw [← hH1, Array.getElem?_push_size, ← arrV_new]
  have o1 : ∀ q : Nat, q < H.size → H1[q]? = H[q]? := fun q hq => by rw [← hH1, Array.getElem?_push, if_neg (Nat.ne_of_lt hq)]
  have hcA : cA = G.2.1 kd := by
    have hty : aty kd = .object (clR (kd - 12)) := by rcases hk with rfl | rfl <;> rfl
    have hr := (gTy hG (kd := kd) (by omega) (by omega)).2
    rw [hty] at hr
    obtain ⟨kA', comp', k1, k2, k3, k4⟩ := hr
    exact Option.some.inj (f1.symm.trans k4)
  subst hcA
  refine kk H1 _ ls (h1.push (by omega) (Nat.le_trans hbase h2.1) z1 o1 (tblLt hG h2.1) (arr_cel (by omega) ?_)) (push_S h2 z1 o1) h3
  have eR : sR (stN S kd v.toNatClampNeg) H.size = fun _ => none := by show upA S.2.1 S.2.2.1 _ _ = _; unfold upA; rw [if_pos (show H.size = S.2.2.1 from hz)]
  rw [e1, arC_q hk, eR]
  rfl
end NW
