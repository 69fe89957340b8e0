/-! rows over the plain machine: arrays, new cells, natives -/
section AR
variable {G : Gx} {nL : Nat} {p : Program} {l : Launch} {e : Env} {R : Room} {s : State} {m : MethodId} {args : Array Value} {below : List Frame} {meth : Method} {c : Code} {Q : State → Prop} {cc : ByteArray} {pc : Nat} {L : List (Option Value)} {S : SS} {cs sl : Nat} {own : String}
theorem in_lt {i : Int32} {n : Nat} (h : vp_in i n) : i.toNatClampNeg < n := Nat.not_le.mp fun q => h (Or.inr q)
theorem iald_ok (C0 : CX G cc nL own p s m args c) {a n : Nat} {i : Int32} {st : List Value} (ha : sK S a = some (8, n)) (hin : vp_in i n) (hd : decode cc pc = .ok (.iaload, 1))
    (kk : VW G nL p l e R s m args below meth c Q (pc + 1) L (.int (sI S a i.toNatClampNeg) :: st) S cs sl) : VW G nL p l e R s m args below meth c Q pc L (.int i :: .ref a :: st) S cs sl := by
  obtain ⟨hx, hb, hml, hown, hts, hG, hbase⟩ := C0
  intro H locs ls h1 h2 h3
  have kk := kk H locs ls h1 h2 h3
  have hc := (h1.arr (by omega) (by omega) ha).2
  exact W.iald (v := .int (sI S a i.toNatClampNeg)) hx hb hc ((gTy hG (kd := 8) (by omega) (by omega)).1 n (fun j => .int (sI S a j))) (fun q => by cases q) (by show ¬ (i < 0 ∨ (arrV _ _ _).slots.size ≤ _); rw [arrV_size]; exact hin) (by show (arrV _ _ _).slots[_]? = _; rw [arrV_read _ _ (in_lt hin)]) rfl rfl hd kk
theorem tald_ok (C0 : CX G cc nL own p s m args c) {a n kd : Nat} {i : Int32} {st : List Value} (ha : sK S a = some (kd, n)) (hk : 14 ≤ kd) (hin : vp_in i n) (hd : decode cc pc = .ok (.iaload, 1))
    (kk : VW G nL p l e R s m args below meth c Q (pc + 1) L (.int (sI S a i.toNatClampNeg) :: st) S cs sl) : VW G nL p l e R s m args below meth c Q pc L (.int i :: .ref a :: st) S cs sl := by
  obtain ⟨hx, hb, hml, hown, hts, hG, hbase⟩ := C0
  intro H locs ls h1 h2 h3
  have kk := kk H locs ls h1 h2 h3
  obtain ⟨q1, q2, q3, q4⟩ := (h1.2 _ _ _ ha).2 hk
  have hT := hG.2.2.2.2 (kd - 14) (by omega)
  subst q2
  subst q3
  exact va_ti hx hb hT h2 hin (by rw [q4 _ (in_lt hin)]) hd kk
theorem fald_ok (C0 : CX G cc nL own p s m args c) {a n : Nat} {i : Int32} {st : List Value} (ha : sK S a = some (9, n)) (hin : vp_in i n) (hd : decode cc pc = .ok (.faload, 1))
    (kk : VW G nL p l e R s m args below meth c Q (pc + 1) L (.float (sF S a i.toNatClampNeg) :: st) S cs sl) : VW G nL p l e R s m args below meth c Q pc L (.int i :: .ref a :: st) S cs sl := by
  obtain ⟨hx, hb, hml, hown, hts, hG, hbase⟩ := C0
  intro H locs ls h1 h2 h3
  have kk := kk H locs ls h1 h2 h3
  have hc := (h1.arr (by omega) (by omega) ha).2
  exact W.fald (v := .float (sF S a i.toNatClampNeg)) hx hb hc ((gTy hG (kd := 9) (by omega) (by omega)).1 n (fun j => .float (sF S a j))) (fun q => by cases q) (by show ¬ (i < 0 ∨ (arrV _ _ _).slots.size ≤ _); rw [arrV_size]; exact hin) (by show (arrV _ _ _).slots[_]? = _; rw [arrV_read _ _ (in_lt hin)]) rfl rfl hd kk
theorem zald_ok (C0 : CX G cc nL own p s m args c) {a n : Nat} {i : Int32} {st : List Value} (ha : sK S a = some (10, n)) (hin : vp_in i n) (hd : decode cc pc = .ok (.baload, 1))
    (kk : VW G nL p l e R s m args below meth c Q (pc + 1) L (.int (sI S a i.toNatClampNeg) :: st) S cs sl) : VW G nL p l e R s m args below meth c Q pc L (.int i :: .ref a :: st) S cs sl := by
  obtain ⟨hx, hb, hml, hown, hts, hG, hbase⟩ := C0
  intro H locs ls h1 h2 h3
  have kk := kk H locs ls h1 h2 h3
  have hc := (h1.arr (by omega) (by omega) ha).2
  exact W.zald (v := .int (sI S a i.toNatClampNeg)) hx hb hc ((gTy hG (kd := 10) (by omega) (by omega)).1 n (fun j => .int (sI S a j))) (fun q => by cases q) (by show ¬ (i < 0 ∨ (arrV _ _ _).slots.size ≤ _); rw [arrV_size]; exact hin) (by show (arrV _ _ _).slots[_]? = _; rw [arrV_read _ _ (in_lt hin)]) rfl rfl hd kk
theorem cald_ok (C0 : CX G cc nL own p s m args c) {a n : Nat} {i : Int32} {st : List Value} (ha : sK S a = some (11, n)) (hin : vp_in i n) (hd : decode cc pc = .ok (.caload, 1))
    (kk : VW G nL p l e R s m args below meth c Q (pc + 1) L (.int (sI S a i.toNatClampNeg) :: st) S cs sl) : VW G nL p l e R s m args below meth c Q pc L (.int i :: .ref a :: st) S cs sl := by
  obtain ⟨hx, hb, hml, hown, hts, hG, hbase⟩ := C0
  intro H locs ls h1 h2 h3
  have kk := kk H locs ls h1 h2 h3
  have hc := (h1.arr (by omega) (by omega) ha).2
  exact W.cald (v := .int (sI S a i.toNatClampNeg)) hx hb hc ((gTy hG (kd := 11) (by omega) (by omega)).1 n (fun j => .int (sI S a j))) (fun q => by cases q) (by show ¬ (i < 0 ∨ (arrV _ _ _).slots.size ≤ _); rw [arrV_size]; exact hin) (by show (arrV _ _ _).slots[_]? = _; rw [arrV_read _ _ (in_lt hin)]) rfl rfl hd kk
theorem arC_q {S : SS} {a kd : Nat} (h : kd = 12 ∨ kd = 13) : arC S a kd = .inr (.inr (.inr (.inr (sR S a)))) := by
  rcases h with rfl | rfl <;> rfl
theorem aald_ok (C0 : CX G cc nL own p s m args c) {a n kd r : Nat} {i : Int32} {st : List Value} (hk : kd = 12 ∨ kd = 13) (ha : sK S a = some (kd, n)) (hin : vp_in i n) (hr : sR S a i.toNatClampNeg = some r) (hd : decode cc pc = .ok (.aaload, 1))
    (kk : VW G nL p l e R s m args below meth c Q (pc + 1) L (.ref r :: st) S cs sl) : VW G nL p l e R s m args below meth c Q pc L (.int i :: .ref a :: st) S cs sl := by
  obtain ⟨hx, hb, hml, hown, hts, hG, hbase⟩ := C0
  intro H locs ls h1 h2 h3
  have kk := kk H locs ls h1 h2 h3
  have hc := (h1.arr (by omega) (by omega) ha).2
  rw [arC_q hk] at hc
  have hty : ∃ C, aty kd = .object C := by rcases hk with rfl | rfl <;> exact ⟨_, rfl⟩
  obtain ⟨C, hC⟩ := hty
  have hT := (gTy hG (kd := kd) (by omega) (by omega)).1
  rw [hC] at hT
  exact W.aald (v := .ref r) (ty := .object C) hx hb hc (hT n (fun j => va_rf (sR S a j))) rfl (fun q => by cases q) (by show ¬ (i < 0 ∨ (arrV _ _ _).slots.size ≤ _); rw [arrV_size]; exact hin) (by show (arrV _ _ _).slots[_]? = _; rw [arrV_read _ _ (in_lt hin), hr]; rfl) rfl rfl hd kk
theorem stI_same {S : SS} {a k : Nat} {v : Int32} (b : Nat) (h : b ≠ a) : sI (stI S a k v) b = sI S b := by
  funext j
  show up2 S.2.2.2.1 a k v b j = _
  unfold up2
  rw [if_neg (fun q => h q.1)]
  rfl
theorem stF_same {S : SS} {a k : Nat} {v : UInt32} (b : Nat) (h : b ≠ a) : sF (stF S a k v) b = sF S b := by
  funext j
  show up2 S.2.2.2.2 a k v b j = _
  unfold up2
  rw [if_neg (fun q => h q.1)]
  rfl
theorem stR_same {S : SS} {a k : Nat} {v : Option Nat} (b : Nat) (h : b ≠ a) : sR (stR S a k v) b = sR S b := by
  funext j
  show up2 S.2.1 a k v b j = _
  unfold up2
  rw [if_neg (fun q => h q.1)]
  rfl
theorem stI_row (S : SS) (a k : Nat) (v : Int32) : (fun j => Value.int (sI (stI S a k v) a j)) = updV (fun j => Value.int (sI S a j)) k (.int v) := by
  funext j
  show Value.int (up2 S.2.2.2.1 a k v a j) = _
  unfold up2 updV
  by_cases h : j = k
  · rw [if_pos ⟨rfl, h⟩, if_pos h]
  · rw [if_neg (fun q => h q.2), if_neg h]
    rfl
theorem stF_row (S : SS) (a k : Nat) (v : UInt32) : (fun j => Value.float (sF (stF S a k v) a j)) = updV (fun j => Value.float (sF S a j)) k (.float v) := by
  funext j
  show Value.float (up2 S.2.2.2.2 a k v a j) = _
  unfold up2 updV
  by_cases h : j = k
  · rw [if_pos ⟨rfl, h⟩, if_pos h]
  · rw [if_neg (fun q => h q.2), if_neg h]
    rfl
theorem stR_row (S : SS) (a k r : Nat) : (fun j => va_rf (sR (stR S a k (some r)) a j)) = updV (fun j => va_rf (sR S a j)) k (.ref r) := by
  funext j
  show va_rf (up2 S.2.1 a k (some r) a j) = _
  unfold up2 updV
  by_cases h : j = k
  · rw [if_pos ⟨rfl, h⟩, if_pos h]
    rfl
  · rw [if_neg (fun q => h q.2), if_neg h]
    rfl
theorem iast_ok (C0 : CX G cc nL own p s m args c) {a n : Nat} {i v : Int32} {st : List Value} (ha : sK S a = some (8, n)) (hin : vp_in i n) (hd : decode cc pc = .ok (.iastore, 1))
    (kk : VW G nL p l e R s m args below meth c Q (pc + 1) L st (stI S a i.toNatClampNeg v) cs sl) : VW G nL p l e R s m args below meth c Q pc L (.int v :: .int i :: .ref a :: st) S cs sl := by
  obtain ⟨hx, hb, hml, hown, hts, hG, hbase⟩ := C0
  intro H locs ls h1 h2 h3
  obtain ⟨hA, hc⟩ := h1.arr (by omega) (by omega) ha
  refine W.iast hx hb hc ((gTy hG (kd := 8) (by omega) (by omega)).1 n (fun j => .int (sI S a j))) (fun q => by cases q) (by show ¬ (i < 0 ∨ (arrV _ _ _).slots.size ≤ _); rw [arrV_size]; exact hin) rfl rfl hd fun H' e1 e2 e3 => ?_
  refine kk H' _ ls (h1.upd rfl rfl ha (by omega) stI_same (fun _ _ => rfl) (fun _ _ => rfl) e2 e3 (arr_cel (by omega) ?_)) (h2.put e2 e3 hA) h3
  rw [e1]
  show some ((arrV _ _ _).setSlot _ _) = some (arrV _ _ (fun j => Value.int (sI (stI S a i.toNatClampNeg v) a j)))
  rw [arrV_store, stI_row]
theorem fast_ok (C0 : CX G cc nL own p s m args c) {a n : Nat} {i : Int32} {v : UInt32} {st : List Value} (ha : sK S a = some (9, n)) (hin : vp_in i n) (hd : decode cc pc = .ok (.fastore, 1))
    (kk : VW G nL p l e R s m args below meth c Q (pc + 1) L st (stF S a i.toNatClampNeg v) cs sl) : VW G nL p l e R s m args below meth c Q pc L (.float v :: .int i :: .ref a :: st) S cs sl := by
  obtain ⟨hx, hb, hml, hown, hts, hG, hbase⟩ := C0
  intro H locs ls h1 h2 h3
  obtain ⟨hA, hc⟩ := h1.arr (by omega) (by omega) ha
  refine W.fast hx hb hc ((gTy hG (kd := 9) (by omega) (by omega)).1 n (fun j => .float (sF S a j))) (fun q => by cases q) (by show ¬ (i < 0 ∨ (arrV _ _ _).slots.size ≤ _); rw [arrV_size]; exact hin) rfl rfl hd fun H' e1 e2 e3 => ?_
  refine kk H' _ ls (h1.upd rfl rfl ha (by omega) (fun _ _ => rfl) stF_same (fun _ _ => rfl) e2 e3 (arr_cel (by omega) ?_)) (h2.put e2 e3 hA) h3
  rw [e1]
  show some ((arrV _ _ _).setSlot _ _) = some (arrV _ _ (fun j => Value.float (sF (stF S a i.toNatClampNeg v) a j)))
  rw [arrV_store, stF_row]
theorem zast_ok (C0 : CX G cc nL own p s m args c) {a n : Nat} {i v : Int32} {st : List Value} (ha : sK S a = some (10, n)) (hin : vp_in i n) (hv : fitI .boolean v) (hd : decode cc pc = .ok (.bastore, 1))
    (kk : VW G nL p l e R s m args below meth c Q (pc + 1) L st (stI S a i.toNatClampNeg v) cs sl) : VW G nL p l e R s m args below meth c Q pc L (.int v :: .int i :: .ref a :: st) S cs sl := by
  obtain ⟨hx, hb, hml, hown, hts, hG, hbase⟩ := C0
  intro H locs ls h1 h2 h3
  obtain ⟨hA, hc⟩ := h1.arr (by omega) (by omega) ha
  refine W.zast hx hb hc ((gTy hG (kd := 10) (by omega) (by omega)).1 n (fun j => .int (sI S a j))) (fun q => by cases q) (by show ¬ (i < 0 ∨ (arrV _ _ _).slots.size ≤ _); rw [arrV_size]; exact hin) rfl rfl hd fun H' e1 e2 e3 => ?_
  rw [hv.1] at e1
  refine kk H' _ ls (h1.upd rfl rfl ha (by omega) stI_same (fun _ _ => rfl) (fun _ _ => rfl) e2 e3 (arr_cel (by omega) ?_)) (h2.put e2 e3 hA) h3
  rw [e1]
  show some ((arrV _ _ _).setSlot _ _) = some (arrV _ _ (fun j => Value.int (sI (stI S a i.toNatClampNeg v) a j)))
  rw [arrV_store, stI_row]
theorem cast_ok (C0 : CX G cc nL own p s m args c) {a n : Nat} {i v : Int32} {st : List Value} (ha : sK S a = some (11, n)) (hin : vp_in i n) (hv : fitI .char v) (hd : decode cc pc = .ok (.castore, 1))
    (kk : VW G nL p l e R s m args below meth c Q (pc + 1) L st (stI S a i.toNatClampNeg v) cs sl) : VW G nL p l e R s m args below meth c Q pc L (.int v :: .int i :: .ref a :: st) S cs sl := by
  obtain ⟨hx, hb, hml, hown, hts, hG, hbase⟩ := C0
  intro H locs ls h1 h2 h3
  obtain ⟨hA, hc⟩ := h1.arr (by omega) (by omega) ha
  refine W.cast hx hb hc ((gTy hG (kd := 11) (by omega) (by omega)).1 n (fun j => .int (sI S a j))) (fun q => by cases q) (by show ¬ (i < 0 ∨ (arrV _ _ _).slots.size ≤ _); rw [arrV_size]; exact hin) rfl rfl hd fun H' e1 e2 e3 => ?_
  rw [hv.1] at e1
  refine kk H' _ ls (h1.upd rfl rfl ha (by omega) stI_same (fun _ _ => rfl) (fun _ _ => rfl) e2 e3 (arr_cel (by omega) ?_)) (h2.put e2 e3 hA) h3
  rw [e1]
  show some ((arrV _ _ _).setSlot _ _) = some (arrV _ _ (fun j => Value.int (sI (stI S a i.toNatClampNeg v) a j)))
  rw [arrV_store, stI_row]
theorem aast_ok (C0 : CX G cc nL own p s m args c) {a n kd r rn : Nat} {i : Int32} {st : List Value} (hk : kd = 12 ∨ kd = 13) (ha : sK S a = some (kd, n)) (hr : sK S r = some (kd - 12, rn)) (hin : vp_in i n) (hd : decode cc pc = .ok (.aastore, 1))
    (kk : VW G nL p l e R s m args below meth c Q (pc + 1) L st (stR S a i.toNatClampNeg (some r)) cs sl) : VW G nL p l e R s m args below meth c Q pc L (.ref r :: .int i :: .ref a :: st) S cs sl := by
  obtain ⟨hx, hb, hml, hown, hts, hG, hbase⟩ := C0
  intro H locs ls h1 h2 h3
  obtain ⟨hA, hc⟩ := h1.arr (by omega) (by omega) ha
  rw [arC_q hk] at hc
  obtain ⟨-, cellV, g1, g2, g3, -⟩ := h1.obj (ci := kd - 12) (by omega) hr
  have hcls := (hG.1.1 (kd - 12) _ (cl_at (by omega))).2
  have hty : aty kd = .object (clR (kd - 12)) := by rcases hk with rfl | rfl <;> rfl
  have hT := (gTy hG (kd := kd) (by omega) (by omega)).2
  rw [hty] at hT
  obtain ⟨kA, comp, k1, k2, k3, -⟩ := hT
  have hcomp : comp = G.1.1 (kd - 12) := Option.some.inj (k3.symm.trans hcls.1)
  subst hcomp
  obtain ⟨kC, hkC, -⟩ := hcls.2
  refine W.aast hx hb hc (fun q h => by cases h) (fun h => by cases h) k1 k2 rfl hkC ⟨fun q => hin (Or.inl q), by show _ < (arrV _ _ _).slots.size; rw [arrV_size]; exact in_lt hin⟩ g1 (fun q h => by rw [g3] at h; cases h) (by rw [g2]; exact hkC) (by rw [g2]; exact va_assign hcls) rfl rfl hd fun H' e1 e2 e3 => ?_
  refine kk H' _ ls (h1.upd rfl rfl ha (by omega) (fun _ _ => rfl) (fun _ _ => rfl) stR_same e2 e3 (arr_cel (by omega) ?_)) (h2.put e2 e3 hA) h3
  rw [e1, arC_q hk]
  show some ((arrV _ _ _).setSlot _ _) = some (arrV _ _ (fun j => va_rf (sR (stR S a i.toNatClampNeg (some r)) a j)))
  rw [arrV_store, stR_row]
theorem alen_ok (C0 : CX G cc nL own p s m args c) {a n kd : Nat} {st : List Value} (h8 : 8 ≤ kd) (ha : sK S a = some (kd, n)) (hd : decode cc pc = .ok (.arraylength, 1))
    (kk : VW G nL p l e R s m args below meth c Q (pc + 1) L (.int (nI n) :: st) S cs sl) : VW G nL p l e R s m args below meth c Q pc L (.ref a :: st) S cs sl := by
  obtain ⟨hx, hb, hml, hown, hts, hG, hbase⟩ := C0
  intro H locs ls h1 h2 h3
  have kk := kk H locs ls h1 h2 h3
  by_cases h14 : kd < 14
  · have hc := (h1.arr h8 h14 ha).2
    have hsz : (vp_cell (G.2.1 kd) (n, arC S a kd)).slots.size = n := by
      unfold vp_cell arC
      split <;> exact arrV_size _ _ _
    have hT := (gTy hG (kd := kd) h8 h14).1
    have harr : s.isArrayOf (vp_cell (G.2.1 kd) (n, arC S a kd)) (aty kd) := by
      unfold vp_cell
      split <;> exact hT _ _
    exact W.alen (n := nI n) hx hb hc harr (by rw [hsz]; rfl) rfl rfl hd kk
  · obtain ⟨q1, q2, q3, q4⟩ := (h1.2 _ _ _ ha).2 (by omega)
    subst q2
    subst q3
    exact va_tlen hx hb (hG.2.2.2.2 (kd - 14) (by omega)) h2 rfl hd kk
theorem gets_ok (C0 : CX G cc nL own p s m args c) {i idx : Nat} {st : List Value} (hi : i < 2) (hw : Cond.fieldLinkNest own idx "PlateWriters" (if i = 0 then "LEAST_OF_SETTING" else "MOST_OF_SETTING") "[I" "PlateWriters" ∈ nestW) (hd : decode cc pc = .ok (.getstatic idx, 3))
    (kk : VW G nL p l e R s m args below meth c Q (pc + 3) L (.ref (G.2.2.1 i).1 :: st) S cs sl) : VW G nL p l e R s m args below meth c Q pc L st S cs sl := by
  obtain ⟨hx, hb, hml, hown, hts, hG, hbase⟩ := C0
  intro H locs ls h1 h2 h3
  have kk := kk H locs ls h1 h2 h3
  match i, hi, hw, kk with
  | 0, _, hw, kk => exact va_getsN hx hb hG.2.2.2.1.1 h2 hown (va_Nw.use rfl (hG.2.1 _ hw)) (fun _ h => h) hd kk
  | 1, _, hw, kk => exact va_getsN hx hb hG.2.2.2.1.2 h2 hown (va_Nw.use rfl (hG.2.1 _ hw)) (fun _ h => h) hd kk
end AR
