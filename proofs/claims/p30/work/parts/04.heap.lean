/-! rows over the plain machine: fields and rows of values -/
set_option maxRecDepth 100000 in
theorem in_wsX0 : ∀ w ∈ wsX00, w ∈ lw_all := by decide +kernel
set_option maxRecDepth 100000 in
theorem in_wsX1 : ∀ w ∈ wsX10, w ∈ lw_all := by decide +kernel
set_option maxRecDepth 100000 in
theorem in_wsX2 : ∀ w ∈ wsX20, w ∈ lw_all := by decide +kernel
set_option maxRecDepth 100000 in
theorem in_wsX3 : ∀ w ∈ wsX30, w ∈ lw_all := by decide +kernel
set_option maxRecDepth 100000 in
theorem in_wsX4 : ∀ w ∈ wsX40, w ∈ lw_all := by decide +kernel
set_option maxRecDepth 100000 in
theorem in_wsX5 : ∀ w ∈ wsX50, w ∈ lw_all := by decide +kernel
set_option maxRecDepth 100000 in
theorem in_wsX6 : ∀ w ∈ wsX60, w ∈ lw_all := by decide +kernel
/-- a class of ours: its name, its fields -/
def clR (ci : Nat) : String := match ci with
  | 0 => RX0 | 1 => RX1 | 2 => RX2 | 3 => RX3 | 4 => RX4 | 5 => RX5 | 6 => RX6 | _ => RX7
def clT (ci : Nat) : u_T := match ci with
  | 0 => TX0 | 1 => TX1 | 2 => TX2 | 3 => TX3 | 4 => TX4 | 5 => TX5 | 6 => TX6 | _ => TX7
theorem cl_at {ci : Nat} (h : ci < 7) : vwCl[ci]? = some (clR ci, clT ci, nf ci) := by
  match ci, h with
  | 0, _ | 1, _ | 2, _ | 3, _ | 4, _ | 5, _ | 6, _ => rfl
theorem cl_in {ci : Nat} (h : ci < 7) : ∀ w ∈ u_ws (clR ci) (clT ci) (nf ci), w ∈ lw_all := by
  match ci, h with
  | 0, _ => exact in_wsX0
  | 1, _ => exact in_wsX1
  | 2, _ => exact in_wsX2
  | 3, _ => exact in_wsX3
  | 4, _ => exact in_wsX4
  | 5, _ => exact in_wsX5
  | 6, _ => exact in_wsX6
theorem cl_ty {ci : Nat} (h : ci < 7) : ∀ k, k < nf ci → parseFieldDescriptor (clT ci k).2.2.1 = some (fty ci k) := by
  match ci, h with
  | 0, _ => exact tyX0_ok
  | 1, _ => exact tyX1_ok
  | 2, _ => exact tyX2_ok
  | 3, _ => exact tyX3_ok
  | 4, _ => exact tyX4_ok
  | 5, _ => exact tyX5_ok
  | 6, _ => exact tyX6_ok
theorem cl_nm {ci : Nat} (h : ci < 7) : ∀ a, a < nf ci → ∀ b, b < nf ci → a ≠ b → (clT ci a).2.1 ≠ (clT ci b).2.1 := by
  match ci, h with
  | 0, _ => exact nmX0
  | 1, _ => exact nmX1
  | 2, _ => exact nmX2
  | 3, _ => exact nmX3
  | 4, _ => exact nmX4
  | 5, _ => exact nmX5
  | 6, _ => exact nmX6
theorem cel_V {S : SS} {a ci k : Nat} (h : k < nf ci) : vp_V ((List.range (nf ci)).map (fV S a ci)) k = fV S a ci k := by
  unfold vp_V
  rw [List.getD_eq_getElem?_getD, List.getElem?_map, List.getElem?_range h]
  rfl
/-- an object's cell -/
theorem Rep.obj {G : Gx} {S : SS} {H : Heap} {a ci n : Nat} (h : Rep G S H) (hc : ci < 7) (ha : sK S a = some (ci, n)) : G.2.2.2 ≤ a ∧ t_OB a (G.1.1 ci) (nf ci) (G.1.2 ci) H (fV S a ci) := by
  obtain ⟨h1, h2⟩ := (h.2 _ _ _ ha).1 (by omega)
  refine ⟨h1, ?_⟩
  unfold cel at h2
  rw [if_pos (show ci < 8 by omega)] at h2
  obtain ⟨r, g1, g2⟩ := h2
  have hr : r = (clR ci, clT ci, nf ci) := Option.some.inj (g1.symm.trans (cl_at hc))
  subst hr
  exact g2.to (fun k hk => cel_V hk)
theorem obj_cel {G : Gx} {S : SS} {H : Heap} {a ci n : Nat} (hc : ci < 7) (h : t_OB a (G.1.1 ci) (nf ci) (G.1.2 ci) H (fV S a ci)) : va_at G.1 vwCl (a, cel G S a ci n) H := by
  unfold cel
  rw [if_pos (show ci < 8 by omega)]
  exact ⟨_, cl_at hc, h.to (fun k hk => (cel_V hk).symm)⟩
theorem Rep.arr {G : Gx} {S : SS} {H : Heap} {a kd n : Nat} (h : Rep G S H) (hc : 8 ≤ kd) (hd : kd < 14) (ha : sK S a = some (kd, n)) : G.2.2.2 ≤ a ∧ H[a]? = some (vp_cell (G.2.1 kd) (n, arC S a kd)) := by
  obtain ⟨h1, h2⟩ := (h.2 _ _ _ ha).1 (by omega)
  unfold cel at h2
  rw [if_neg (by omega)] at h2
  exact ⟨h1, h2⟩
theorem arr_cel {G : Gx} {S : SS} {H : Heap} {a kd n : Nat} (hc : 8 ≤ kd) (h : H[a]? = some (vp_cell (G.2.1 kd) (n, arC S a kd))) : va_at G.1 vwCl (a, cel G S a kd n) H := by
  unfold cel
  rw [if_neg (by omega)]
  exact h
theorem gTy {G : Gx} {s : State} {H : Heap} (h : gOK G s H) {kd : Nat} (hc : 8 ≤ kd) (hd : kd < 14) : ArrOfT s (G.2.1 kd) (aty kd) ∧ va_RA s (G.2.1 kd) (aty kd) := by
  refine h.1.2 (kd - 8) (G.2.1 kd, aty kd) ?_
  match kd, hc, hd with
  | 8, _, _ | 9, _, _ | 10, _, _ | 11, _, _ | 12, _, _ | 13, _, _ => rfl
section HP
variable {G : Gx} {nL : Nat} {p : Program} {l : Launch} {e : Env} {R : Room} {s : State} {m : MethodId} {args : Array Value} {below : List Frame} {meth : Method} {c : Code} {Q : State → Prop} {cc : ByteArray} {pc : Nat} {L : List (Option Value)} {S : SS} {cs sl : Nat} {own : String}
theorem getf_ok (C0 : CX G cc nL own p s m args c) {ci k idx n a : Nat} {st : List Value} (hc : ci < 7) (hk : k < nf ci) (hw : Cond.fieldLink own idx (clR ci) (clT ci k).2.1 (clT ci k).2.2.1 ∈ lw_all) (hsame : (clT ci k).1 = clR ci) (ha : sK S a = some (ci, n)) (hd : decode cc pc = .ok (.getfield idx, 3))
    (kk : VW G nL p l e R s m args below meth c Q (pc + 3) L (fV S a ci k :: st) S cs sl) : VW G nL p l e R s m args below meth c Q pc L (.ref a :: st) S cs sl := by
  obtain ⟨hx, hb, hml, hown, hts, hG, hbase⟩ := C0
  intro H locs ls h1 h2 h3
  have kk := kk H locs ls h1 h2 h3
  obtain ⟨-, cell, q1, q2, q3, q4⟩ := h1.obj hc ha
  obtain ⟨hS, hfc, kC, hkC, hkind⟩ := hG.1.1 ci _ (cl_at hc)
  obtain ⟨cf, kf, fi, f, hi, hsl⟩ := hS k hk
  rw [← hsame] at hw
  exact W.getf hx hb hown (hts _ hw) hi (u_facts hfc hkC (u_lays hts (cl_in hc) hk) hi).1 q1 (by rw [q3]; exact fun h => by cases h) (v := fV S a ci k) (by rw [hsl, q4 k hk]) rfl rfl hd kk
/-- what a field of small numbers keeps as it is -/
def fitI (ty : FieldType) (v : Int32) : Prop := narrow ty (.int v) = .int v ∧ fits ty (.int v) = true
theorem fitI_int (v : Int32) : fitI .int v := ⟨rfl, rfl⟩
theorem va_S.put' {A : Nat → Prop} {H0 H H1 : Heap} {locs : List Loc} {a k : Nat} (h : va_S A H0 H locs) (z : H1.size = H.size) (oq : ∀ q : Nat, q ≠ a → H1[q]? = H[q]?) (ha : A a) : va_S A H0 H1 (locs ++ [⟨a, k⟩]) := h.put z oq ha
theorem putf_ok (C0 : CX G cc nL own p s m args c) {ci k idx n a : Nat} {v : Value} {S' : SS} {st : List Value} (hc : ci < 7) (hk : k < nf ci) (hw : Cond.fieldLink own idx (clR ci) (clT ci k).2.1 (clT ci k).2.2.1 ∈ lw_all) (hsame : (clT ci k).1 = clR ci) (ha : sK S a = some (ci, n))
    (hfin : (clT ci k).2.2.2 = true → meth.name = "<init>" ∧ clR ci = own) (hn : narrow (fty ci k) v = v) (hf : fits (fty ci k) v = true)
    (hK : sK S' = sK S) (hZ : sZ S' = sZ S) (hI : ∀ b, b ≠ a → sI S' b = sI S b) (hF : ∀ b, b ≠ a → sF S' b = sF S b) (hR : ∀ b, b ≠ a → sR S' b = sR S b) (hV : ∀ j, j < nf ci → updV (fV S a ci) k v j = fV S' a ci j)
    (hd : decode cc pc = .ok (.putfield idx, 3))
    (kk : VW G nL p l e R s m args below meth c Q (pc + 3) L st S' cs sl) : VW G nL p l e R s m args below meth c Q pc L (v :: .ref a :: st) S cs sl := by
  obtain ⟨hx, hb, hml, hown, hts, hG, hbase⟩ := C0
  intro H locs ls h1 h2 h3
  obtain ⟨hA, cell, q1, q2, q3, q4⟩ := h1.obj hc ha
  have hap := va_apart (own := own) hts (cl_in hc) (fty ci) (cl_ty hc) (cl_nm hc) hG.1 (cl_at hc)
  obtain ⟨hS, hfc, kC, hkC, hkind⟩ := hG.1.1 ci _ (cl_at hc)
  obtain ⟨cf, kf, fi, f, hi, hsl⟩ := hS k hk
  have hlays := u_lays hts (cl_in hc) hk
  have hst := (u_facts hfc hkC hlays hi).1
  have hw' := hts _ hw
  have hi' : s.fieldFound? (clR ci) (clT ci k).2.1 (clT ci k).2.2.1 = some (cf, kf, fi, f) := by rw [← hsame]; exact hi
  have key : ∀ (H' : Heap), H'[a]? = some (cell.setSlot f.slot v) → H'.size = H.size → (∀ q, q ≠ a → H'[q]? = H[q]?) → W p l e R s m args below meth c H' (locs ++ [⟨a, f.slot⟩]) cs sl Q (F0 m (pc + 3) ls st) := by
    intro H' e1 e2 e3
    rw [hsl] at e1 ⊢
    refine kk H' _ ls (h1.upd hK hZ ha (by omega) hI hF hR e2 e3 (obj_cel hc (t_OB.to (V := updV (fV S a ci) k v) ⟨_, e1, q2, q3, t_set q4 hap hk v⟩ hV))) (h2.put e2 e3 hA) h3
  have hlay := hts _ (cl_in hc _ (u_in_lay hk))
  unfold u_lay at hlay
  cases hb2 : (clT ci k).2.2.2 with
  | false =>
    rw [if_neg (by rw [hb2]; decide)] at hlay
    have h6 := u_store hfc hkC hkind hlay hi (cl_ty hc k hk) hn hf
    exact W.putK hx hb (f := f) ⟨hown, hw', ⟨_, _, _, hi'⟩, hst⟩ (by rw [q2]; exact h6) q1 q3 (by rw [hsl]; exact k2_hasslot (q4 k hk)) rfl rfl hd key
  | true =>
    obtain ⟨g1, g2⟩ := hfin hb2
    rw [if_pos hb2] at hlay
    have hcf : m.cls = cf := by
      obtain ⟨_, _, c', _, _, _, -, -, hf', -, -, -, hown2, -⟩ := Cond.laysFinal_spec hlay
      have e1 : c' = cf := by have := hi.symm.trans hf'; simp at this; exact this.1.symm
      rw [hsame, g2] at hown2
      rw [← e1]; exact Option.some.inj (hown.symm.trans hown2)
    have h6 := u_fits hfc hkC hkind (Or.inr hlay) hi (cl_ty hc k hk) hn hf
    exact W.putFinK hx hb hown hw' hi' hst hcf g1 (by rw [q2]; exact h6) q1 q3 (by rw [hsl]; exact k2_hasslot (q4 k hk)) rfl rfl hd key
theorem putI_ok (C0 : CX G cc nL own p s m args c) {ci k idx n a : Nat} {v : Int32} {st : List Value} (hc : ci < 7) (hk : k < nf ci) (hw : Cond.fieldLink own idx (clR ci) (clT ci k).2.1 (clT ci k).2.2.1 ∈ lw_all) (hsame : (clT ci k).1 = clR ci) (ha : sK S a = some (ci, n))
    (hfin : (clT ci k).2.2.2 = true → meth.name = "<init>" ∧ clR ci = own) (hr : isRefTy (fty ci k) = false) (hf : fitI (fty ci k) v) (hd : decode cc pc = .ok (.putfield idx, 3))
    (kk : VW G nL p l e R s m args below meth c Q (pc + 3) L st (stI S a k v) cs sl) : VW G nL p l e R s m args below meth c Q pc L (.int v :: .ref a :: st) S cs sl := by
  refine putf_ok C0 hc hk hw hsame ha hfin hf.1 hf.2 (S' := stI S a k v) rfl rfl ?_ (fun _ _ => rfl) (fun _ _ => rfl) ?_ hd kk
  · intro b hb
    funext j
    show up2 S.2.2.2.1 a k v b j = _
    unfold up2
    rw [if_neg (fun q => hb q.1)]
    rfl
  · intro j hj
    unfold updV
    by_cases hjk : j = k
    · subst hjk
      rw [if_pos rfl]
      unfold fV
      rw [hr]
      show _ = Value.int (up2 S.2.2.2.1 a j v a j)
      unfold up2
      rw [if_pos ⟨rfl, rfl⟩]
    · rw [if_neg hjk]
      unfold fV
      split
      · rfl
      · show _ = Value.int (up2 S.2.2.2.1 a k v a j)
        unfold up2
        rw [if_neg (fun q => hjk q.2)]
        rfl
theorem putR_ok (C0 : CX G cc nL own p s m args c) {ci k idx n a r : Nat} {st : List Value} (hc : ci < 7) (hk : k < nf ci) (hw : Cond.fieldLink own idx (clR ci) (clT ci k).2.1 (clT ci k).2.2.1 ∈ lw_all) (hsame : (clT ci k).1 = clR ci) (ha : sK S a = some (ci, n))
    (hfin : (clT ci k).2.2.2 = true → meth.name = "<init>" ∧ clR ci = own) (hr : isRefTy (fty ci k) = true) (hd : decode cc pc = .ok (.putfield idx, 3))
    (kk : VW G nL p l e R s m args below meth c Q (pc + 3) L st (stR S a k (some r)) cs sl) : VW G nL p l e R s m args below meth c Q pc L (.ref r :: .ref a :: st) S cs sl := by
  have hty : narrow (fty ci k) (.ref r) = .ref r ∧ fits (fty ci k) (.ref r) = true := by
    cases h : fty ci k <;> rw [h] at hr <;> first | exact ⟨rfl, rfl⟩ | cases hr
  refine putf_ok C0 hc hk hw hsame ha hfin hty.1 hty.2 (S' := stR S a k (some r)) rfl rfl (fun _ _ => rfl) (fun _ _ => rfl) ?_ ?_ hd kk
  · intro b hb
    funext j
    show up2 S.2.1 a k (some r) b j = _
    unfold up2
    rw [if_neg (fun q => hb q.1)]
    rfl
  · intro j hj
    unfold updV
    by_cases hjk : j = k
    · subst hjk
      rw [if_pos rfl]
      unfold fV
      rw [hr]
      show _ = va_rf (up2 S.2.1 a j (some r) a j)
      unfold up2
      rw [if_pos ⟨rfl, rfl⟩]
      rfl
    · rw [if_neg hjk]
      unfold fV
      split
      · show _ = va_rf (up2 S.2.1 a k (some r) a j)
        unfold up2
        rw [if_neg (fun q => hjk q.2)]
        rfl
      · rfl
end HP
