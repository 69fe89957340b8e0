/-! methods over the plain machine; the rows by which a stretch of code is computed -/
def iniM (M : MI) : Bool := decide ((mY M).name = "<init>")
/-- a method's body comes from pc to an end that E allows -/
def V (l : Launch) (G : Gx) (M : MI) (E : Option Value → SS → Prop) (pc : Nat) (L : List (Option Value)) (st : List Value) (S : SS) (cs sl : Nat) : Prop :=
  ∀ (p : Program) (e : Env) (s : State) (m : MethodId) (args : Array Value) (below : List Frame) (meth : Method) (c : Code), CX G (mC M) (mL M) (mY M).cls p s m args c → (iniM M = true → meth.name = "<init>") → meth.sig.returnType = mT M → meth.locks = false →
    VW G (mL M) p l e (mR M) s m args below meth c (MQ below (QE G E) args s (mR M).cells (mR M).slots (gA G)) pc L st S cs sl
/-- an end -/
def EX (M : MI) (E : Option Value → SS → Prop) : ET := fun i v S cs sl => retOK i (mT M) v ∧ E v S ∧ cs ≤ (mR M).cells ∧ sl ≤ (mR M).slots
def sgOK (M : MI) (Γ : List MI) (sg : List Ins) : Bool := segOK (mC M) (mY M).cls (iniM M) (mR M) Γ sg
theorem V.seg {l : Launch} {G : Gx} {M : MI} {Γ : List (MI × PT)} {E : Option Value → SS → Prop} (hΓ : ∀ q ∈ Γ, Ct l G q.1 q.2) {sg : List Ins} {L : List (Option Value)} {st : List Value} {S : SS} {cs sl : Nat} (hok : sgOK M (Γ.map Prod.fst) sg = true)
    (hw : wp G Γ (mR M) (V l G M E) (EX M E) sg L st S cs sl) : V l G M E (segPc sg) L st S cs sl := by
  intro p e s m args below meth c C0 hn hr hlk
  refine wp_ok C0 (ini := iniM M) (fun h => ?_) hΓ (fun pc L st S cs sl h => h p e s m args below meth c C0 hn hr hlk) (fun pc i v L S cs sl h hi hd => ?_) sg L st S cs sl hok hw
  · exact hn h
  · exact ret_ok C0 hr hlk h.1 h.2.1 h.2.2.1 h.2.2.2 hd
/-- several stretches, one behind another, as deep as n -/
def wpN (l : Launch) (G : Gx) (M : MI) (Γ : List (MI × PT)) (E : Option Value → SS → Prop) (sgs : Nat → Option (List Ins)) : Nat → KT
  | 0 => V l G M E
  | n + 1 => fun t L st S cs sl => match sgs t with
    | some sg => wp G Γ (mR M) (wpN l G M Γ E sgs n) (EX M E) sg L st S cs sl
    | none => V l G M E t L st S cs sl
def tabOK (M : MI) (Γ : List MI) (sgs : Nat → Option (List Ins)) (ts : List Nat) : Bool := ts.all (fun t => match sgs t with
  | some sg => sgOK M Γ sg && decide (segPc sg = t)
  | none => true)
theorem wpN_ok {l : Launch} {G : Gx} {M : MI} {Γ : List (MI × PT)} {E : Option Value → SS → Prop} {sgs : Nat → Option (List Ins)} (hΓ : ∀ q ∈ Γ, Ct l G q.1 q.2) (hok : ∀ t sg, sgs t = some sg → sgOK M (Γ.map Prod.fst) sg = true ∧ segPc sg = t) :
    ∀ (n t : Nat) (L : List (Option Value)) (st : List Value) (S : SS) (cs sl : Nat), wpN l G M Γ E sgs n t L st S cs sl → V l G M E t L st S cs sl
  | 0, _, _, _, _, _, _, h => h
  | n + 1, t, L, st, S, cs, sl, h => by
    simp only [wpN] at h
    cases ht : sgs t with
    | none => rw [ht] at h; exact h
    | some sg =>
      rw [ht] at h
      obtain ⟨h1, h2⟩ := hok t sg ht
      rw [← h2]
      intro p e s m args below meth c C0 hn hr hlk
      refine wp_ok C0 (ini := iniM M) (fun h => ?_) hΓ (fun pc L st S cs sl h => wpN_ok hΓ hok n pc L st S cs sl h p e s m args below meth c C0 hn hr hlk) (fun pc i v L S cs sl h hi hd => ?_) sg L st S cs sl h1 h
      · exact hn h
      · exact ret_ok C0 hr hlk h.1 h.2.1 h.2.2.1 h.2.2.2 hd
/-- from a loop's head: its own stretch first, then the others -/
theorem V.segN {l : Launch} {G : Gx} {M : MI} {Γ : List (MI × PT)} {E : Option Value → SS → Prop} {sgs : Nat → Option (List Ins)} (hΓ : ∀ q ∈ Γ, Ct l G q.1 q.2) (hok : ∀ t sg, sgs t = some sg → sgOK M (Γ.map Prod.fst) sg = true ∧ segPc sg = t) (n : Nat)
    {sg : List Ins} {L : List (Option Value)} {st : List Value} {S : SS} {cs sl : Nat} (h1 : sgOK M (Γ.map Prod.fst) sg = true)
    (hw : wp G Γ (mR M) (wpN l G M Γ E sgs n) (EX M E) sg L st S cs sl) : V l G M E (segPc sg) L st S cs sl := by
  intro p e s m args below meth c C0 hn hr hlk
  refine wp_ok C0 (ini := iniM M) (fun h => ?_) hΓ (fun pc L st S cs sl h => wpN_ok hΓ hok n pc L st S cs sl h p e s m args below meth c C0 hn hr hlk) (fun pc i v L S cs sl h hi hd => ?_) sg L st S cs sl h1 hw
  · exact hn h
  · exact ret_ok C0 hr hlk h.1 h.2.1 h.2.2.1 h.2.2.2 hd
theorem Ct.ofV {l : Launch} {G : Gx} {M : MI} {P : PT} (hM : okM M = true) (body : ∀ (as : List Value) (S : SS) (E : Option Value → SS → Prop), P as S E → (entL as).length ≤ mL M ∧ V l G M E 0 (entLn as (mL M)) [] S 0 0) : Ct l G M P :=
  Ct.of hM fun as S E h => ⟨(body as S E h).1, fun p e s m args below meth c C0 hn hr hlk => (body as S E h).2 p e s m args below meth c C0 (fun h => by rw [hn]; exact of_decide_eq_true h) hr hlk⟩
section XR
variable {G : Gx} {Γ : List (MI × PT)} {R : Room} {K : KT} {E : ET} {kk : List (Option Value) → List Value → SS → Nat → Nat → Prop} {pc x y z w : Nat} {L : List (Option Value)} {st : List Value} {S : SS} {cs sl : Nat}
theorem x_nop : wp1 G Γ R K E kk (pc, .nop, x, y, z, w) L st S cs sl = K pc L st S cs sl := rfl
theorem x_goto {o : Int} : wp1 G Γ R K E kk (pc, .goto o, x, y, z, w) L st S cs sl = K z L st S cs sl := rfl
theorem x_table {d lo hi : Int} {offs : Array Int} {v : Int32} : wp1 G Γ R K E kk (pc, .tableswitch d lo hi offs, x, y, z, w) L (.int v :: st) S cs sl = (tblW (fun t => K t L st S cs sl) v pc lo offs.toList ∧ (v.toInt < lo ∨ hi < v.toInt → K ((pc : Int) + d).toNat L st S cs sl)) := rfl
theorem x_iinc {k : Nat} {n : Int} : wp1 G Γ R K E kk (pc, .iinc k n, x, y, z, w) L st S cs sl = (match L[k]? with | some (some (.int a)) => kk (stL L k (.int (a + kI y x))) st S cs sl | _ => False) := rfl
theorem x_ldc {k : Nat} : wp1 G Γ R K E kk (pc, .ldc k, x, y, z, w) L st S cs sl = kk L (ldcV x y :: st) S cs sl := rfl
theorem x_ldc2 {k : Nat} : wp1 G Γ R K E kk (pc, .ldc2_w k, x, y, z, w) L st S cs sl = kk L (ldcV x y :: st) S cs sl := rfl
theorem x_getI {k a : Nat} (h : isRefTy (fty x y) = false) : wp1 G Γ R K E kk (pc, .getfield k, x, y, z, w) L (.ref a :: st) S cs sl = (sK S a = some (x, 0) ∧ kk L (.int (sI S a y) :: st) S cs sl) := by
  show (sK S a = some (x, 0) ∧ _) = _
  rw [h]
theorem x_getR {k a : Nat} (h : isRefTy (fty x y) = true) : wp1 G Γ R K E kk (pc, .getfield k, x, y, z, w) L (.ref a :: st) S cs sl = (sK S a = some (x, 0) ∧ ∃ r, sR S a y = some r ∧ kk L (.ref r :: st) S cs sl) := by
  show (sK S a = some (x, 0) ∧ _) = _
  rw [h]
theorem x_putI {k a : Nat} {v : Int32} (h : fty x y = .int) : wp1 G Γ R K E kk (pc, .putfield k, x, y, z, w) L (.int v :: .ref a :: st) S cs sl = (sK S a = some (x, 0) ∧ kk L st (stI S a y v) cs sl) := by
  show (sK S a = some (x, 0) ∧ isRefTy (fty x y) = false ∧ fitI (fty x y) v ∧ _) = _
  rw [h]
  simp [isRefTy, fitI_int]
theorem x_putC {k a : Nat} {v : Int32} (h : fty x y = .char) : wp1 G Γ R K E kk (pc, .putfield k, x, y, z, w) L (.int v :: .ref a :: st) S cs sl = (sK S a = some (x, 0) ∧ fitI .char v ∧ kk L st (stI S a y v) cs sl) := by
  show (sK S a = some (x, 0) ∧ isRefTy (fty x y) = false ∧ fitI (fty x y) v ∧ _) = _
  rw [h]
  simp [isRefTy]
theorem x_putR {k a r : Nat} (h : isRefTy (fty x y) = true) : wp1 G Γ R K E kk (pc, .putfield k, x, y, z, w) L (.ref r :: .ref a :: st) S cs sl = (sK S a = some (x, 0) ∧ kk L st (stR S a y (some r)) cs sl) := by
  show (sK S a = some (x, 0) ∧ isRefTy (fty x y) = true ∧ _) = _
  rw [h]
  simp
theorem x_iaload {a : Nat} {j : Int32} : wp1 G Γ R K E kk (pc, .iaload, x, y, z, w) L (.int j :: .ref a :: st) S cs sl = (∃ n, sK S a = some (x, n) ∧ vp_in j n ∧ kk L (.int (sI S a j.toNatClampNeg) :: st) S cs sl) := rfl
theorem x_faload {a : Nat} {j : Int32} : wp1 G Γ R K E kk (pc, .faload, x, y, z, w) L (.int j :: .ref a :: st) S cs sl = (∃ n, sK S a = some (9, n) ∧ vp_in j n ∧ kk L (.float (sF S a j.toNatClampNeg) :: st) S cs sl) := rfl
theorem x_baload {a : Nat} {j : Int32} : wp1 G Γ R K E kk (pc, .baload, x, y, z, w) L (.int j :: .ref a :: st) S cs sl = (∃ n, sK S a = some (10, n) ∧ vp_in j n ∧ kk L (.int (sI S a j.toNatClampNeg) :: st) S cs sl) := rfl
theorem x_caload {a : Nat} {j : Int32} : wp1 G Γ R K E kk (pc, .caload, x, y, z, w) L (.int j :: .ref a :: st) S cs sl = (∃ n, sK S a = some (11, n) ∧ vp_in j n ∧ kk L (.int (sI S a j.toNatClampNeg) :: st) S cs sl) := rfl
theorem x_aaload {a : Nat} {j : Int32} : wp1 G Γ R K E kk (pc, .aaload, x, y, z, w) L (.int j :: .ref a :: st) S cs sl = (∃ n r, sK S a = some (x, n) ∧ vp_in j n ∧ sR S a j.toNatClampNeg = some r ∧ kk L (.ref r :: st) S cs sl) := rfl
theorem x_iastore {a : Nat} {j v : Int32} : wp1 G Γ R K E kk (pc, .iastore, x, y, z, w) L (.int v :: .int j :: .ref a :: st) S cs sl = (∃ n, sK S a = some (8, n) ∧ vp_in j n ∧ kk L st (stI S a j.toNatClampNeg v) cs sl) := rfl
theorem x_fastore {a : Nat} {j : Int32} {v : UInt32} : wp1 G Γ R K E kk (pc, .fastore, x, y, z, w) L (.float v :: .int j :: .ref a :: st) S cs sl = (∃ n, sK S a = some (9, n) ∧ vp_in j n ∧ kk L st (stF S a j.toNatClampNeg v) cs sl) := rfl
theorem x_bastore {a : Nat} {j v : Int32} : wp1 G Γ R K E kk (pc, .bastore, x, y, z, w) L (.int v :: .int j :: .ref a :: st) S cs sl = (∃ n, sK S a = some (10, n) ∧ vp_in j n ∧ fitI .boolean v ∧ kk L st (stI S a j.toNatClampNeg v) cs sl) := rfl
theorem x_castore {a : Nat} {j v : Int32} : wp1 G Γ R K E kk (pc, .castore, x, y, z, w) L (.int v :: .int j :: .ref a :: st) S cs sl = (∃ n, sK S a = some (11, n) ∧ vp_in j n ∧ fitI .char v ∧ kk L st (stI S a j.toNatClampNeg v) cs sl) := rfl
theorem x_aastore {a r : Nat} {j : Int32} : wp1 G Γ R K E kk (pc, .aastore, x, y, z, w) L (.ref r :: .int j :: .ref a :: st) S cs sl = (∃ n, sK S a = some (x, n) ∧ sK S r = some (x - 12, 0) ∧ vp_in j n ∧ kk L st (stR S a j.toNatClampNeg (some r)) cs sl) := rfl
theorem x_alen {a : Nat} : wp1 G Γ R K E kk (pc, .arraylength, x, y, z, w) L (.ref a :: st) S cs sl = (∃ n, sK S a = some (x, n) ∧ kk L (.int (nI n) :: st) S cs sl) := rfl
theorem x_gets {k : Nat} : wp1 G Γ R K E kk (pc, .getstatic k, x, y, z, w) L st S cs sl = kk L (.ref (G.2.2.1 x).1 :: st) S cs sl := rfl
theorem x_new {k : Nat} : wp1 G Γ R K E kk (pc, .new k, x, y, z, w) L st S cs sl = (cs + 1 ≤ R.cells ∧ sl + nf x ≤ R.slots ∧ kk L (.ref (sZ S) :: st) (stN S x 0) (cs + 1) (sl + nf x)) := rfl
theorem x_newa {t : ArrayType} {v : Int32} : wp1 G Γ R K E kk (pc, .newarray t, x, y, z, w) L (.int v :: st) S cs sl = (¬ v < 0 ∧ v.toNatClampNeg ≤ 65536 ∧ cs + 1 ≤ R.cells ∧ sl + v.toNatClampNeg ≤ R.slots ∧ kk L (.ref (sZ S) :: st) (stN S x v.toNatClampNeg) (cs + 1) (sl + v.toNatClampNeg)) := rfl
theorem x_anew {k : Nat} {v : Int32} : wp1 G Γ R K E kk (pc, .anewarray k, x, y, z, w) L (.int v :: st) S cs sl = (¬ v < 0 ∧ v.toNatClampNeg ≤ 65536 ∧ cs + 1 ≤ R.cells ∧ sl + v.toNatClampNeg ≤ R.slots ∧ kk L (.ref (sZ S) :: st) (stN S x v.toNatClampNeg) (cs + 1) (sl + v.toNatClampNeg)) := rfl
theorem x_invs {k : Nat} : wp1 G Γ R K E kk (pc, .invokestatic k, x, y, z, w) L st S cs sl = wpC Γ R (kk L) y z w st S cs sl := rfl
theorem x_invi {k : Nat} : wp1 G Γ R K E kk (pc, .invokespecial k, x, y, z, w) L st S cs sl = wpC Γ R (kk L) y z w st S cs sl := rfl
theorem x_invv {k : Nat} : wp1 G Γ R K E kk (pc, .invokevirtual k, x, y, z, w) L st S cs sl = wpC Γ R (kk L) y z w st S cs sl := rfl
theorem x_ret : wp1 G Γ R K E kk (pc, .return_, x, y, z, w) L [] S cs sl = E .return_ none S cs sl := rfl
theorem x_iret {v : Value} : wp1 G Γ R K E kk (pc, .ireturn, x, y, z, w) L [v] S cs sl = E .ireturn (some v) S cs sl := rfl
theorem x_lret {v : Value} : wp1 G Γ R K E kk (pc, .lreturn, x, y, z, w) L [v] S cs sl = E .lreturn (some v) S cs sl := rfl
theorem x_fret {v : Value} : wp1 G Γ R K E kk (pc, .freturn, x, y, z, w) L [v] S cs sl = E .freturn (some v) S cs sl := rfl
theorem x_aret {v : Value} : wp1 G Γ R K E kk (pc, .areturn, x, y, z, w) L [v] S cs sl = E .areturn (some v) S cs sl := rfl
/-- the stack's own -/
theorem tand {P : Prop} : (True ∧ P) = P := by simp
theorem x_iconst {n : Int} (h : Int32.ofInt n = kI y x) : wp1 G Γ R K E kk (pc, .iconst n, x, y, z, w) L st S cs sl = kk L (.int (kI y x) :: st) S cs sl := by
  show wpO K (fun L st => kk L st S cs sl) (.iconst n) x y z L st S cs sl = _
  simp only [wpO, pst]
  rw [if_pos h]
  exact tand
theorem x_bipush {n : Int} (h : (Int8.ofInt n).toInt32 = kI y x) : wp1 G Γ R K E kk (pc, .bipush n, x, y, z, w) L st S cs sl = kk L (.int (kI y x) :: st) S cs sl := by
  show wpO K (fun L st => kk L st S cs sl) (.bipush n) x y z L st S cs sl = _
  simp only [wpO, pst]
  rw [if_pos h]
  exact tand
theorem x_sipush {n : Int} (h : (Int16.ofInt n).toInt32 = kI y x) : wp1 G Γ R K E kk (pc, .sipush n, x, y, z, w) L st S cs sl = kk L (.int (kI y x) :: st) S cs sl := by
  show wpO K (fun L st => kk L st S cs sl) (.sipush n) x y z L st S cs sl = _
  simp only [wpO, pst]
  rw [if_pos h]
  exact tand
theorem x_lconst {n : Fin 2} : wp1 G Γ R K E kk (pc, .lconst n, x, y, z, w) L st S cs sl = kk L (.long (lN n) :: st) S cs sl := tand
theorem x_fconst0 : wp1 G Γ R K E kk (pc, .fconst 0, x, y, z, w) L st S cs sl = kk L (.float FP.fconst0 :: st) S cs sl := tand
theorem x_fconst1 : wp1 G Γ R K E kk (pc, .fconst 1, x, y, z, w) L st S cs sl = kk L (.float FP.fconst1 :: st) S cs sl := tand
theorem x_fconst2 : wp1 G Γ R K E kk (pc, .fconst 2, x, y, z, w) L st S cs sl = kk L (.float FP.fconst2 :: st) S cs sl := tand
theorem x_dconst0 : wp1 G Γ R K E kk (pc, .dconst 0, x, y, z, w) L st S cs sl = kk L (.double FP.dconst0 :: st) S cs sl := tand
theorem x_dconst1 : wp1 G Γ R K E kk (pc, .dconst 1, x, y, z, w) L st S cs sl = kk L (.double FP.dconst1 :: st) S cs sl := tand
theorem x_null : wp1 G Γ R K E kk (pc, .aconst_null, x, y, z, w) L st S cs sl = kk L (.null :: st) S cs sl := tand
theorem x_iadd {a b : Int32} : wp1 G Γ R K E kk (pc, .iadd, x, y, z, w) L (.int b :: .int a :: st) S cs sl = kk L (.int (a + b) :: st) S cs sl := tand
theorem x_isub {a b : Int32} : wp1 G Γ R K E kk (pc, .isub, x, y, z, w) L (.int b :: .int a :: st) S cs sl = kk L (.int (a - b) :: st) S cs sl := tand
theorem x_imul {a b : Int32} : wp1 G Γ R K E kk (pc, .imul, x, y, z, w) L (.int b :: .int a :: st) S cs sl = kk L (.int (a * b) :: st) S cs sl := tand
theorem x_iand {a b : Int32} : wp1 G Γ R K E kk (pc, .iand, x, y, z, w) L (.int b :: .int a :: st) S cs sl = kk L (.int (a &&& b) :: st) S cs sl := tand
theorem x_ior {a b : Int32} : wp1 G Γ R K E kk (pc, .ior, x, y, z, w) L (.int b :: .int a :: st) S cs sl = kk L (.int (a ||| b) :: st) S cs sl := tand
theorem x_idiv {a b : Int32} : wp1 G Γ R K E kk (pc, .idiv, x, y, z, w) L (.int b :: .int a :: st) S cs sl = (¬ b = 0 ∧ kk L (.int (a / b) :: st) S cs sl) := rfl
theorem x_irem {a b : Int32} : wp1 G Γ R K E kk (pc, .irem, x, y, z, w) L (.int b :: .int a :: st) S cs sl = (¬ b = 0 ∧ kk L (.int (a - a / b * b) :: st) S cs sl) := rfl
theorem x_ineg {a : Int32} : wp1 G Γ R K E kk (pc, .ineg, x, y, z, w) L (.int a :: st) S cs sl = kk L (.int (-a) :: st) S cs sl := tand
theorem x_ishl {a b : Int32} : wp1 G Γ R K E kk (pc, .ishl, x, y, z, w) L (.int b :: .int a :: st) S cs sl = kk L (.int (a <<< (b &&& 31)) :: st) S cs sl := tand
theorem x_ishr {a b : Int32} : wp1 G Γ R K E kk (pc, .ishr, x, y, z, w) L (.int b :: .int a :: st) S cs sl = kk L (.int (a >>> (b &&& 31)) :: st) S cs sl := tand
theorem x_land {a b : Int64} : wp1 G Γ R K E kk (pc, .land, x, y, z, w) L (.long b :: .long a :: st) S cs sl = kk L (.long (a &&& b) :: st) S cs sl := tand
theorem x_ladd {a b : Int64} : wp1 G Γ R K E kk (pc, .ladd, x, y, z, w) L (.long b :: .long a :: st) S cs sl = kk L (.long (a + b) :: st) S cs sl := tand
theorem x_lmul {a b : Int64} : wp1 G Γ R K E kk (pc, .lmul, x, y, z, w) L (.long b :: .long a :: st) S cs sl = kk L (.long (a * b) :: st) S cs sl := tand
theorem x_lor {a b : Int64} : wp1 G Γ R K E kk (pc, .lor, x, y, z, w) L (.long b :: .long a :: st) S cs sl = kk L (.long (a ||| b) :: st) S cs sl := tand
theorem x_lushr {a : Int64} {b : Int32} : wp1 G Γ R K E kk (pc, .lushr, x, y, z, w) L (.int b :: .long a :: st) S cs sl = kk L (.long (a.toUInt64 >>> (b.toInt64.toUInt64 &&& Int64.toUInt64 63)).toInt64 :: st) S cs sl := tand
theorem x_lshl {a : Int64} {b : Int32} : wp1 G Γ R K E kk (pc, .lshl, x, y, z, w) L (.int b :: .long a :: st) S cs sl = kk L (.long (a <<< (b.toInt64 &&& 63)) :: st) S cs sl := tand
theorem x_lcmp {a b : Int64} : wp1 G Γ R K E kk (pc, .lcmp, x, y, z, w) L (.long b :: .long a :: st) S cs sl = kk L (.int (lg_cmp a b) :: st) S cs sl := tand
theorem x_i2l {a : Int32} : wp1 G Γ R K E kk (pc, .i2l, x, y, z, w) L (.int a :: st) S cs sl = kk L (.long a.toInt64 :: st) S cs sl := tand
theorem x_l2i {a : Int64} : wp1 G Γ R K E kk (pc, .l2i, x, y, z, w) L (.long a :: st) S cs sl = kk L (.int a.toInt32 :: st) S cs sl := tand
theorem x_i2c {a : Int32} : wp1 G Γ R K E kk (pc, .i2c, x, y, z, w) L (.int a :: st) S cs sl = kk L (.int (a.toUInt32 % 65536).toInt32 :: st) S cs sl := tand
theorem x_i2f {a : Int32} : wp1 G Γ R K E kk (pc, .i2f, x, y, z, w) L (.int a :: st) S cs sl = kk L (.float (FP.i2f a) :: st) S cs sl := tand
theorem x_f2d {a : UInt32} : wp1 G Γ R K E kk (pc, .f2d, x, y, z, w) L (.float a :: st) S cs sl = (vf_n64 (FP.f2d a) ∧ kk L (.double (FP.f2d a) :: st) S cs sl) := rfl
theorem x_d2i {a : UInt64} : wp1 G Γ R K E kk (pc, .d2i, x, y, z, w) L (.double a :: st) S cs sl = kk L (.int (FP.d2i a) :: st) S cs sl := tand
theorem x_d2l {a : UInt64} : wp1 G Γ R K E kk (pc, .d2l, x, y, z, w) L (.double a :: st) S cs sl = kk L (.long (FP.d2l a) :: st) S cs sl := tand
theorem x_fadd {a b : UInt32} : wp1 G Γ R K E kk (pc, .fadd, x, y, z, w) L (.float b :: .float a :: st) S cs sl = (vf_n32 (FP.fadd a b) ∧ kk L (.float (FP.fadd a b) :: st) S cs sl) := rfl
theorem x_fsub {a b : UInt32} : wp1 G Γ R K E kk (pc, .fsub, x, y, z, w) L (.float b :: .float a :: st) S cs sl = (vf_n32 (FP.fsub a b) ∧ kk L (.float (FP.fsub a b) :: st) S cs sl) := rfl
theorem x_fmul {a b : UInt32} : wp1 G Γ R K E kk (pc, .fmul, x, y, z, w) L (.float b :: .float a :: st) S cs sl = (vf_n32 (FP.fmul a b) ∧ kk L (.float (FP.fmul a b) :: st) S cs sl) := rfl
theorem x_fdiv {a b : UInt32} : wp1 G Γ R K E kk (pc, .fdiv, x, y, z, w) L (.float b :: .float a :: st) S cs sl = (vf_n32 (FP.fdiv a b) ∧ kk L (.float (FP.fdiv a b) :: st) S cs sl) := rfl
theorem x_dadd {a b : UInt64} : wp1 G Γ R K E kk (pc, .dadd, x, y, z, w) L (.double b :: .double a :: st) S cs sl = (vf_n64 (FP.dadd a b) ∧ kk L (.double (FP.dadd a b) :: st) S cs sl) := rfl
theorem x_dsub {a b : UInt64} : wp1 G Γ R K E kk (pc, .dsub, x, y, z, w) L (.double b :: .double a :: st) S cs sl = (vf_n64 (FP.dsub a b) ∧ kk L (.double (FP.dsub a b) :: st) S cs sl) := rfl
theorem x_dmul {a b : UInt64} : wp1 G Γ R K E kk (pc, .dmul, x, y, z, w) L (.double b :: .double a :: st) S cs sl = (vf_n64 (FP.dmul a b) ∧ kk L (.double (FP.dmul a b) :: st) S cs sl) := rfl
theorem x_ddiv {a b : UInt64} : wp1 G Γ R K E kk (pc, .ddiv, x, y, z, w) L (.double b :: .double a :: st) S cs sl = (vf_n64 (FP.ddiv a b) ∧ kk L (.double (FP.ddiv a b) :: st) S cs sl) := rfl
theorem x_fcmp {a b : UInt32} {op : CmpOp} : wp1 G Γ R K E kk (pc, .fcmp op, x, y, z, w) L (.float b :: .float a :: st) S cs sl = kk L (.int (Op.cmpValue (FP.fcmp a b) op) :: st) S cs sl := tand
theorem x_dcmp {a b : UInt64} {op : CmpOp} : wp1 G Γ R K E kk (pc, .dcmp op, x, y, z, w) L (.double b :: .double a :: st) S cs sl = kk L (.int (Op.cmpValue (FP.dcmp a b) op) :: st) S cs sl := tand
theorem x_dupI {a : Int32} : wp1 G Γ R K E kk (pc, .dup, x, y, z, w) L (.int a :: st) S cs sl = kk L (.int a :: .int a :: st) S cs sl := tand
theorem x_dupR {a : Nat} : wp1 G Γ R K E kk (pc, .dup, x, y, z, w) L (.ref a :: st) S cs sl = kk L (.ref a :: .ref a :: st) S cs sl := tand
theorem x_dup2 {a : Nat} {b : Int32} : wp1 G Γ R K E kk (pc, .dup2, x, y, z, w) L (.int b :: .ref a :: st) S cs sl = kk L (.int b :: .ref a :: .int b :: .ref a :: st) S cs sl := tand
theorem x_popI {a : Int32} : wp1 G Γ R K E kk (pc, .pop, x, y, z, w) L (.int a :: st) S cs sl = kk L st S cs sl := tand
theorem x_popR {a : Nat} : wp1 G Γ R K E kk (pc, .pop, x, y, z, w) L (.ref a :: st) S cs sl = kk L st S cs sl := tand
/-- the locals -/
def ldP (kk : List (Option Value) → List Value → SS → Nat → Nat → Prop) (tg : Nat) (L : List (Option Value)) (st : List Value) (S : SS) (cs sl : Nat) : Option (Option Value) → Prop
  | some (some v) => vtag v = tg ∧ kk L (v :: st) S cs sl
  | _ => False
theorem ldP_I {a : Int32} : ldP kk 0 L st S cs sl (some (some (.int a))) = kk L (.int a :: st) S cs sl := by simp [ldP, vtag]
theorem ldP_L {a : Int64} : ldP kk 1 L st S cs sl (some (some (.long a))) = kk L (.long a :: st) S cs sl := by simp [ldP, vtag]
theorem ldP_F {a : UInt32} : ldP kk 2 L st S cs sl (some (some (.float a))) = kk L (.float a :: st) S cs sl := by simp [ldP, vtag]
theorem ldP_D {a : UInt64} : ldP kk 3 L st S cs sl (some (some (.double a))) = kk L (.double a :: st) S cs sl := by simp [ldP, vtag]
theorem ldP_R {a : Nat} : ldP kk 4 L st S cs sl (some (some (.ref a))) = kk L (.ref a :: st) S cs sl := by simp [ldP, vtag]
theorem ldP_N : ldP kk 4 L st S cs sl (some (some .null)) = kk L (.null :: st) S cs sl := by simp [ldP, vtag]
theorem x_iload {k : Nat} : wp1 G Γ R K E kk (pc, .iload k, x, y, z, w) L st S cs sl = ldP kk 0 L st S cs sl L[k]? := rfl
theorem x_iload_n {k : Fin 4} : wp1 G Γ R K E kk (pc, .iload_n k, x, y, z, w) L st S cs sl = ldP kk 0 L st S cs sl L[k.val]? := rfl
theorem x_lload {k : Nat} : wp1 G Γ R K E kk (pc, .lload k, x, y, z, w) L st S cs sl = ldP kk 1 L st S cs sl L[k]? := rfl
theorem x_lload_n {k : Fin 4} : wp1 G Γ R K E kk (pc, .lload_n k, x, y, z, w) L st S cs sl = ldP kk 1 L st S cs sl L[k.val]? := rfl
theorem x_fload {k : Nat} : wp1 G Γ R K E kk (pc, .fload k, x, y, z, w) L st S cs sl = ldP kk 2 L st S cs sl L[k]? := rfl
theorem x_fload_n {k : Fin 4} : wp1 G Γ R K E kk (pc, .fload_n k, x, y, z, w) L st S cs sl = ldP kk 2 L st S cs sl L[k.val]? := rfl
theorem x_dload {k : Nat} : wp1 G Γ R K E kk (pc, .dload k, x, y, z, w) L st S cs sl = ldP kk 3 L st S cs sl L[k]? := rfl
theorem x_dload_n {k : Fin 4} : wp1 G Γ R K E kk (pc, .dload_n k, x, y, z, w) L st S cs sl = ldP kk 3 L st S cs sl L[k.val]? := rfl
theorem x_aload {k : Nat} : wp1 G Γ R K E kk (pc, .aload k, x, y, z, w) L st S cs sl = ldP kk 4 L st S cs sl L[k]? := rfl
theorem x_aload_n {k : Fin 4} : wp1 G Γ R K E kk (pc, .aload_n k, x, y, z, w) L st S cs sl = ldP kk 4 L st S cs sl L[k.val]? := rfl
theorem tst {a b : Nat} (h : a = b) {P : Prop} : (a = b ∧ P) = P := by simp [h]
theorem x_istore {k : Nat} {v : Int32} : wp1 G Γ R K E kk (pc, .istore k, x, y, z, w) L (.int v :: st) S cs sl = (k + 1 ≤ L.length ∧ kk (stL L k (.int v)) st S cs sl) := tst rfl
theorem x_istore_n {k : Fin 4} {v : Int32} : wp1 G Γ R K E kk (pc, .istore_n k, x, y, z, w) L (.int v :: st) S cs sl = (k.val + 1 ≤ L.length ∧ kk (stL L k.val (.int v)) st S cs sl) := tst rfl
theorem x_lstore {k : Nat} {v : Int64} : wp1 G Γ R K E kk (pc, .lstore k, x, y, z, w) L (.long v :: st) S cs sl = (k + 2 ≤ L.length ∧ kk (stL L k (.long v)) st S cs sl) := tst rfl
theorem x_lstore_n {k : Fin 4} {v : Int64} : wp1 G Γ R K E kk (pc, .lstore_n k, x, y, z, w) L (.long v :: st) S cs sl = (k.val + 2 ≤ L.length ∧ kk (stL L k.val (.long v)) st S cs sl) := tst rfl
theorem x_fstore {k : Nat} {v : UInt32} : wp1 G Γ R K E kk (pc, .fstore k, x, y, z, w) L (.float v :: st) S cs sl = (k + 1 ≤ L.length ∧ kk (stL L k (.float v)) st S cs sl) := tst rfl
theorem x_fstore_n {k : Fin 4} {v : UInt32} : wp1 G Γ R K E kk (pc, .fstore_n k, x, y, z, w) L (.float v :: st) S cs sl = (k.val + 1 ≤ L.length ∧ kk (stL L k.val (.float v)) st S cs sl) := tst rfl
theorem x_dstore {k : Nat} {v : UInt64} : wp1 G Γ R K E kk (pc, .dstore k, x, y, z, w) L (.double v :: st) S cs sl = (k + 2 ≤ L.length ∧ kk (stL L k (.double v)) st S cs sl) := tst rfl
theorem x_dstore_n {k : Fin 4} {v : UInt64} : wp1 G Γ R K E kk (pc, .dstore_n k, x, y, z, w) L (.double v :: st) S cs sl = (k.val + 2 ≤ L.length ∧ kk (stL L k.val (.double v)) st S cs sl) := tst rfl
theorem x_astore {k : Nat} {v : Nat} : wp1 G Γ R K E kk (pc, .astore k, x, y, z, w) L (.ref v :: st) S cs sl = (k + 1 ≤ L.length ∧ kk (stL L k (.ref v)) st S cs sl) := tst rfl
theorem x_astore_n {k : Fin 4} {v : Nat} : wp1 G Γ R K E kk (pc, .astore_n k, x, y, z, w) L (.ref v :: st) S cs sl = (k.val + 1 ≤ L.length ∧ kk (stL L k.val (.ref v)) st S cs sl) := tst rfl
theorem x_astoreN {k : Nat} : wp1 G Γ R K E kk (pc, .astore k, x, y, z, w) L (.null :: st) S cs sl = (k + 1 ≤ L.length ∧ kk (stL L k .null) st S cs sl) := tst rfl
theorem x_astore_nN {k : Fin 4} : wp1 G Γ R K E kk (pc, .astore_n k, x, y, z, w) L (.null :: st) S cs sl = (k.val + 1 ≤ L.length ∧ kk (stL L k.val .null) st S cs sl) := tst rfl
/-- the branches -/
theorem x_icmp_eq {o : Int} {a b : Int32} : wp1 G Γ R K E kk (pc, .if_icmp .eq o, x, y, z, w) L (.int b :: .int a :: st) S cs sl = ((a = b → K z L st S cs sl) ∧ (¬ a = b → kk L st S cs sl)) := rfl
theorem x_icmp_ne {o : Int} {a b : Int32} : wp1 G Γ R K E kk (pc, .if_icmp .ne o, x, y, z, w) L (.int b :: .int a :: st) S cs sl = ((¬ a = b → K z L st S cs sl) ∧ (¬ ¬ a = b → kk L st S cs sl)) := rfl
theorem x_icmp_lt {o : Int} {a b : Int32} : wp1 G Γ R K E kk (pc, .if_icmp .lt o, x, y, z, w) L (.int b :: .int a :: st) S cs sl = ((a < b → K z L st S cs sl) ∧ (¬ a < b → kk L st S cs sl)) := rfl
theorem x_icmp_ge {o : Int} {a b : Int32} : wp1 G Γ R K E kk (pc, .if_icmp .ge o, x, y, z, w) L (.int b :: .int a :: st) S cs sl = ((b ≤ a → K z L st S cs sl) ∧ (¬ b ≤ a → kk L st S cs sl)) := rfl
theorem x_icmp_gt {o : Int} {a b : Int32} : wp1 G Γ R K E kk (pc, .if_icmp .gt o, x, y, z, w) L (.int b :: .int a :: st) S cs sl = ((b < a → K z L st S cs sl) ∧ (¬ b < a → kk L st S cs sl)) := rfl
theorem x_icmp_le {o : Int} {a b : Int32} : wp1 G Γ R K E kk (pc, .if_icmp .le o, x, y, z, w) L (.int b :: .int a :: st) S cs sl = ((a ≤ b → K z L st S cs sl) ∧ (¬ a ≤ b → kk L st S cs sl)) := rfl
theorem x_if_eq {o : Int} {a : Int32} : wp1 G Γ R K E kk (pc, .ifCond .eq o, x, y, z, w) L (.int a :: st) S cs sl = ((a = 0 → K z L st S cs sl) ∧ (¬ a = 0 → kk L st S cs sl)) := rfl
theorem x_if_ne {o : Int} {a : Int32} : wp1 G Γ R K E kk (pc, .ifCond .ne o, x, y, z, w) L (.int a :: st) S cs sl = ((¬ a = 0 → K z L st S cs sl) ∧ (¬ ¬ a = 0 → kk L st S cs sl)) := rfl
theorem x_if_lt {o : Int} {a : Int32} : wp1 G Γ R K E kk (pc, .ifCond .lt o, x, y, z, w) L (.int a :: st) S cs sl = ((a < 0 → K z L st S cs sl) ∧ (¬ a < 0 → kk L st S cs sl)) := rfl
theorem x_if_ge {o : Int} {a : Int32} : wp1 G Γ R K E kk (pc, .ifCond .ge o, x, y, z, w) L (.int a :: st) S cs sl = ((0 ≤ a → K z L st S cs sl) ∧ (¬ 0 ≤ a → kk L st S cs sl)) := rfl
theorem x_if_gt {o : Int} {a : Int32} : wp1 G Γ R K E kk (pc, .ifCond .gt o, x, y, z, w) L (.int a :: st) S cs sl = ((0 < a → K z L st S cs sl) ∧ (¬ 0 < a → kk L st S cs sl)) := rfl
theorem x_if_le {o : Int} {a : Int32} : wp1 G Γ R K E kk (pc, .ifCond .le o, x, y, z, w) L (.int a :: st) S cs sl = ((a ≤ 0 → K z L st S cs sl) ∧ (¬ a ≤ 0 → kk L st S cs sl)) := rfl
theorem x_ifnull {o : Int} : wp1 G Γ R K E kk (pc, .ifnull o, x, y, z, w) L (.null :: st) S cs sl = K z L st S cs sl := by show ((True → _) ∧ (¬ True → _)) = _; simp
theorem x_ifnullR {o : Int} {a : Nat} : wp1 G Γ R K E kk (pc, .ifnull o, x, y, z, w) L (.ref a :: st) S cs sl = kk L st S cs sl := by show ((False → _) ∧ (¬ False → _)) = _; simp
theorem x_ifnn {o : Int} : wp1 G Γ R K E kk (pc, .ifnonnull o, x, y, z, w) L (.null :: st) S cs sl = kk L st S cs sl := by show ((False → _) ∧ (¬ False → _)) = _; simp
theorem x_ifnnR {o : Int} {a : Nat} : wp1 G Γ R K E kk (pc, .ifnonnull o, x, y, z, w) L (.ref a :: st) S cs sl = K z L st S cs sl := by show ((True → _) ∧ (¬ True → _)) = _; simp
/-- calls -/
theorem x_call {kc : List Value → SS → Nat → Nat → Prop} (hz : ¬ (z = 4 ∨ z = 5 ∨ z = 6 ∨ z = 7 ∨ z = 8)) : wpC Γ R kc y z w st S cs sl = (match Γ[y]? with
    | some (M, P) => w ≤ st.length ∧ ((st.drop w).map fun v => v.category).sum ≤ 8 ∧ cs + (mR M).cells ≤ R.cells ∧ sl + (mR M).slots ≤ R.slots ∧
        (2 ≤ z → ∃ a, (st.take w).getLast? = some (.ref a) ∧ (10 ≤ z → sK S a = some (z - 10, 0))) ∧
        P (st.take w).reverse S (fun v S' => kc (v.toList ++ st.drop w) S' (cs + (mR M).cells) (sl + (mR M).slots))
    | none => False) := by
  unfold wpC
  split <;> first | (exfalso; omega) | rfl
end XR
