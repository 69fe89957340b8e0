/-! what a stretch of code asks, computed; and that the machine does it -/
/-- pc, instruction, and four numbers that tell what it links -/
abbrev Ins : Type := Nat × Instr × Nat × Nat × Nat × Nat
abbrev PT : Type := List Value → SS → (Option Value → SS → Prop) → Prop
abbrev KT : Type := Nat → List (Option Value) → List Value → SS → Nat → Nat → Prop
abbrev ET : Type := Instr → Option Value → SS → Nat → Nat → Prop
/-- calls: of kinds 0 static, 1 static of a nest mate, 2 constructor, 3 constructor of a nest mate, 4 rows of whole numbers copied, 5 of floats, 6 and 7 bits, 8 Object's constructor, 10.. of an object of that kind -/
def wpC (Γ : List (MI × PT)) (R : Room) (kk : List Value → SS → Nat → Nat → Prop) (y z w : Nat) (st : List Value) (S : SS) (cs sl : Nat) : Prop := match z with
  | 4 => (match st with | .int n :: .int dp :: .ref a :: .int sp :: .ref a0 :: st => ∃ n0 n1, sK S a0 = some (8, n0) ∧ sK S a = some (8, n1) ∧ ¬ sp < 0 ∧ ¬ dp < 0 ∧ ¬ n < 0 ∧ sp.toNatClampNeg + n.toNatClampNeg ≤ n0 ∧ dp.toNatClampNeg + n.toNatClampNeg ≤ n1 ∧ (st.map fun v => v.category).sum ≤ 8 ∧ kk st (stIA S a (va_cpy (sI S a0) (sI S a) sp.toNatClampNeg dp.toNatClampNeg n.toNatClampNeg)) cs sl | _ => False)
  | 5 => (match st with | .int n :: .int dp :: .ref a :: .int sp :: .ref a0 :: st => ∃ n0 n1, sK S a0 = some (9, n0) ∧ sK S a = some (9, n1) ∧ ¬ sp < 0 ∧ ¬ dp < 0 ∧ ¬ n < 0 ∧ sp.toNatClampNeg + n.toNatClampNeg ≤ n0 ∧ dp.toNatClampNeg + n.toNatClampNeg ≤ n1 ∧ (st.map fun v => v.category).sum ≤ 8 ∧ kk st (stFA S a (va_cpy (sF S a0) (sF S a) sp.toNatClampNeg dp.toNatClampNeg n.toNatClampNeg)) cs sl | _ => False)
  | 8 => (match st with | .ref _ :: st => (st.map fun v => v.category).sum ≤ 8 ∧ kk st S cs sl | _ => False)
  | z => (match Γ[y]? with
    | some (M, P) => w ≤ st.length ∧ ((st.drop w).map fun v => v.category).sum ≤ 8 ∧ cs + (mR M).cells ≤ R.cells ∧ sl + (mR M).slots ≤ R.slots ∧
        (2 ≤ z → ∃ a, (st.take w).getLast? = some (.ref a) ∧ (10 ≤ z → sK S a = some (z - 10, 0))) ∧
        P (st.take w).reverse S (fun v S' => kk (v.toList ++ st.drop w) S' (cs + (mR M).cells) (sl + (mR M).slots))
    | none => False)
/-- what needs only the stack, the locals, or is a branch -/
def wpO (K : KT) (kk : List (Option Value) → List Value → Prop) (i : Instr) (x y z : Nat) (L : List (Option Value)) (st : List Value) (S : SS) (cs sl : Nat) : Prop := match pst i x y st with
  | some (P, st') => P ∧ kk L st'
  | none => match ldI i with
    | some (k, tg) => (match L[k]? with | some (some v) => vtag v = tg ∧ kk L (v :: st) | _ => False)
    | none => match sdI i with
      | some (k, tg) => (match st with | v :: st => vtag v = tg ∧ k + v.category ≤ L.length ∧ kk (stL L k v) st | _ => False)
      | none => match brI i st with
        | some (P, _, st') => (P → K z L st' S cs sl) ∧ (¬ P → kk L st')
        | none => False
def wp1 (G : Gx) (Γ : List (MI × PT)) (R : Room) (K : KT) (E : ET) (kk : List (Option Value) → List Value → SS → Nat → Nat → Prop) (q : Ins) (L : List (Option Value)) (st : List Value) (S : SS) (cs sl : Nat) : Prop := match q with
  | (pc, i, x, y, z, w) => match i with
    | .nop => K pc L st S cs sl
    | .goto _ => K z L st S cs sl
    | .tableswitch d lo hi offs => (match st with | .int v :: st => tblW (fun t => K t L st S cs sl) v pc lo offs.toList ∧ (v.toInt < lo ∨ hi < v.toInt → K ((pc : Int) + d).toNat L st S cs sl) | _ => False)
    | .iinc k _ => (match L[k]? with | some (some (.int a)) => kk (stL L k (.int (a + kI y x))) st S cs sl | _ => False)
    | .ldc _ => kk L (ldcV x y :: st) S cs sl
    | .ldc2_w _ => kk L (ldcV x y :: st) S cs sl
    | .getfield _ => (match st with | .ref a :: st => sK S a = some (x, 0) ∧ (match isRefTy (fty x y) with | true => ∃ r, sR S a y = some r ∧ kk L (.ref r :: st) S cs sl | false => kk L (.int (sI S a y) :: st) S cs sl) | _ => False)
    | .putfield _ => (match st with
      | .int v :: .ref a :: st => sK S a = some (x, 0) ∧ isRefTy (fty x y) = false ∧ fitI (fty x y) v ∧ kk L st (stI S a y v) cs sl
      | .ref r :: .ref a :: st => sK S a = some (x, 0) ∧ isRefTy (fty x y) = true ∧ kk L st (stR S a y (some r)) cs sl
      | _ => False)
    | .iaload => (match st with | .int j :: .ref a :: st => ∃ n, sK S a = some (x, n) ∧ vp_in j n ∧ kk L (.int (sI S a j.toNatClampNeg) :: st) S cs sl | _ => False)
    | .faload => (match st with | .int j :: .ref a :: st => ∃ n, sK S a = some (9, n) ∧ vp_in j n ∧ kk L (.float (sF S a j.toNatClampNeg) :: st) S cs sl | _ => False)
    | .baload => (match st with | .int j :: .ref a :: st => ∃ n, sK S a = some (10, n) ∧ vp_in j n ∧ kk L (.int (sI S a j.toNatClampNeg) :: st) S cs sl | _ => False)
    | .caload => (match st with | .int j :: .ref a :: st => ∃ n, sK S a = some (11, n) ∧ vp_in j n ∧ kk L (.int (sI S a j.toNatClampNeg) :: st) S cs sl | _ => False)
    | .aaload => (match st with | .int j :: .ref a :: st => ∃ n r, sK S a = some (x, n) ∧ vp_in j n ∧ sR S a j.toNatClampNeg = some r ∧ kk L (.ref r :: st) S cs sl | _ => False)
    | .iastore => (match st with | .int v :: .int j :: .ref a :: st => ∃ n, sK S a = some (8, n) ∧ vp_in j n ∧ kk L st (stI S a j.toNatClampNeg v) cs sl | _ => False)
    | .fastore => (match st with | .float v :: .int j :: .ref a :: st => ∃ n, sK S a = some (9, n) ∧ vp_in j n ∧ kk L st (stF S a j.toNatClampNeg v) cs sl | _ => False)
    | .bastore => (match st with | .int v :: .int j :: .ref a :: st => ∃ n, sK S a = some (10, n) ∧ vp_in j n ∧ fitI .boolean v ∧ kk L st (stI S a j.toNatClampNeg v) cs sl | _ => False)
    | .castore => (match st with | .int v :: .int j :: .ref a :: st => ∃ n, sK S a = some (11, n) ∧ vp_in j n ∧ fitI .char v ∧ kk L st (stI S a j.toNatClampNeg v) cs sl | _ => False)
    | .aastore => (match st with | .ref r :: .int j :: .ref a :: st => ∃ n, sK S a = some (x, n) ∧ sK S r = some (x - 12, 0) ∧ vp_in j n ∧ kk L st (stR S a j.toNatClampNeg (some r)) cs sl | _ => False)
    | .arraylength => (match st with | .ref a :: st => ∃ n, sK S a = some (x, n) ∧ kk L (.int (nI n) :: st) S cs sl | _ => False)
    | .getstatic _ => kk L (.ref (G.2.2.1 x).1 :: st) S cs sl
    | .new _ => cs + 1 ≤ R.cells ∧ sl + nf x ≤ R.slots ∧ kk L (.ref (sZ S) :: st) (stN S x 0) (cs + 1) (sl + nf x)
    | .newarray _ => (match st with | .int v :: st => ¬ v < 0 ∧ v.toNatClampNeg ≤ 65536 ∧ cs + 1 ≤ R.cells ∧ sl + v.toNatClampNeg ≤ R.slots ∧ kk L (.ref (sZ S) :: st) (stN S x v.toNatClampNeg) (cs + 1) (sl + v.toNatClampNeg) | _ => False)
    | .anewarray _ => (match st with | .int v :: st => ¬ v < 0 ∧ v.toNatClampNeg ≤ 65536 ∧ cs + 1 ≤ R.cells ∧ sl + v.toNatClampNeg ≤ R.slots ∧ kk L (.ref (sZ S) :: st) (stN S x v.toNatClampNeg) (cs + 1) (sl + v.toNatClampNeg) | _ => False)
    | .invokestatic _ => wpC Γ R (kk L) y z w st S cs sl
    | .invokespecial _ => wpC Γ R (kk L) y z w st S cs sl
    | .invokevirtual _ => wpC Γ R (kk L) y z w st S cs sl
    | .return_ => (match st with | [] => E i none S cs sl | _ => False)
    | .ireturn => (match st with | [v] => E i (some v) S cs sl | _ => False)
    | .lreturn => (match st with | [v] => E i (some v) S cs sl | _ => False)
    | .freturn => (match st with | [v] => E i (some v) S cs sl | _ => False)
    | .areturn => (match st with | [v] => E i (some v) S cs sl | _ => False)
    | i => wpO K (fun L st => kk L st S cs sl) i x y z L st S cs sl
def wp (G : Gx) (Γ : List (MI × PT)) (R : Room) (K : KT) (E : ET) : List Ins → List (Option Value) → List Value → SS → Nat → Nat → Prop
  | [] => fun _ _ _ _ _ => False
  | q :: qs => wp1 G Γ R K E (wp G Γ R K E qs) q
def brO : Instr → Option Int
  | .if_icmp _ o => some o | .ifCond _ o => some o | .ifnull o => some o | .ifnonnull o => some o | _ => none
/-- is an instruction what it says, and its words in the tables? -/
def insOK (cc : ByteArray) (own : String) (ini : Bool) (R : Room) (Γ : List MI) (q : Ins) : Bool := match q with
  | (pc, i, x, y, z, w) => match i with
    | .nop => true
    | i => decide (decode cc pc = .ok (i, ilen i x)) && (match i with
      | .goto o => decide ((pc : Int) + o = (z : Int))
      | .tableswitch d lo hi offs => decide (offs.size = (hi - lo + 1).toNat) && decide (0 ≤ (pc : Int) + d) && offs.toList.all (fun o => decide (0 ≤ (pc : Int) + o))
      | .iinc _ n => decide (Int32.ofInt n = kI y x)
      | .ldc idx => wAt z (ldcW own idx x y) && decide (y < 2)
      | .ldc2_w idx => wAt z (ldcW own idx x y) && decide (2 ≤ y)
      | .getfield idx => decide (x < 7) && decide (y < nf x) && wAt z (.fieldLink own idx (clR x) (clT x y).2.1 (clT x y).2.2.1) && decide ((clT x y).1 = clR x)
      | .putfield idx => decide (x < 7) && decide (y < nf x) && wAt z (.fieldLink own idx (clR x) (clT x y).2.1 (clT x y).2.2.1) && decide ((clT x y).1 = clR x) && (!(clT x y).2.2.2 || (ini && decide (clR x = own)))
      | .getstatic idx => decide (x < 2) && decide (lw_tbl[z]? = some (.fieldLinkNest own idx "PlateWriters" (if x = 0 then "LEAST_OF_SETTING" else "MOST_OF_SETTING") "[I" "PlateWriters"))
      | .new idx => decide (x < 7) && wAt z (.classLink own idx (clR x)) && wAt y (.instantiable (clR x) (nf x)) && wAt w (.initialized (clR x))
      | .newarray at_ => decide (8 ≤ x) && decide (x < 12) && decide (at_ = atyp x) && wAt z (.arrayClass (aty x))
      | .anewarray idx => decide (x = 12 ∨ x = 13) && wAt z (.classLink own idx (clR (x - 12)))
      | .iaload => decide (x = 8 ∨ 14 ≤ x)
      | .aaload => decide (x = 12 ∨ x = 13)
      | .aastore => decide (x = 12 ∨ x = 13)
      | .arraylength => decide (8 ≤ x)
      | .invokestatic idx => (match z with
        | 4 => wAt x (.methodLink own idx arraycopyName) && decide (1 ≤ R.frames ∧ 40 ≤ R.locals)
        | 5 => wAt x (.methodLink own idx arraycopyName) && decide (1 ≤ R.frames ∧ 40 ≤ R.locals)
        | 0 => (match Γ[y]? with | some M => wAt x (.methodLink own idx (mY M)) && decide (mK M = 0 ∧ w = mP M ∧ (mR M).frames + 1 ≤ R.frames ∧ 8 + (mL M + 11) + (mR M).locals ≤ R.locals) | none => false)
        | 1 => (match Γ[y]? with | some M => decide (lw_tbl[x]? = some (.methodLinkNest own idx (mY M) "PlateWriters")) && decide (mK M = 0 ∧ w = mP M ∧ (mR M).frames + 1 ≤ R.frames ∧ 8 + (mL M + 11) + (mR M).locals ≤ R.locals) | none => false)
        | _ => false)
      | .invokespecial idx => (match z with
        | 8 => wAt x (.methodLink own idx Lib.objectInit) && decide (1 ≤ R.frames ∧ 40 ≤ R.locals)
        | 2 => (match Γ[y]? with | some M => wAt x (.methodLink own idx (mY M)) && decide (mK M = 2 ∧ w = mP M + 1 ∧ (mR M).frames + 1 ≤ R.frames ∧ 8 + (mL M + 11) + (mR M).locals ≤ R.locals) | none => false)
        | 3 => (match Γ[y]? with | some M => decide (lw_tbl[x]? = some (.methodLinkNest own idx (mY M) "PlateWriters")) && decide (mK M = 2 ∧ w = mP M + 1 ∧ (mR M).frames + 1 ≤ R.frames ∧ 8 + (mL M + 11) + (mR M).locals ≤ R.locals) | none => false)
        | _ => false)
      | .invokevirtual idx => (match Γ[y]? with | some M => wAt x (.methodLink own idx (mY M)) && decide (10 ≤ z ∧ z - 10 < 7 ∧ (mY M).cls = clR (z - 10) ∧ mK M = 1 ∧ w = mP M + 1 ∧ (mR M).frames + 1 ≤ R.frames ∧ 8 + (mL M + 11) + (mR M).locals ≤ R.locals) | none => false)
      | i => (match brO i with | some o => decide ((pc : Int) + o = (z : Int)) | none => true))
def isEnd : Instr → Bool
  | .nop | .goto _ | .tableswitch _ _ _ _ | .return_ | .ireturn | .lreturn | .freturn | .areturn => true
  | _ => false
def segOK (cc : ByteArray) (own : String) (ini : Bool) (R : Room) (Γ : List MI) : List Ins → Bool
  | [] => true
  | q :: qs => insOK cc own ini R Γ q && (isEnd q.2.1 || (match qs with | [] => true | q2 :: _ => decide (q2.1 = q.1 + ilen q.2.1 q.2.2.1))) && segOK cc own ini R Γ qs
def segPc : List Ins → Nat
  | [] => 0
  | q :: _ => q.1
set_option maxRecDepth 100000 in
theorem natw1 : Cond.native arraycopyName ∈ lw_all ∧ Cond.static arraycopyName ∈ lw_all ∧ Cond.initialized "java/lang/System" ∈ lw_all := by decide +kernel
set_option maxRecDepth 100000 in
theorem natw4 : Cond.instanceMethod Lib.objectInit ∈ lw_all ∧ Cond.code Lib.objectInit ⟨#[0xb1]⟩ 1 none ∈ lw_all := by decide +kernel
