/-! rows over the plain machine: one instruction each -/
/-- what a body knows of its machine -/
def CX (G : Gx) (cc : ByteArray) (nL : Nat) (own : String) (p : Program) (s : State) (m : MethodId) (args : Array Value) (c : Code) : Prop :=
  p.tables.exec = Jvm.exec ∧ c.code = cc ∧ c.maxLocals = nL ∧ s.vm.findClass own = some m.cls ∧ (∀ w ∈ lw_all, w.before args s = true) ∧ gOK G s s.heap ∧ G.2.2.2 ≤ s.heap.size
/-- the machine comes to Q from the frame at pc -/
def VW (G : Gx) (nL : Nat) (p : Program) (l : Launch) (e : Env) (R : Room) (s : State) (m : MethodId) (args : Array Value) (below : List Frame) (meth : Method) (c : Code) (Q : State → Prop) (pc : Nat) (L : List (Option Value)) (st : List Value) (S : SS) (cs sl : Nat) : Prop :=
  ∀ (H : Heap) (locs : List Loc) (ls : Array Slot), Rep G S H → va_S (gA G) s.heap H locs → lvh ls nL L → W p l e R s m args below meth c H locs cs sl Q (F0 m pc ls st)
/-- a whole number out of two natural ones: x, or -x -/
def kI (y x : Nat) : Int32 := match y with
  | 0 => nI x
  | _ => - nI x
/-- lengths of the instructions (of a switch: as told) -/
def ilen (i : Instr) (x : Nat) : Nat := match i with
  | .tableswitch _ _ _ _ => x
  | .bipush _ | .iload _ | .lload _ | .fload _ | .dload _ | .aload _ | .istore _ | .lstore _ | .fstore _ | .dstore _ | .astore _ | .ldc _ | .newarray _ => 2
  | .sipush _ | .iinc _ _ | .if_icmp _ _ | .ifCond _ _ | .ifnull _ | .ifnonnull _ | .goto _ | .getfield _ | .putfield _ | .getstatic _ | .invokevirtual _ | .invokespecial _ | .invokestatic _ | .new _ | .anewarray _ | .ldc2_w _ => 3
  | _ => 1
/-- what the stack alone decides: a condition, and the stack behind it; constants are told as numbers x, y -/
def pst (i : Instr) (x y : Nat) (st : List Value) : Option (Prop × List Value) := match i with
  | .iconst n => if Int32.ofInt n = kI y x then some (True, .int (kI y x) :: st) else none
  | .bipush n => if (Int8.ofInt n).toInt32 = kI y x then some (True, .int (kI y x) :: st) else none
  | .sipush n => if (Int16.ofInt n).toInt32 = kI y x then some (True, .int (kI y x) :: st) else none
  | .lconst n => some (True, .long (lN n) :: st)
  | .fconst n => some (True, .float (if n = 0 then FP.fconst0 else if n = 1 then FP.fconst1 else FP.fconst2) :: st)
  | .dconst n => some (True, .double (if n = 0 then FP.dconst0 else FP.dconst1) :: st)
  | .aconst_null => some (True, .null :: st)
  | .iadd => (match st with | .int b :: .int a :: st => some (True, .int (a + b) :: st) | _ => none)
  | .isub => (match st with | .int b :: .int a :: st => some (True, .int (a - b) :: st) | _ => none)
  | .imul => (match st with | .int b :: .int a :: st => some (True, .int (a * b) :: st) | _ => none)
  | .iand => (match st with | .int b :: .int a :: st => some (True, .int (a &&& b) :: st) | _ => none)
  | .ior => (match st with | .int b :: .int a :: st => some (True, .int (a ||| b) :: st) | _ => none)
  | .idiv => (match st with | .int b :: .int a :: st => some (¬ b = 0, .int (a / b) :: st) | _ => none)
  | .irem => (match st with | .int b :: .int a :: st => some (¬ b = 0, .int (a - a / b * b) :: st) | _ => none)
  | .ineg => (match st with | .int a :: st => some (True, .int (-a) :: st) | _ => none)
  | .ishl => (match st with | .int b :: .int a :: st => some (True, .int (a <<< (b &&& 31)) :: st) | _ => none)
  | .ishr => (match st with | .int b :: .int a :: st => some (True, .int (a >>> (b &&& 31)) :: st) | _ => none)
  | .land => (match st with | .long b :: .long a :: st => some (True, .long (a &&& b) :: st) | _ => none)
  | .ladd => (match st with | .long b :: .long a :: st => some (True, .long (a + b) :: st) | _ => none)
  | .lmul => (match st with | .long b :: .long a :: st => some (True, .long (a * b) :: st) | _ => none)
  | .lor => (match st with | .long b :: .long a :: st => some (True, .long (a ||| b) :: st) | _ => none)
  | .lushr => (match st with | .int b :: .long a :: st => some (True, .long (a.toUInt64 >>> (b.toInt64.toUInt64 &&& Int64.toUInt64 63)).toInt64 :: st) | _ => none)
  | .lshl => (match st with | .int b :: .long a :: st => some (True, .long (a <<< (b.toInt64 &&& 63)) :: st) | _ => none)
  | .lcmp => (match st with | .long b :: .long a :: st => some (True, .int (lg_cmp a b) :: st) | _ => none)
  | .i2l => (match st with | .int a :: st => some (True, .long a.toInt64 :: st) | _ => none)
  | .l2i => (match st with | .long a :: st => some (True, .int a.toInt32 :: st) | _ => none)
  | .i2c => (match st with | .int a :: st => some (True, .int (a.toUInt32 % 65536).toInt32 :: st) | _ => none)
  | .i2f => (match st with | .int a :: st => some (True, .float (FP.i2f a) :: st) | _ => none)
  | .f2d => (match st with | .float a :: st => some (vf_n64 (FP.f2d a), .double (FP.f2d a) :: st) | _ => none)
  | .d2i => (match st with | .double a :: st => some (True, .int (FP.d2i a) :: st) | _ => none)
  | .d2l => (match st with | .double a :: st => some (True, .long (FP.d2l a) :: st) | _ => none)
  | .fadd => (match st with | .float b :: .float a :: st => some (vf_n32 (FP.fadd a b), .float (FP.fadd a b) :: st) | _ => none)
  | .fsub => (match st with | .float b :: .float a :: st => some (vf_n32 (FP.fsub a b), .float (FP.fsub a b) :: st) | _ => none)
  | .fmul => (match st with | .float b :: .float a :: st => some (vf_n32 (FP.fmul a b), .float (FP.fmul a b) :: st) | _ => none)
  | .fdiv => (match st with | .float b :: .float a :: st => some (vf_n32 (FP.fdiv a b), .float (FP.fdiv a b) :: st) | _ => none)
  | .dadd => (match st with | .double b :: .double a :: st => some (vf_n64 (FP.dadd a b), .double (FP.dadd a b) :: st) | _ => none)
  | .dsub => (match st with | .double b :: .double a :: st => some (vf_n64 (FP.dsub a b), .double (FP.dsub a b) :: st) | _ => none)
  | .dmul => (match st with | .double b :: .double a :: st => some (vf_n64 (FP.dmul a b), .double (FP.dmul a b) :: st) | _ => none)
  | .ddiv => (match st with | .double b :: .double a :: st => some (vf_n64 (FP.ddiv a b), .double (FP.ddiv a b) :: st) | _ => none)
  | .fcmp op => (match st with | .float b :: .float a :: st => some (True, .int (Op.cmpValue (FP.fcmp a b) op) :: st) | _ => none)
  | .dcmp op => (match st with | .double b :: .double a :: st => some (True, .int (Op.cmpValue (FP.dcmp a b) op) :: st) | _ => none)
  | .dup => (match st with | .int a :: st => some (True, .int a :: .int a :: st) | .ref a :: st => some (True, .ref a :: .ref a :: st) | _ => none)
  | .dup2 => (match st with | .int b :: .ref a :: st => some (True, .int b :: .ref a :: .int b :: .ref a :: st) | _ => none)
  | .pop => (match st with | .int _ :: st => some (True, st) | .ref _ :: st => some (True, st) | _ => none)
  | _ => none
section PS
variable {G : Gx} {nL : Nat} {p : Program} {l : Launch} {e : Env} {R : Room} {s : State} {m : MethodId} {args : Array Value} {below : List Frame} {meth : Method} {c : Code} {Q : State → Prop} {cc : ByteArray} {pc : Nat} {L : List (Option Value)} {S : SS} {cs sl : Nat}
set_option maxHeartbeats 4000000 in
theorem pst_ok (hx : p.tables.exec = Jvm.exec) (hb : c.code = cc) {i : Instr} {x y : Nat} {st st' : List Value} {P : Prop} (hp : pst i x y st = some (P, st')) (hd : decode cc pc = .ok (i, ilen i x)) (hP : P)
    (k : VW G nL p l e R s m args below meth c Q (pc + ilen i x) L st' S cs sl) : VW G nL p l e R s m args below meth c Q pc L st S cs sl := by
  intro H locs ls h1 h2 h3
  have kk := k H locs ls h1 h2 h3
  cases i <;> simp only [pst] at hp <;> try (cases hp; done)
  case iconst n => split at hp <;> cases hp; rename_i hq; exact lv_iconst hx hb hd hq kk
  case bipush n => split at hp <;> cases hp; rename_i hq; exact lv_bipush hx hb hd hq kk
  case sipush n => split at hp <;> cases hp; rename_i hq; exact lv_sipush hx hb hd hq kk
  case lconst n => cases hp; exact lv_lconst hx hb hd rfl kk
  case fconst n =>
    cases hp
    match n, hd, kk with
    | 0, hd, kk => exact lv_fconst0 hx hb hd kk
    | 1, hd, kk => exact lv_fconst1 hx hb hd kk
    | 2, hd, kk => exact lv_fconst2 hx hb hd kk
  case dconst n =>
    cases hp
    match n, hd, kk with
    | 0, hd, kk => exact lv_dconst0 hx hb hd kk
    | 1, hd, kk => exact lv_dconst1 hx hb hd kk
  case aconst_null => cases hp; exact lv_null hx hb hd kk
  case iadd => split at hp <;> cases hp; exact lv_iadd hx hb hd kk
  case isub => split at hp <;> cases hp; exact lv_isub hx hb hd kk
  case imul => split at hp <;> cases hp; exact lv_imul hx hb hd kk
  case iand => split at hp <;> cases hp; exact lv_iand hx hb hd kk
  case ior => split at hp <;> cases hp; exact lv_ior hx hb hd kk
  case idiv => split at hp <;> cases hp; exact lv_idiv hx hb hd hP kk
  case irem => split at hp <;> cases hp; exact lv_irem hx hb hd hP kk
  case ineg => split at hp <;> cases hp; exact lv_ineg hx hb hd kk
  case ishl => split at hp <;> cases hp; exact lv_ishl hx hb hd kk
  case ishr => split at hp <;> cases hp; exact lv_ishr hx hb hd kk
  case land => split at hp <;> cases hp; exact lv_land hx hb hd kk
  case ladd => split at hp <;> cases hp; exact lv_ladd hx hb hd kk
  case lmul => split at hp <;> cases hp; exact lv_lmul hx hb hd kk
  case lor => split at hp <;> cases hp; exact lv_lor hx hb hd kk
  case lushr => split at hp <;> cases hp; exact lv_lushr hx hb hd rfl kk
  case lshl => split at hp <;> cases hp; exact lv_lshl hx hb hd rfl kk
  case lcmp => split at hp <;> cases hp; exact W.lcmp hx hb hd kk
  case i2l => split at hp <;> cases hp; exact lv_i2l hx hb hd rfl kk
  case l2i => split at hp <;> cases hp; exact lv_l2i hx hb hd rfl kk
  case i2c => split at hp <;> cases hp; exact lv_i2c hx hb hd rfl kk
  case i2f => split at hp <;> cases hp; exact lv_i2f hx hb hd kk
  case f2d => split at hp <;> cases hp; exact lv_f2d hx hb hd hP kk
  case d2i => split at hp <;> cases hp; exact lv_d2i hx hb hd kk
  case d2l => split at hp <;> cases hp; exact lv_d2l hx hb hd kk
  case fadd => split at hp <;> cases hp; exact lv_fadd hx hb hd hP kk
  case fsub => split at hp <;> cases hp; exact lv_fsub hx hb hd hP kk
  case fmul => split at hp <;> cases hp; exact lv_fmul hx hb hd hP kk
  case fdiv => split at hp <;> cases hp; exact lv_fdiv hx hb hd hP kk
  case dadd => split at hp <;> cases hp; exact lv_dadd hx hb hd hP kk
  case dsub => split at hp <;> cases hp; exact lv_dsub hx hb hd hP kk
  case dmul => split at hp <;> cases hp; exact lv_dmul hx hb hd hP kk
  case ddiv => split at hp <;> cases hp; exact lv_ddiv hx hb hd hP kk
  case fcmp op => split at hp <;> cases hp; exact lv_fcmp hx hb hd kk
  case dcmp op => split at hp <;> cases hp; exact lv_dcmp hx hb hd kk
  case dup => split at hp <;> cases hp <;> exact lv_dup hx hb hd rfl kk
  case dup2 => split at hp <;> cases hp; exact lv_dup2_11 hx hb hd rfl rfl kk
  case pop => split at hp <;> cases hp <;> exact lv_pop hx hb hd rfl kk
/-- which kind a value is: whole number, long, float, double, reference -/
def vtag : Value → Nat
  | .int _ => 0 | .long _ => 1 | .float _ => 2 | .double _ => 3 | .null => 4 | .ref _ => 4 | _ => 5
def ldI (i : Instr) : Option (Nat × Nat) := match i with
  | .iload k => some (k, 0) | .iload_n k => some (k.val, 0) | .lload k => some (k, 1) | .lload_n k => some (k.val, 1) | .fload k => some (k, 2) | .fload_n k => some (k.val, 2)
  | .dload k => some (k, 3) | .dload_n k => some (k.val, 3) | .aload k => some (k, 4) | .aload_n k => some (k.val, 4) | _ => none
def sdI (i : Instr) : Option (Nat × Nat) := match i with
  | .istore k => some (k, 0) | .istore_n k => some (k.val, 0) | .lstore k => some (k, 1) | .lstore_n k => some (k.val, 1) | .fstore k => some (k, 2) | .fstore_n k => some (k.val, 2)
  | .dstore k => some (k, 3) | .dstore_n k => some (k.val, 3) | .astore k => some (k, 4) | .astore_n k => some (k.val, 4) | _ => none
set_option maxHeartbeats 4000000 in
theorem ldI_ok (hx : p.tables.exec = Jvm.exec) (hb : c.code = cc) {i : Instr} {x k tg : Nat} {v : Value} {st : List Value} (hp : ldI i = some (k, tg)) (hd : decode cc pc = .ok (i, ilen i x)) (hv : L[k]? = some (some v)) (ht : vtag v = tg)
    (kk : VW G nL p l e R s m args below meth c Q (pc + ilen i x) L (v :: st) S cs sl) : VW G nL p l e R s m args below meth c Q pc L st S cs sl := by
  intro H locs ls h1 h2 h3
  have kk := kk H locs ls h1 h2 h3
  have hl := h3.2.2.2 _ _ hv
  cases i <;> simp only [ldI] at hp <;> try (cases hp; done)
  all_goals (cases hp; cases v <;> simp [vtag] at ht)
  case iload.refl.int => exact lv_iload hx hb hd hl kk
  case iload_n.refl.int => exact lv_iload_n hx hb hd rfl hl kk
  case lload.refl.long => exact lv_lload hx hb hd hl kk
  case lload_n.refl.long => exact lv_lload_n hx hb hd rfl hl kk
  case fload.refl.float => exact lv_fload hx hb hd hl kk
  case fload_n.refl.float => exact lv_fload_n hx hb hd rfl hl kk
  case dload.refl.double => exact lv_dload hx hb hd hl kk
  case dload_n.refl.double => exact lv_dload_n hx hb hd rfl hl kk
  case aload.refl.ref => exact lv_aload hx hb hd hl kk
  case aload_n.refl.ref => exact lv_aload_n hx hb hd rfl hl kk
  case aload.refl.null => exact lv_aloadN hx hb hd hl kk
  case aload_n.refl.null => exact lv_aload_nN hx hb hd rfl hl kk
set_option maxHeartbeats 4000000 in
theorem sdI_ok (hx : p.tables.exec = Jvm.exec) (hb : c.code = cc) {i : Instr} {x k tg : Nat} {v : Value} {st : List Value} (hp : sdI i = some (k, tg)) (hd : decode cc pc = .ok (i, ilen i x)) (ht : vtag v = tg) (hk : k + v.category ≤ L.length)
    (kk : VW G nL p l e R s m args below meth c Q (pc + ilen i x) (stL L k v) st S cs sl) : VW G nL p l e R s m args below meth c Q pc L (v :: st) S cs sl := by
  intro H locs ls h1 h2 h3
  have hl := h3.2.2.1
  have one : v.category = 1 → ∃ ls', storeLocals ls k v = some ls' ∧ lvh ls' nL (stL L k v) := fun hc => h3.store1 (by omega) hc
  have two : v.category = 2 → ∃ ls', storeLocals ls k v = some ls' ∧ lvh ls' nL (stL L k v) := fun hc => h3.store2 (by omega) hc
  have both : ∃ ls', storeLocals ls k v = some ls' ∧ lvh ls' nL (stL L k v) := by
    rcases lv_cat v with h | h
    · exact one h
    · exact two h
  obtain ⟨ls', e', h'⟩ := both
  have kk := kk H locs ls' h1 h2 h'
  intro T hT X
  obtain ⟨t, a, b⟩ := kk T hT X
  refine ⟨t, ?_, b⟩
  cases i <;> simp only [sdI] at hp <;> try (cases hp; done)
  all_goals (cases hp; cases v <;> simp [vtag] at ht)
  all_goals (jvm_step X.here [X.here.top, ↓top_set X.here.top, hx, hb, hd, e', Value.isRef]; exact a)
theorem iinc_ok (hx : p.tables.exec = Jvm.exec) (hb : c.code = cc) {k : Nat} {n : Int} {x v : Int32} {st : List Value} (hd : decode cc pc = .ok (.iinc k n, 3)) (hg : L[k]? = some (some (.int x))) (hv : Int32.ofInt n = v)
    (kk : VW G nL p l e R s m args below meth c Q (pc + 3) (stL L k (.int (x + v))) st S cs sl) : VW G nL p l e R s m args below meth c Q pc L st S cs sl := by
  subst hv
  intro H locs ls h1 h2 h3
  have hl := h3.2.2.1
  have hk : k < L.length := (List.getElem?_eq_some_iff.mp hg).1
  have hg' := h3.2.2.2 _ _ hg
  obtain ⟨ls', e', h'⟩ := h3.store1 (v := .int (x + Int32.ofInt n)) (i := k) (by omega) rfl
  have kk := kk H locs ls' h1 h2 h'
  intro T hT X
  obtain ⟨t, a, b⟩ := kk T hT X
  refine ⟨t, ?_, b⟩
  jvm_step X.here [X.here.top, ↓top_set X.here.top, hx, hb, hd, hg', e']
  exact a
/-- a branch: its condition, how far, the stack behind it -/
def brI (i : Instr) (st : List Value) : Option (Prop × Int × List Value) := match i with
  | .if_icmp .eq o => (match st with | .int b :: .int a :: st => some (a = b, o, st) | _ => none)
  | .if_icmp .ne o => (match st with | .int b :: .int a :: st => some (¬ a = b, o, st) | _ => none)
  | .if_icmp .lt o => (match st with | .int b :: .int a :: st => some (a < b, o, st) | _ => none)
  | .if_icmp .ge o => (match st with | .int b :: .int a :: st => some (b ≤ a, o, st) | _ => none)
  | .if_icmp .gt o => (match st with | .int b :: .int a :: st => some (b < a, o, st) | _ => none)
  | .if_icmp .le o => (match st with | .int b :: .int a :: st => some (a ≤ b, o, st) | _ => none)
  | .ifCond .eq o => (match st with | .int a :: st => some (a = 0, o, st) | _ => none)
  | .ifCond .ne o => (match st with | .int a :: st => some (¬ a = 0, o, st) | _ => none)
  | .ifCond .lt o => (match st with | .int a :: st => some (a < 0, o, st) | _ => none)
  | .ifCond .ge o => (match st with | .int a :: st => some (0 ≤ a, o, st) | _ => none)
  | .ifCond .gt o => (match st with | .int a :: st => some (0 < a, o, st) | _ => none)
  | .ifCond .le o => (match st with | .int a :: st => some (a ≤ 0, o, st) | _ => none)
  | .ifnull o => (match st with | .null :: st => some (True, o, st) | .ref _ :: st => some (False, o, st) | _ => none)
  | .ifnonnull o => (match st with | .null :: st => some (False, o, st) | .ref _ :: st => some (True, o, st) | _ => none)
  | _ => none
set_option maxHeartbeats 4000000 in
theorem brI_ok (hx : p.tables.exec = Jvm.exec) (hb : c.code = cc) {i : Instr} {x : Nat} {P : Prop} {o : Int} {tgt : Nat} {st st' : List Value} (hp : brI i st = some (P, o, st')) (hd : decode cc pc = .ok (i, ilen i x)) (ht : (pc : Int) + o = (tgt : Int))
    (k1 : P → VW G nL p l e R s m args below meth c Q tgt L st' S cs sl) (k2 : ¬ P → VW G nL p l e R s m args below meth c Q (pc + 3) L st' S cs sl) : VW G nL p l e R s m args below meth c Q pc L st S cs sl := by
  intro H locs ls h1 h2 h3
  have k1 := fun q => k1 q H locs ls h1 h2 h3
  have k2 := fun q => k2 q H locs ls h1 h2 h3
  cases i <;> try (simp only [brI] at hp; cases hp; done)
  case if_icmp q o => cases q <;> simp only [brI] at hp <;> split at hp <;> cases hp <;> first | exact lv_icmp_eq hx hb hd ht k1 k2 | exact lv_icmp_ne hx hb hd ht k1 (fun q => k2 (fun z => z q)) | exact lv_icmp_lt hx hb hd ht k1 k2 | exact lv_icmp_ge hx hb hd ht k1 k2 | exact lv_icmp_gt hx hb hd ht k1 k2 | exact lv_icmp_le hx hb hd ht k1 k2
  case ifCond q o => cases q <;> simp only [brI] at hp <;> split at hp <;> cases hp <;> first | exact lv_if_eq hx hb hd ht k1 k2 | exact lv_if_ne hx hb hd ht k1 (fun q => k2 (fun z => z q)) | exact lv_if_lt hx hb hd ht k1 k2 | exact lv_if_ge hx hb hd ht k1 k2 | exact lv_if_gt hx hb hd ht k1 k2 | exact lv_if_le hx hb hd ht k1 k2
  case ifnull o =>
    simp only [brI] at hp
    split at hp <;> cases hp
    · exact lv_ifnullN hx hb hd ht (k1 trivial)
    · exact lv_ifnull hx hb hd (k2 id)
  case ifnonnull o =>
    simp only [brI] at hp
    split at hp <;> cases hp
    · exact lv_ifnonnullN hx hb hd (k2 id)
    · exact lv_ifnonnull hx hb hd ht (k1 trivial)
theorem goto_ok (hx : p.tables.exec = Jvm.exec) (hb : c.code = cc) {o : Int} {tgt : Nat} {st : List Value} (hd : decode cc pc = .ok (.goto o, 3)) (ht : (pc : Int) + o = (tgt : Int))
    (k : VW G nL p l e R s m args below meth c Q tgt L st S cs sl) : VW G nL p l e R s m args below meth c Q pc L st S cs sl :=
  fun H locs ls h1 h2 h3 => lv_goto hx hb hd ht (k H locs ls h1 h2 h3)
/-- a switch: what each of its keys asks -/
def tblW (P : Nat → Prop) (v : Int32) (pc : Nat) : Int → List Int → Prop
  | _, [] => True
  | k, o :: os => (v = Int32.ofInt k → P ((pc : Int) + o).toNat) ∧ tblW P v pc (k + 1) os
theorem tblW_at {P : Nat → Prop} {v : Int32} {pc : Nat} : ∀ {os : List Int} {lo : Int} {j : Nat} {o : Int}, tblW P v pc lo os → os[j]? = some o → v = Int32.ofInt (lo + j) → P ((pc : Int) + o).toNat
  | [], lo, j, o, _, h, _ => by simp at h
  | o1 :: os, lo, 0, o, h, h1, h2 => by
    simp at h1
    subst h1
    exact h.1 (by rw [h2]; simp)
  | o1 :: os, lo, j + 1, o, h, h1, h2 => by
    simp at h1
    exact tblW_at h.2 h1 (by rw [h2]; congr 1; omega)
theorem tbl_ok (hx : p.tables.exec = Jvm.exec) (hb : c.code = cc) {dflt lo hi : Int} {offs : Array Int} {len : Nat} {v : Int32} {st : List Value} (hd : decode cc pc = .ok (.tableswitch dflt lo hi offs, len)) (hs : offs.size = (hi - lo + 1).toNat) (h0 : 0 ≤ (pc : Int) + dflt) (hofs : offs.toList.all (fun o => decide (0 ≤ (pc : Int) + o)) = true)
    (kin : tblW (fun t => VW G nL p l e R s m args below meth c Q t L st S cs sl) v pc lo offs.toList) (kout : v.toInt < lo ∨ hi < v.toInt → VW G nL p l e R s m args below meth c Q ((pc : Int) + dflt).toNat L st S cs sl) : VW G nL p l e R s m args below meth c Q pc L (.int v :: st) S cs sl := by
  intro H locs ls h1 h2 h3
  by_cases hv : v.toInt < lo ∨ hi < v.toInt
  · exact lv_tableOut hx hb hd hv (by omega) (kout hv H locs ls h1 h2 h3)
  · have g1 : ¬ v.toInt < lo := fun q => hv (Or.inl q)
    have g2 : ¬ hi < v.toInt := fun q => hv (Or.inr q)
    have hlt : (v.toInt - lo).toNat < offs.size := by omega
    obtain ⟨o, ho⟩ : ∃ o, offs[(v.toInt - lo).toNat]? = some o := ⟨_, Array.getElem?_eq_getElem hlt⟩
    have hol : offs.toList[(v.toInt - lo).toNat]? = some o := by rw [Array.getElem?_toList]; exact ho
    have hpos : 0 ≤ (pc : Int) + o := by
      have := List.all_eq_true.mp hofs o (List.mem_of_getElem? hol)
      simpa using this
    have hk := tblW_at kin hol (by
      have e : lo + (((v.toInt - lo).toNat : Nat) : Int) = v.toInt := by omega
      rw [e]; simp)
    exact lv_tableIn hx hb hd g1 g2 ho (by omega) (hk H locs ls h1 h2 h3)
/-- constants of the pool: a number and its kind -/
def ldcV (x y : Nat) : Value := match y with
  | 0 => .int (nI x) | 1 => .float (UInt32.ofNat x) | 2 => .long (lN x) | _ => .double (UInt64.ofNat x)
def ldcW (own : String) (idx x y : Nat) : Cond := match y with
  | 0 => .constant own idx (nI x) | 1 => .constantFloat own idx (UInt32.ofNat x) | 2 => .constantLong own idx (lN x) | _ => .constantDouble own idx (UInt64.ofNat x)
theorem ldc_ok (hx : p.tables.exec = Jvm.exec) (hb : c.code = cc) {own : String} (hown : s.vm.findClass own = some m.cls) {idx x y : Nat} {st : List Value} (hw : (ldcW own idx x y).before args s = true) (hy : y < 2) (hd : decode cc pc = .ok (.ldc idx, 2))
    (k : VW G nL p l e R s m args below meth c Q (pc + 2) L (ldcV x y :: st) S cs sl) : VW G nL p l e R s m args below meth c Q pc L st S cs sl := by
  intro H locs ls h1 h2 h3
  have k := k H locs ls h1 h2 h3
  match y, hy, hw, k with
  | 0, _, hw, k => exact lv_ldc hx hb hown hw hd k
  | 1, _, hw, k => exact lv_ldcf hx hb hown hw hd k
theorem ldc2_ok (hx : p.tables.exec = Jvm.exec) (hb : c.code = cc) {own : String} (hown : s.vm.findClass own = some m.cls) {idx x y : Nat} {st : List Value} (hw : (ldcW own idx x y).before args s = true) (hy : 2 ≤ y) (hd : decode cc pc = .ok (.ldc2_w idx, 3))
    (k : VW G nL p l e R s m args below meth c Q (pc + 3) L (ldcV x y :: st) S cs sl) : VW G nL p l e R s m args below meth c Q pc L st S cs sl := by
  intro H locs ls h1 h2 h3
  have k := k H locs ls h1 h2 h3
  match y, hy, hw, k with
  | 2, _, hw, k => exact lv_ldc2 hx hb hown hw hd k
  | y + 3, _, hw, k => exact lv_ldc2d hx hb hown hw hd k
end PS
