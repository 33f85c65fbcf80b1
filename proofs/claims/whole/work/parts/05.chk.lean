/-! each instruction of the plain code against the bytes -/
def cpFh (own : String) (ix ci j : Nat) : Bool := cpF.any fun e => decide (e.2.1 = ix) && decide (e.1 = own) && decide (e.2.2.1 = ci) && decide (e.2.2.2.1 = j)
def cpMh (own : String) (ix y kd : Nat) : Bool := cpM.any fun e => decide (e.2.1 = ix) && decide (e.1 = own) && decide (e.2.2.1 = y) && decide (e.2.2.2.1 = kd)
def cpSh (own : String) (ix y : Nat) : Bool := cpS.any fun e => decide (e.2.1 = ix) && decide (e.1 = own) && decide (e.2.2.1 = y)
def cpCh (own : String) (ix : Nat) (c : String) : Bool := cpC.any fun e => decide (e.2.1 = ix) && decide (e.1 = own) && decide (e.2.2.1 = c)
def cpKh (own : String) (ix : Nat) (v : Int) : Bool := cpK.any fun e => decide (e.2.1 = ix) && decide (e.1 = own) && decide (e.2.2.1 = v)
def cpLh (own : String) (ix : Nat) (v : Int) : Bool := cpL.any fun e => decide (e.2.1 = ix) && decide (e.1 = own) && decide (e.2.2.1 = v)
def cnm (ci : Nat) : String := (vwCl.getD ci ("", fun _ => ("", "", "", false), 0)).1
def ctb (ci : Nat) : u_T := (vwCl.getD ci ("", fun _ => ("", "", "", false), 0)).2.1
def atyL : List FieldType := [.int, .long, .boolean, .object "HowHigh$Text", .object "HowHigh$Rule", .object "HowHigh$Sheet", .object "HowHigh$Plan", .array .long, .array .int]
def aty (t : Nat) : FieldType := atyL.getD t .int
theorem cpF_ok : cpF.all (fun e => decide (tbW e.2.2.2.2 = some (.fieldLink e.1 e.2.1 (ctb e.2.2.1 e.2.2.2.1).1 (ctb e.2.2.1 e.2.2.2.1).2.1 (ctb e.2.2.1 e.2.2.2.1).2.2.1)) && decide (e.2.2.1 < 12) && decide (e.2.2.2.1 < nf e.2.2.1)) = true := by decide +kernel
theorem cpM_ok : cpM.all (fun e => decide (tbW e.2.2.2.2 = some (match e.2.2.2.1 with | 0 => .methodLink e.1 e.2.1 (mnm e.2.2.1) | _ => .methodLinkNest e.1 e.2.1 (mnm e.2.2.1) "HowHigh")) && decide (e.2.2.2.1 ≤ 1) && decide (e.2.2.1 < 286) && decide (0 < e.2.2.1)) = true := by decide +kernel
def spN (k : Nat) : MethodName := match k with
  | 0 => ⟨"java/lang/Object", "<init>", "()V"⟩
  | 1 => ⟨"java/lang/System", "arraycopy", "(Ljava/lang/Object;ILjava/lang/Object;II)V"⟩
  | 2 => ⟨"java/lang/Math", "max", "(II)I"⟩
  | 3 => ⟨"java/lang/Math", "min", "(II)I"⟩
  | 4 => ⟨"java/lang/Math", "abs", "(J)J"⟩
  | _ => ⟨"java/lang/Math", "max", "(JJ)J"⟩
theorem cpS_ok : cpS.all (fun e => decide (tbW e.2.2.2 = some (.methodLink e.1 e.2.1 (spN e.2.2.1)))) = true := by decide +kernel
theorem cpC_ok : cpC.all (fun e => decide (tbW e.2.2.2 = some (.classLink e.1 e.2.1 e.2.2.1))) = true := by decide +kernel
theorem cpK_ok : cpK.all (fun e => decide (tbW e.2.2.2 = some (.constant e.1 e.2.1 (cI e.2.2.1)))) = true := by decide +kernel
theorem cpL_ok : cpL.all (fun e => decide (tbW e.2.2.2 = some (.constantLong e.1 e.2.1 (cL e.2.2.1)))) = true := by decide +kernel
def lw_good : List Cond := lw_tbl.filter goodWord
theorem good_mem {w : Cond} (h : w ∈ lw_tbl) (hg : goodWord w = true) : w ∈ lw_good := List.mem_filter.mpr ⟨h, hg⟩
def mtgt (ps : List Nat) (pc : Nat) (off t : Int) : Bool := decide ((pc : Int) + off = ((ps.getD t.toNat 0 : Nat) : Int)) && decide (t.toNat < ps.length)
/-- the real instruction r (of length len, at pc, place i of ps) is what the plain one says -/
def lnk (own : String) (ps : List Nat) (i pc len : Nat) (r ir : Instr) : Bool :=
  let nx := decide (ps.getD (i + 1) 0 = pc + len) && decide (i + 1 < ps.length)
  match ir with
  | .nop => true
  | .iconst v => nx && (match r with
    | .iconst n => decide (len = 1) && decide (Int32.ofInt n = cI v)
    | .bipush n => decide (len = 2) && decide ((Int8.ofInt n).toInt32 = cI v)
    | .sipush n => decide (len = 3) && decide ((Int16.ofInt n).toInt32 = cI v)
    | .ldc k => decide (len = 2) && cpKh own k v
    | .ldc_w k => decide (len = 3) && cpKh own k v
    | _ => false)
  | .jsr v => nx && (match r with
    | .lconst n => decide (len = 1) && decide (Int64.ofNat n.val = cL v)
    | .ldc2_w k => decide (len = 3) && cpLh own k v
    | _ => false)
  | .ldc k => nx && (match r with
    | .ldc x => decide (len = 2) && decide ((stO.getD k ("", 0, "")).1 = own) && decide ((stO.getD k ("", 0, "")).2.1 = x)
    | _ => false)
  | .iload n => nx && (match r with
    | .iload m => decide (len = 2) && decide (m = n)
    | .iload_n m => decide (len = 1) && decide (m.val = n)
    | _ => false)
  | .lload n => nx && (match r with
    | .lload m => decide (len = 2) && decide (m = n)
    | .lload_n m => decide (len = 1) && decide (m.val = n)
    | _ => false)
  | .aload n => nx && (match r with
    | .aload m => decide (len = 2) && decide (m = n)
    | .aload_n m => decide (len = 1) && decide (m.val = n)
    | _ => false)
  | .istore n => nx && (match r with
    | .istore m => decide (len = 2) && decide (m = n)
    | .istore_n m => decide (len = 1) && decide (m.val = n)
    | _ => false)
  | .lstore n => nx && (match r with
    | .lstore m => decide (len = 2) && decide (m = n)
    | .lstore_n m => decide (len = 1) && decide (m.val = n)
    | _ => false)
  | .astore n => nx && (match r with
    | .astore m => decide (len = 2) && decide (m = n)
    | .astore_n m => decide (len = 1) && decide (m.val = n)
    | _ => false)
  | .iinc n v => nx && (match r with
    | .iinc m k => decide (len = 3) && decide (m = n) && decide (Int32.ofInt k = cI v)
    | _ => false)
  | .goto t => match r with
    | .goto off => decide (len = 3) && mtgt ps pc off t
    | _ => false
  | .ifCond c t => nx && (match r with
    | .ifCond c' off => decide (len = 3) && decide (c' = c) && mtgt ps pc off t
    | _ => false)
  | .if_icmp c t => nx && (match r with
    | .if_icmp c' off => decide (len = 3) && decide (c' = c) && mtgt ps pc off t
    | _ => false)
  | .ifnull t => nx && (match r with
    | .ifnull off => decide (len = 3) && mtgt ps pc off t
    | _ => false)
  | .ifnonnull t => nx && (match r with
    | .ifnonnull off => decide (len = 3) && mtgt ps pc off t
    | _ => false)
  | .tableswitch d lo hi ts => match r with
    | .tableswitch d' lo' hi' ts' => decide (lo' = lo) && decide (hi' = hi) && mtgt ps pc d' d && decide (ts'.toList.length = (hi - lo + 1).toNat) && decide (ts.toList.length = (hi - lo + 1).toNat) && (List.range (hi - lo + 1).toNat).all (fun j => mtgt ps pc (ts'.toList.getD j 0) (ts.toList.getD j 0))
    | _ => false
  | .getstatic n => nx && (match r with
    | .getstatic x => decide (len = 3) && ((decide (n = 0) && decide (own = "java/lang/String") && decide (x = 38)) || (decide (n = 1) && decide (own = "java/lang/String") && decide (x = 1053)))
    | _ => false)
  | .instanceof n => nx && (match r with
    | .getfield x => decide (len = 3) && decide (own = "java/lang/String") && ((decide (n = 0) && decide (x = 9)) || (decide (n = 1) && decide (x = 15)))
    | .arraylength => decide (len = 1) && (decide (n = 2) || decide (n = 4))
    | .baload => decide (len = 1) && decide (n = 3)
    | .iaload => decide (len = 1) && decide (n = 5)
    | _ => false)
  | .getfield n => nx && (match r with
    | .getfield x => decide (len = 3) && cpFh own x (n / 64) (n % 64)
    | _ => false)
  | .dload n => nx && (match r with
    | .getfield x => decide (len = 3) && cpFh own x (n / 64) (n % 64)
    | _ => false)
  | .fload n => nx && (match r with
    | .getfield x => decide (len = 3) && cpFh own x (n / 64) (n % 64)
    | _ => false)
  | .putfield n => nx && (match r with
    | .putfield x => decide (len = 3) && cpFh own x (n / 64) (n % 64)
    | _ => false)
  | .putstatic n => nx && (match r with
    | .putfield x => decide (len = 3) && cpFh own x (n / 64) (n % 64)
    | _ => false)
  | .dstore n => nx && (match r with
    | .putfield x => decide (len = 3) && cpFh own x (n / 64) (n % 64)
    | _ => false)
  | .fstore n => nx && (match r with
    | .putfield x => decide (len = 3) && cpFh own x (n / 64) (n % 64)
    | _ => false)
  | .new ci => nx && (match r with
    | .new x => decide (len = 3) && cpCh own x (cnm ci) && decide (ci < 12)
    | _ => false)
  | .newarray t => nx && (match r with
    | .newarray t' => decide (len = 2) && decide (t' = t)
    | _ => false)
  | .anewarray t => nx && (match r with
    | .anewarray x => decide (len = 3) && (List.range 7).any (fun u => decide (t = u) && (match aty u with
      | .object c => cpCh own x c
      | _ => false))
    | _ => false)
  | .multianewarray t _ => nx && (match r with
    | .multianewarray x d => decide (len = 4) && decide (d = 2) && ((decide (t = 7) && cpCh own x "[[J") || (decide (t = 8) && cpCh own x "[[I"))
    | _ => false)
  | .checkcast n => nx && (match r with
    | .invokespecial x => decide (len = 3) && decide (n = 0) && cpSh own x 0
    | .invokestatic x => decide (len = 3) && decide (1 ≤ n) && decide (n ≤ 5) && cpSh own x n
    | _ => false)
  | .invokeinterface y n => nx && decide (n = mnars.getD y 9) && decide (y < 286) && decide (0 < y) && (match r with
    | .invokevirtual x => decide (len = 3) && decide (mkinds.getD y 9 = 0) && cpMh own x y 0
    | .invokestatic x => decide (len = 3) && decide (mkinds.getD y 9 = 1) && cpMh own x y 0
    | .invokespecial x => decide (len = 3) && decide (mkinds.getD y 9 = 2) && (cpMh own x y 0 || cpMh own x y 1)
    | _ => false)
  | .ret n => match r with
    | .ireturn => decide (len = 1) && decide (n ≤ 2)
    | _ => false
  | .ireturn => decide (r = .ireturn) && decide (len = 1)
  | .lreturn => decide (r = .lreturn) && decide (len = 1)
  | .areturn => decide (r = .areturn) && decide (len = 1)
  | .return_ => decide (r = .return_) && decide (len = 1)
  | ir => nx && decide (r = ir) && decide (len = 1)
def retOk (y : Nat) (ir : Instr) : Bool := match ir with
  | .ret n => (match n, mret y with
    | 0, some .boolean => true
    | 1, some .char => true
    | 2, some .byte => true
    | _, _ => false)
  | .ireturn => decide (mret y = some .int)
  | .lreturn => decide (mret y = some .long)
  | .areturn => (match mret y with
    | some (.object _) => true
    | some (.array _) => true
    | _ => false)
  | .return_ => decide (mret y = none)
  | _ => true
/-- final fields are put in their own class's constructor alone -/
def finOk (y : Nat) (ir : Instr) : Bool := match ir with
  | .putfield n => !(ctb (n / 64) (n % 64)).2.2.2 || (decide ((mnm y).name = "<init>") && decide ((mnm y).cls = (ctb (n / 64) (n % 64)).1))
  | .putstatic n => !(ctb (n / 64) (n % 64)).2.2.2 || (decide ((mnm y).name = "<init>") && decide ((mnm y).cls = (ctb (n / 64) (n % 64)).1))
  | .dstore n => !(ctb (n / 64) (n % 64)).2.2.2 || (decide ((mnm y).name = "<init>") && decide ((mnm y).cls = (ctb (n / 64) (n % 64)).1))
  | .fstore n => !(ctb (n / 64) (n % 64)).2.2.2 || (decide ((mnm y).name = "<init>") && decide ((mnm y).cls = (ctb (n / 64) (n % 64)).1))
  | _ => true
def chkI (y i : Nat) : Bool := match decode (mbytes y) (pcA y i) with
  | .ok (r, len) => lnk (mnm y).cls (mpcs y) i (pcA y i) len r ((mcode y).getD i .nop) && retOk y ((mcode y).getD i .nop) && finOk y ((mcode y).getD i .nop)
  | .error _ => false
def chkM (y : Nat) : Bool := (List.range (mpcs y).length).all (chkI y) && decide ((mpcs y).length = (mcode y).length) && decide (pcA y 0 = 0)
def mwok (y : Nat) : Bool :=
  let q := mws.getD y ((0, 0), (0, 0), (0, 0), (0, 0))
  decide (tbW q.2.1 = some (.initialized (mnm y).cls)) && decide (plainName (mnm y).cls = true)
    && decide ((mnm y).cls ≠ "java/lang/invoke/MethodHandle" ∧ (mnm y).cls ≠ "java/lang/invoke/VarHandle") && decide (mmax y ≤ 41)
    && (match mkinds.getD y 9 with
      | 0 => decide (tbW q.2.2.1 = some (.instanceMethod (mnm y))) && decide (tbW q.2.2.2 = some (.selects (mnm y).cls (mnm y) (mnm y))) && decide ((parseMethodDescriptor (mnm y).desc).map (fun d => d.parameters.length + 1) = some (mnars.getD y 9))
      | 1 => decide (tbW q.2.2.1 = some (.static (mnm y))) && decide ((parseMethodDescriptor (mnm y).desc).map (fun d => d.parameters.length) = some (mnars.getD y 9))
      | 2 => decide (tbW q.2.2.1 = some (.instanceMethod (mnm y))) && decide ((mnm y).name = "<init>") && decide (mret y = none) && decide ((parseMethodDescriptor (mnm y).desc).map (fun d => d.parameters.length + 1) = some (mnars.getD y 9))
      | _ => false)
abbrev mwC (y : Nat) : Prop := tbW (mws.getD y ((0, 0), (0, 0), (0, 0), (0, 0))).1 = some (.code (mnm y) (mbytes y) (mmax y) (mret y))
