/-! THE ABSTRACT MACHINE: labels for cells; a memory is (I, J, R, N, G): ints, longs, refs by label and place; lengths of made arrays; (zone, three counts, slots used) -/
abbrev hM : Type := (Nat → Nat → Int32) × (Nat → Nat → Int64) × (Nat → Nat → Option Nat) × (Nat → Nat) × (Nat × Nat × Nat × Nat × Nat)
abbrev hSh : Type := Nat ⊕ Nat
abbrev hX : Type := Nat × (Nat → Int32)
def xj : Value := .retAddr 0
def cat2 (v : Value) : Bool := match v with
  | .long _ => true
  | .double _ => true
  | _ => false
def catS : List Value → Nat
  | [] => 0
  | v :: r => (if cat2 v = true then 2 else 1) + catS r
def killP (ls : List Value) (i : Nat) : List Value := match i with
  | 0 => ls
  | k + 1 => match cat2 (ls.getD k xj) with
    | true => ls.set k xj
    | false => ls
def set1 (ls : List Value) (i : Nat) (v : Value) : List Value := (killP ls i).set i v
def set2 (ls : List Value) (i : Nat) (v : Value) : List Value := ((killP ls i).set i v).set (i + 1) xj
def iniA : List Value → List Value
  | [] => []
  | v :: r => match cat2 v with
    | true => v :: xj :: iniA r
    | false => v :: iniA r
def ini (n : Nat) (as : List Value) : List Value := iniA as ++ List.replicate (n - (iniA as).length) xj
def rw2 {α : Type} (f : Nat → Nat → α) (k j : Nat) (v : α) : Nat → Nat → α := fun a b => if a = k then (if b = j then v else f a b) else f a b
def rwR {α : Type} (f : Nat → Nat → α) (k : Nat) (g : Nat → α) : Nat → Nat → α := fun a b => if a = k then g b else f a b
def cI (v : Int) : Int32 := match v with
  | .ofNat n => nI n
  | .negSucc n => -(nI (n + 1))
def cL (v : Int) : Int64 := match v with
  | .ofNat n => lN n
  | .negSucc n => -(lN (n + 1))
def inB (i : Int32) (n : Nat) : Bool := decide (0 ≤ i.toInt) && decide (i.toInt < (n : Int))
def b2i (P : Prop) [Decidable P] : Int32 := if P then 1 else 0
def kd (k : Nat) : hSh := bif Nat.blt k 1000 then (kdL.getD (k / 16) []).getD (k % 16) (.inl 99) else bif Nat.blt k 3000 then (bif Nat.beq (k % 2) 0 then .inl 7 else .inr 0) else bif Nat.blt k 8000 then (bif Nat.beq (k % 4) 0 then .inl 9 else .inr 0) else .inl 99
def slen (k : Nat) : Nat := bif Nat.blt k 1000 then (slL.getD (k / 16) []).getD (k % 16) 0 else 16
def alen (N : Nat → Nat) (k : Nat) : Nat := bif Nat.blt k 3000 then slen k else N k
def fk (ci j : Nat) : Nat := (fkL.getD ci []).getD j 9
def nf (ci : Nat) : Nat := (fkL.getD ci []).length
def rS (k j : Nat) : Option Nat := (((rsL.getD (k / 16) []).getD (k % 16) []).getD j none)
def Rx (R : Nat → Nat → Option Nat) : Nat → Nat → Option Nat := fun k j => match rS k j with
  | some v => some v
  | none => R k j
abbrev hG : Type := Nat × Nat × Nat × Nat × Nat
def nxt (G : hG) : Nat := match G.1 with
  | 0 => G.2.1
  | 1 => 1000 + G.2.2.1
  | _ => 3000 + G.2.2.2.1
/-- which zone new labels come from: behind the two constructors, rules and texts have zones of their own -/
def zs (ci : Nat) (G : hG) : hG := (bif Nat.blt G.2.1 133 then 0 else bif Nat.beq ci 7 then 1 else 2, G.2)
def okn (G : hG) (n : Nat) : Bool := match G.1 with
  | 0 => Nat.ble (G.2.1 + n) 1000
  | 1 => Nat.ble (G.2.2.1 + n) 2000
  | _ => Nat.ble (G.2.2.2.1 + n) 5000
def bmp (G : hG) (n s : Nat) : hG := match G.1 with
  | 0 => (G.1, G.2.1 + n, G.2.2.1, G.2.2.2.1, G.2.2.2.2 + s)
  | 1 => (G.1, G.2.1, G.2.2.1 + n, G.2.2.2.1, G.2.2.2.2 + s)
  | _ => (G.1, G.2.1, G.2.2.1, G.2.2.2.1 + n, G.2.2.2.2 + s)
def nc (G : hG) : Nat := G.2.1 + G.2.2.1 + G.2.2.2.1
def isO (k ci : Nat) : Bool := match kd k with
  | .inl c => Nat.beq c ci
  | .inr _ => false
def isA (k t : Nat) : Bool := match kd k with
  | .inl _ => false
  | .inr c => Nat.beq c t
def cnd (c : Jvm.ClassFile.Cond) (x y : Int32) : Prop := match c with
  | .eq => x = y
  | .ne => ¬ x = y
  | .lt => x < y
  | .ge => y ≤ x
  | .gt => y < x
  | .le => x ≤ y
def cndB (c : Jvm.ClassFile.Cond) (x y : Int32) : Bool := match c with
  | .eq => decide (x = y)
  | .ne => decide (¬ x = y)
  | .lt => decide (x < y)
  | .ge => decide (y ≤ x)
  | .gt => decide (y < x)
  | .le => decide (x ≤ y)
abbrev hC : Type := Nat × List Value × List Value × hM
/-- an int operation of two -/
def iop (i : Instr) (x y : Int32) : Option Int32 := match i with
  | .iadd => some (x + y)
  | .isub => some (x - y)
  | .imul => some (x * y)
  | .iand => some (x &&& y)
  | .ior => some (x ||| y)
  | .ixor => some (x ^^^ y)
  | .ishl => some (x <<< (y &&& 31))
  | .ishr => some (x >>> (y &&& 31))
  | .idiv => if y = 0 then none else some (x / y)
  | .irem => if y = 0 then none else some (x - x / y * y)
  | _ => none
def lop (i : Instr) (x y : Int64) : Option Int64 := match i with
  | .ladd => some (x + y)
  | .lsub => some (x - y)
  | .lmul => some (x * y)
  | .land => some (x &&& y)
  | .lor => some (x ||| y)
  | .ldiv => if y = 0 then none else some (x / y)
  | .lrem => if y = 0 then none else some (x - x / y * y)
  | _ => none
def iop1 (i : Instr) (x : Int32) : Option Value := match i with
  | .ineg => some (.int (-x))
  | .i2b => some (.int x.toInt8.toInt32)
  | .i2s => some (.int x.toInt16.toInt32)
  | .i2c => some (.int (x.toUInt32 % 65536).toInt32)
  | .i2l => some (.long x.toInt64)
  | _ => none
def ato (t : ArrayType) : Option Nat := match t with
  | .int => some 0
  | .long => some 1
  | .boolean => some 2
  | _ => none
/-- new cells: the label's kind (and length) must be what the plan of labels says -/
def mkA (N : Nat → Nat) (G : hG) (t n : Nat) : Option ((Nat → Nat) × hG) := bif okn G 1 && isA (nxt G) t && Nat.ble n 65536 then
    (bif Nat.blt (nxt G) 3000 then (bif Nat.beq (slen (nxt G)) n then some (N, bmp G 1 n) else none) else some (fun k => if k = nxt G then n else N k, bmp G 1 n)) else none
def ldV (ls : List Value) (n : Nat) (t : Nat) : Option Value := match ls.getD n xj with
  | .int x => bif Nat.beq t 0 then some (.int x) else none
  | .long x => bif Nat.beq t 1 then some (.long x) else none
  | .ref a => bif Nat.beq t 2 then some (.ref a) else none
  | .null => bif Nat.beq t 2 then some .null else none
  | _ => none
def pushO (pc : Nat) (ls r : List Value) (M : hM) (v : Option Value) : Option hC := match v with
  | some v => some (pc + 1, ls, v :: r, M)
  | none => none
def strI (X : hX) (n : Nat) (pc : Nat) (ls st : List Value) (M : hM) : Option hC := match n, st with
  | 0, .ref k :: r => bif Nat.ble 9000 k && Nat.blt k 9026 && Nat.beq (k % 2) 0 then some (pc + 1, ls, .ref (k + 1) :: r, M) else none
  | 1, .ref k :: r => bif Nat.ble 9000 k && Nat.blt k 9026 && Nat.beq (k % 2) 0 then some (pc + 1, ls, .int (nI 0) :: r, M) else none
  | 2, .ref k :: r => bif Nat.ble 9000 k && Nat.blt k 9026 && Nat.beq (k % 2) 1 then some (pc + 1, ls, .int (nI (stL.getD ((k - 9000) / 2) []).length) :: r, M) else none
  | 3, .int i :: .ref k :: r => bif Nat.ble 9000 k && Nat.blt k 9026 && Nat.beq (k % 2) 1 && inB i (stL.getD ((k - 9000) / 2) []).length then some (pc + 1, ls, .int ((stL.getD ((k - 9000) / 2) []).getD i.toNatClampNeg 0) :: r, M) else none
  | 4, .ref k :: r => bif Nat.beq k 9900 then some (pc + 1, ls, .int (nI X.1) :: r, M) else none
  | 5, .int i :: .ref k :: r => bif Nat.beq k 9900 && inB i X.1 then some (pc + 1, ls, .int (X.2 i.toNatClampNeg) :: r, M) else none
  | _, _ => none
def acl (t : Nat) : Nat := match t with
  | 3 => 9
  | 4 => 7
  | 5 => 8
  | 6 => 4
  | _ => 77
def mnI {α : Type} [Zero α] (f : Nat → Nat → α) (k n : Nat) : Nat → Nat → α := fun a b => if k ≤ a ∧ a ≤ k + n then 0 else f a b
def mnR (f : Nat → Nat → Option Nat) (k n : Nat) : Nat → Nat → Option Nat := fun a b => if a = k then (if b < n then some (k + 1 + b) else none) else if k ≤ a ∧ a ≤ k + n then none else f a b
/-- the instructions that neither end nor call -/
def sstep (X : hX) (i : Instr) (pc : Nat) (ls st : List Value) (M : hM) : Option hC := match i with
  | .iconst v => some (pc + 1, ls, .int (cI v) :: st, M)
  | .jsr v => some (pc + 1, ls, .long (cL v) :: st, M)
  | .ldc k => bif Nat.blt k 13 then some (pc + 1, ls, .ref (9000 + 2 * k) :: st, M) else none
  | .aconst_null => some (pc + 1, ls, .null :: st, M)
  | .iload n => pushO pc ls st M (ldV ls n 0)
  | .lload n => pushO pc ls st M (ldV ls n 1)
  | .aload n => pushO pc ls st M (ldV ls n 2)
  | .istore n => match st with
    | .int x :: r => bif Nat.blt n ls.length then some (pc + 1, set1 ls n (.int x), r, M) else none
    | _ => none
  | .lstore n => match st with
    | .long x :: r => bif Nat.blt (n + 1) ls.length then some (pc + 1, set2 ls n (.long x), r, M) else none
    | _ => none
  | .astore n => match st with
    | .ref x :: r => bif Nat.blt n ls.length then some (pc + 1, set1 ls n (.ref x), r, M) else none
    | .null :: r => bif Nat.blt n ls.length then some (pc + 1, set1 ls n .null, r, M) else none
    | _ => none
  | .iinc n v => match ls.getD n xj with
    | .int x => bif Nat.blt n ls.length then some (pc + 1, set1 ls n (.int (x + cI v)), st, M) else none
    | _ => none
  | .goto t => some (t.toNat, ls, st, M)
  | .ifCond c t => match st with
    | .int x :: r => some (bif cndB c x 0 then t.toNat else pc + 1, ls, r, M)
    | _ => none
  | .if_icmp c t => match st with
    | .int y :: .int x :: r => some (bif cndB c x y then t.toNat else pc + 1, ls, r, M)
    | _ => none
  | .ifnull t => match st with
    | .null :: r => some (t.toNat, ls, r, M)
    | .ref _ :: r => some (pc + 1, ls, r, M)
    | _ => none
  | .ifnonnull t => match st with
    | .null :: r => some (pc + 1, ls, r, M)
    | .ref _ :: r => some (t.toNat, ls, r, M)
    | _ => none
  | .tableswitch d lo hi ts => match st with
    | .int x :: r => some (if x.toInt < lo ∨ hi < x.toInt then d.toNat else (ts.toList.getD (x.toInt - lo).toNat 0).toNat, ls, r, M)
    | _ => none
  | .dup => match st with
    | .int x :: r => some (pc + 1, ls, .int x :: .int x :: r, M)
    | .ref x :: r => some (pc + 1, ls, .ref x :: .ref x :: r, M)
    | _ => none
  | .dup_x1 => match st with
    | .int x :: .ref y :: r => some (pc + 1, ls, .int x :: .ref y :: .int x :: r, M)
    | .int x :: .int y :: r => some (pc + 1, ls, .int x :: .int y :: .int x :: r, M)
    | _ => none
  | .dup2 => match st with
    | .int x :: .ref y :: r => some (pc + 1, ls, .int x :: .ref y :: .int x :: .ref y :: r, M)
    | _ => none
  | .pop => match st with
    | .int _ :: r => some (pc + 1, ls, r, M)
    | _ => none
  | .pop2 => match st with
    | .long _ :: r => some (pc + 1, ls, r, M)
    | _ => none
  | .lcmp => match st with
    | .long y :: .long x :: r => some (pc + 1, ls, .int (lg_cmp x y) :: r, M)
    | _ => none
  | .l2i => match st with
    | .long x :: r => some (pc + 1, ls, .int x.toInt32 :: r, M)
    | _ => none
  | .lneg => match st with
    | .long x :: r => some (pc + 1, ls, .long (-x) :: r, M)
    | _ => none
  | .lshl => match st with
    | .int y :: .long x :: r => some (pc + 1, ls, .long (x <<< (y.toInt64 &&& 63)) :: r, M)
    | _ => none
  | .lshr => match st with
    | .int y :: .long x :: r => some (pc + 1, ls, .long (x >>> (y.toInt64 &&& 63)) :: r, M)
    | _ => none
  | .getstatic n => bif Nat.beq n 0 then some (pc + 1, ls, .int 1 :: st, M) else some (pc + 1, ls, .retAddr 1 :: st, M)
  | .instanceof n => strI X n pc ls st M
  | .getfield n => match st with
    | .ref k :: r => bif isO k (n / 64) && (Nat.beq (fk (n / 64) (n % 64)) 0 || Nat.beq (fk (n / 64) (n % 64)) 2) then some (pc + 1, ls, .int (M.1 k (n % 64)) :: r, M) else none
    | _ => none
  | .dload n => match st with
    | .ref k :: r => bif isO k (n / 64) && Nat.beq (fk (n / 64) (n % 64)) 1 then some (pc + 1, ls, .long (M.2.1 k (n % 64)) :: r, M) else none
    | _ => none
  | .fload n => match st with
    | .ref k :: r => bif isO k (n / 64) && Nat.beq (fk (n / 64) (n % 64)) 3 then some (pc + 1, ls, va_rf (M.2.2.1 k (n % 64)) :: r, M) else none
    | _ => none
  | .putfield n => match st with
    | .int x :: .ref k :: r => bif isO k (n / 64) && Nat.beq (fk (n / 64) (n % 64)) 0 then some (pc + 1, ls, r, (rw2 M.1 k (n % 64) x, M.2)) else none
    | _ => none
  | .putstatic n => match st with
    | .int x :: .ref k :: r => bif isO k (n / 64) && Nat.beq (fk (n / 64) (n % 64)) 2 && (decide (x = 0) || decide (x = 1)) then some (pc + 1, ls, r, (rw2 M.1 k (n % 64) x, M.2)) else none
    | _ => none
  | .dstore n => match st with
    | .long x :: .ref k :: r => bif isO k (n / 64) && Nat.beq (fk (n / 64) (n % 64)) 1 then some (pc + 1, ls, r, (M.1, rw2 M.2.1 k (n % 64) x, M.2.2)) else none
    | _ => none
  | .fstore n => match st with
    | .ref x :: .ref k :: r => bif isO k (n / 64) && Nat.beq (fk (n / 64) (n % 64)) 3 && Nat.blt x 8000 then some (pc + 1, ls, r, (M.1, M.2.1, rw2 M.2.2.1 k (n % 64) (some x), M.2.2.2)) else none
    | .null :: .ref k :: r => bif isO k (n / 64) && Nat.beq (fk (n / 64) (n % 64)) 3 then some (pc + 1, ls, r, (M.1, M.2.1, rw2 M.2.2.1 k (n % 64) none, M.2.2.2)) else none
    | _ => none
  | .iaload => match st with
    | .int i :: .ref k :: r => bif isA k 0 && inB i (alen M.2.2.2.1 k) then some (pc + 1, ls, .int (M.1 k i.toNatClampNeg) :: r, M) else none
    | _ => none
  | .baload => match st with
    | .int i :: .ref k :: r => bif isA k 2 && inB i (alen M.2.2.2.1 k) then some (pc + 1, ls, .int (M.1 k i.toNatClampNeg) :: r, M) else none
    | _ => none
  | .laload => match st with
    | .int i :: .ref k :: r => bif isA k 1 && inB i (alen M.2.2.2.1 k) then some (pc + 1, ls, .long (M.2.1 k i.toNatClampNeg) :: r, M) else none
    | _ => none
  | .aaload => match st with
    | .int i :: .ref k :: r => match kd k with
      | .inr t => bif Nat.ble 3 t && inB i (alen M.2.2.2.1 k) then some (pc + 1, ls, va_rf (M.2.2.1 k i.toNatClampNeg) :: r, M) else none
      | .inl _ => none
    | _ => none
  | .iastore => match st with
    | .int x :: .int i :: .ref k :: r => bif isA k 0 && inB i (alen M.2.2.2.1 k) then some (pc + 1, ls, r, (rw2 M.1 k i.toNatClampNeg x, M.2)) else none
    | _ => none
  | .bastore => match st with
    | .int x :: .int i :: .ref k :: r => bif isA k 2 && inB i (alen M.2.2.2.1 k) && (decide (x = 0) || decide (x = 1)) then some (pc + 1, ls, r, (rw2 M.1 k i.toNatClampNeg x, M.2)) else none
    | _ => none
  | .lastore => match st with
    | .long x :: .int i :: .ref k :: r => bif isA k 1 && inB i (alen M.2.2.2.1 k) then some (pc + 1, ls, r, (M.1, rw2 M.2.1 k i.toNatClampNeg x, M.2.2)) else none
    | _ => none
  | .aastore => match st with
    | .ref x :: .int i :: .ref k :: r => match kd k, kd x with
      | .inr t, .inl c => bif Nat.beq (acl t) c && inB i (alen M.2.2.2.1 k) && Nat.blt x 8000 then some (pc + 1, ls, r, (M.1, M.2.1, rw2 M.2.2.1 k i.toNatClampNeg (some x), M.2.2.2)) else none
      | _, _ => none
    | _ => none
  | .arraylength => match st with
    | .ref k :: r => match kd k with
      | .inr _ => some (pc + 1, ls, .int (nI (alen M.2.2.2.1 k)) :: r, M)
      | .inl _ => none
    | _ => none
  | .new ci => bif okn (zs ci M.2.2.2.2) 1 && isO (nxt (zs ci M.2.2.2.2)) ci then some (pc + 1, ls, .ref (nxt (zs ci M.2.2.2.2)) :: st, (rwR M.1 (nxt (zs ci M.2.2.2.2)) (fun _ => 0), rwR M.2.1 (nxt (zs ci M.2.2.2.2)) (fun _ => 0), rwR M.2.2.1 (nxt (zs ci M.2.2.2.2)) (fun _ => none), M.2.2.2.1, bmp (zs ci M.2.2.2.2) 1 (nf ci))) else none
  | .newarray t => match ato t, st with
    | some t, .int n :: r => bif inB n 65537 then (match mkA M.2.2.2.1 M.2.2.2.2 t n.toNatClampNeg with
      | some (N', G') => some (pc + 1, ls, .ref (nxt M.2.2.2.2) :: r, (rwR M.1 (nxt M.2.2.2.2) (fun _ => 0), rwR M.2.1 (nxt M.2.2.2.2) (fun _ => 0), rwR M.2.2.1 (nxt M.2.2.2.2) (fun _ => none), N', G'))
      | none => none) else none
    | _, _ => none
  | .anewarray t => match st with
    | .int n :: r => bif inB n 65537 && Nat.ble 3 t && Nat.ble t 6 then (match mkA M.2.2.2.1 M.2.2.2.2 t n.toNatClampNeg with
      | some (N', G') => some (pc + 1, ls, .ref (nxt M.2.2.2.2) :: r, (rwR M.1 (nxt M.2.2.2.2) (fun _ => 0), rwR M.2.1 (nxt M.2.2.2.2) (fun _ => 0), rwR M.2.2.1 (nxt M.2.2.2.2) (fun _ => none), N', G'))
      | none => none) else none
    | _ => none
  | .multianewarray t _ => match st with
    | .int b :: .int a :: r => bif inB a 100 && inB b 10000 && Nat.ble 7 t && Nat.ble t 8 && Nat.beq M.2.2.2.2.1 0 && okn M.2.2.2.2 (a.toNatClampNeg + 1) && isA (nxt M.2.2.2.2) t && Nat.beq (slen (nxt M.2.2.2.2)) a.toNatClampNeg && (List.range a.toNatClampNeg).all (fun i => isA (nxt M.2.2.2.2 + 1 + i) (8 - t) && Nat.beq (slen (nxt M.2.2.2.2 + 1 + i)) b.toNatClampNeg) then
        some (pc + 1, ls, .ref (nxt M.2.2.2.2) :: r, (mnI M.1 (nxt M.2.2.2.2) a.toNatClampNeg, mnI M.2.1 (nxt M.2.2.2.2) a.toNatClampNeg, mnR M.2.2.1 (nxt M.2.2.2.2) a.toNatClampNeg, M.2.2.2.1, bmp M.2.2.2.2 (a.toNatClampNeg + 1) (a.toNatClampNeg + a.toNatClampNeg * b.toNatClampNeg))) else none
    | _ => none
  | .checkcast n => match n, st with
    | 0, .ref _ :: r => bif Nat.ble (catS r) 8 then some (pc + 1, ls, r, M) else none
    | 1, .int n :: .int dp :: .ref k :: .int sp :: .ref k0 :: r => bif isA k 0 && isA k0 0 && inB n 65537 && inB sp 65537 && inB dp 65537 && Nat.ble (sp.toNatClampNeg + n.toNatClampNeg) (alen M.2.2.2.1 k0) && Nat.ble (dp.toNatClampNeg + n.toNatClampNeg) (alen M.2.2.2.1 k) && Nat.ble (catS r) 8 then
        some (pc + 1, ls, r, (rwR M.1 k (va_cpy (M.1 k0) (M.1 k) sp.toNatClampNeg dp.toNatClampNeg n.toNatClampNeg), M.2)) else none
    | 2, .int y :: .int x :: r => bif Nat.ble (catS r) 8 then some (pc + 1, ls, .int (if x < y then y else x) :: r, M) else none
    | 3, .int y :: .int x :: r => bif Nat.ble (catS r) 8 then some (pc + 1, ls, .int (if y < x then y else x) :: r, M) else none
    | 4, .long x :: r => bif Nat.ble (catS r) 8 then some (pc + 1, ls, .long (if 0 < x then x else -x) :: r, M) else none
    | 5, .long y :: .long x :: r => bif Nat.ble (catS r) 8 then some (pc + 1, ls, .long (if y < x then x else y) :: r, M) else none
    | _, _ => none
  | i => match st with
    | .int y :: .int x :: r => (match iop i x y with
      | some z => some (pc + 1, ls, .int z :: r, M)
      | none => pushO pc ls (.int x :: r) M (iop1 i y))
    | .int y :: r => pushO pc ls r M (iop1 i y)
    | .long y :: .long x :: r => (match lop i x y with
      | some z => some (pc + 1, ls, .long z :: r, M)
      | none => none)
    | _ => none
def retV (i : Instr) (st : List Value) : Option (Option Value) := match i, st with
  | .ireturn, [.int x] => some (some (.int x))
  | .ret 0, [.int x] => bif decide (x = 0) || decide (x = 1) then some (some (.int x)) else none
  | .ret 1, [.int x] => bif inB x 65536 then some (some (.int x)) else none
  | .ret 2, [.int x] => bif inB x 128 then some (some (.int x)) else none
  | .lreturn, [.long x] => some (some (.long x))
  | .areturn, [.ref x] => some (some (.ref x))
  | .areturn, [.null] => some (some .null)
  | .return_, [] => some none
  | _, _ => none
/-- a call's receiver is of the method's own class -/
def rcv (y : Nat) (as : List Value) : Bool := match mkinds.getD y 9, as with
  | 0, .ref k :: _ => isO k (mcis.getD y 60) || (Nat.beq (mcis.getD y 60) 50 && Nat.ble 9000 k && Nat.blt k 9026 && Nat.beq (k % 2) 0)
  | 1, _ => true
  | 2, .ref _ :: _ => true
  | _, _ => false
def exec (X : hX) : Nat → Nat → List Instr → Nat → List Value → List Value → hM → Option (Option Value × hM)
  | 0, _, _, _, _, _, _ => none
  | n + 1, d, C, pc, ls, st, M => match C.getD pc .nop with
    | .invokeinterface y k => match d with
      | 0 => none
      | d' + 1 => bif Nat.ble k st.length && Nat.ble (catS (st.drop k)) 8 && Nat.ble (iniA (st.take k).reverse).length (mmax y) && rcv y (st.take k).reverse then (match exec X n d' (mcode y) 0 (ini (mmax y) (st.take k).reverse) [] M with
        | some (v, M1) => exec X n d C (pc + 1) ls (v.toList ++ st.drop k) M1
        | none => none) else none
    | i => match retV i st with
      | some v => some (v, M)
      | none => match sstep X i pc ls st M with
        | some (pc', ls', st', M') => exec X n d C pc' ls' st' M'
        | none => none
