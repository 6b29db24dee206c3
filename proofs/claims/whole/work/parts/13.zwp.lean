/-! ===== what must hold ahead of an instruction, by computing; and of a stretch of them ===== -/
def zb2I (st : List Value) (f : Int32 → Int32 → Int32) (K : List Value → Prop) : Prop := match st with
  | .int y :: .int x :: r => K (.int (f x y) :: r)
  | _ => False
def zb2J (st : List Value) (f : Int64 → Int64 → Int64) (K : List Value → Prop) : Prop := match st with
  | .long y :: .long x :: r => K (.long (f x y) :: r)
  | _ => False
def zdI (st : List Value) (f : Int32 → Int32 → Int32) (K : List Value → Prop) : Prop := match st with
  | .int y :: .int x :: r => ¬ y = 0 ∧ K (.int (f x y) :: r)
  | _ => False
def zdJ (st : List Value) (f : Int64 → Int64 → Int64) (K : List Value → Prop) : Prop := match st with
  | .long y :: .long x :: r => ¬ y = 0 ∧ K (.long (f x y) :: r)
  | _ => False
def zldI (o : Option Value) (K : Value → Prop) : Prop := match o with
  | some (.int x) => K (.int x)
  | _ => False
def zldJ (o : Option Value) (K : Value → Prop) : Prop := match o with
  | some (.long x) => K (.long x)
  | _ => False
def zldA (o : Option Value) (K : Value → Prop) : Prop := match o with
  | some (.ref x) => K (.ref x)
  | _ => False
def zcnd (c : ClassFile.Cond) (x y : Int32) : Prop := match c with
  | .eq => x = y
  | .ne => ¬ x = y
  | .lt => x < y
  | .ge => y ≤ x
  | .gt => y < x
  | .le => x ≤ y
def zbr (pc : Nat) (off : Int) (P : Prop) (K : Nat → Prop) : Prop := 0 ≤ (pc : Int) + off ∧ (P → K ((pc : Int) + off).toNat) ∧ (¬ P → K (pc + 3))
def zwp (M : zM) (Q : zQ) (i : Instr) (len k pc : Nat) (L : zLo) (st : List Value) (D : zD) (leaf : Prop) (K : Nat → zLo → List Value → zD → Prop) : Prop := match i with
  | .iadd => len = 1 ∧ zb2I st (fun x y => x + y) (fun r => K (pc + 1) L r D)
  | .isub => len = 1 ∧ zb2I st (fun x y => x - y) (fun r => K (pc + 1) L r D)
  | .imul => len = 1 ∧ zb2I st (fun x y => x * y) (fun r => K (pc + 1) L r D)
  | .iand => len = 1 ∧ zb2I st (fun x y => x &&& y) (fun r => K (pc + 1) L r D)
  | .ior => len = 1 ∧ zb2I st (fun x y => x ||| y) (fun r => K (pc + 1) L r D)
  | .ixor => len = 1 ∧ zb2I st (fun x y => x ^^^ y) (fun r => K (pc + 1) L r D)
  | .ishl => len = 1 ∧ zb2I st (fun x y => x <<< (y &&& 31)) (fun r => K (pc + 1) L r D)
  | .ishr => len = 1 ∧ zb2I st (fun x y => x >>> (y &&& 31)) (fun r => K (pc + 1) L r D)
  | .ladd => len = 1 ∧ zb2J st (fun x y => x + y) (fun r => K (pc + 1) L r D)
  | .lsub => len = 1 ∧ zb2J st (fun x y => x - y) (fun r => K (pc + 1) L r D)
  | .lmul => len = 1 ∧ zb2J st (fun x y => x * y) (fun r => K (pc + 1) L r D)
  | .land => len = 1 ∧ zb2J st (fun x y => x &&& y) (fun r => K (pc + 1) L r D)
  | .lor => len = 1 ∧ zb2J st (fun x y => x ||| y) (fun r => K (pc + 1) L r D)
  | .lxor => len = 1 ∧ zb2J st (fun x y => x ^^^ y) (fun r => K (pc + 1) L r D)
  | .idiv => len = 1 ∧ zdI st (fun x y => x / y) (fun r => K (pc + 1) L r D)
  | .irem => len = 1 ∧ zdI st (fun x y => x - x / y * y) (fun r => K (pc + 1) L r D)
  | .ldiv => len = 1 ∧ zdJ st (fun x y => x / y) (fun r => K (pc + 1) L r D)
  | .lrem => len = 1 ∧ zdJ st (fun x y => x - x / y * y) (fun r => K (pc + 1) L r D)
  | .ineg => len = 1 ∧ (match st with | .int x :: r => K (pc + 1) L (.int (-x) :: r) D | _ => False)
  | .lneg => len = 1 ∧ (match st with | .long x :: r => K (pc + 1) L (.long (-x) :: r) D | _ => False)
  | .i2l => len = 1 ∧ (match st with | .int x :: r => K (pc + 1) L (.long x.toInt64 :: r) D | _ => False)
  | .l2i => len = 1 ∧ (match st with | .long x :: r => K (pc + 1) L (.int x.toInt32 :: r) D | _ => False)
  | .i2b => len = 1 ∧ (match st with | .int x :: r => K (pc + 1) L (.int x.toInt8.toInt32 :: r) D | _ => False)
  | .lshl => len = 1 ∧ (match st with | .int y :: .long x :: r => K (pc + 1) L (.long (x <<< (y.toInt64 &&& 63)) :: r) D | _ => False)
  | .lshr => len = 1 ∧ (match st with | .int y :: .long x :: r => K (pc + 1) L (.long (x >>> (y.toInt64 &&& 63)) :: r) D | _ => False)
  | .lcmp => len = 1 ∧ (match st with | .long y :: .long x :: r => K (pc + 1) L (.int (lg_cmp x y) :: r) D | _ => False)
  | .iconst n => len = 1 ∧ K (pc + 1) L (.int (Int32.ofInt n) :: st) D
  | .bipush n => len = 2 ∧ K (pc + 2) L (.int (Int8.ofInt n).toInt32 :: st) D
  | .sipush n => len = 3 ∧ K (pc + 3) L (.int (Int16.ofInt n).toInt32 :: st) D
  | .lconst n => len = 1 ∧ K (pc + 1) L (.long (Int64.ofNat n) :: st) D
  | .ldc j => len = 2 ∧ (match zcix (zown M) j with | some v => K (pc + 2) L (.int v :: st) D | none => False)
  | .ldc2_w j => len = 3 ∧ (match zclx (zown M) j with | some v => K (pc + 3) L (.long v :: st) D | none => False)
  | .iload_n n => len = 1 ∧ zldI (L n) (fun v => K (pc + 1) L (v :: st) D)
  | .iload j => len = 2 ∧ zldI (L j) (fun v => K (pc + 2) L (v :: st) D)
  | .lload_n n => len = 1 ∧ zldJ (L n) (fun v => K (pc + 1) L (v :: st) D)
  | .lload j => len = 2 ∧ zldJ (L j) (fun v => K (pc + 2) L (v :: st) D)
  | .aload_n n => len = 1 ∧ zldA (L n) (fun v => K (pc + 1) L (v :: st) D)
  | .aload j => len = 2 ∧ zldA (L j) (fun v => K (pc + 2) L (v :: st) D)
  | .istore_n n => len = 1 ∧ (n : Nat) < znL M ∧ (match st with | .int x :: r => K (pc + 1) (zset L n (.int x)) r D | _ => False)
  | .istore j => len = 2 ∧ j < znL M ∧ (match st with | .int x :: r => K (pc + 2) (zset L j (.int x)) r D | _ => False)
  | .lstore_n n => len = 1 ∧ (n : Nat) + 1 < znL M ∧ (match st with | .long x :: r => K (pc + 1) (zset2 L n (.long x)) r D | _ => False)
  | .lstore j => len = 2 ∧ j + 1 < znL M ∧ (match st with | .long x :: r => K (pc + 2) (zset2 L j (.long x)) r D | _ => False)
  | .astore_n n => len = 1 ∧ (n : Nat) < znL M ∧ (match st with | .ref x :: r => K (pc + 1) (zset L n (.ref x)) r D | _ => False)
  | .astore j => len = 2 ∧ j < znL M ∧ (match st with | .ref x :: r => K (pc + 2) (zset L j (.ref x)) r D | _ => False)
  | .iinc j n => len = 3 ∧ (match L j with | some (.int x) => K (pc + 3) (zset L j (.int (x + Int32.ofInt n))) st D | _ => False)
  | .dup => len = 1 ∧ (match st with | v :: r => v.category = 1 ∧ K (pc + 1) L (v :: v :: r) D | _ => False)
  | .dup2 => len = 1 ∧ (match st with | v :: w :: r => v.category = 1 ∧ w.category = 1 ∧ K (pc + 1) L (v :: w :: v :: w :: r) D | _ => False)
  | .ifCond c off => len = 3 ∧ (match st with | .int x :: r => zbr pc off (zcnd c x 0) (fun t => K t L r D) | _ => False)
  | .if_icmp c off => len = 3 ∧ (match st with | .int y :: .int x :: r => zbr pc off (zcnd c x y) (fun t => K t L r D) | _ => False)
  | .goto off => len = 3 ∧ 0 ≤ (pc : Int) + off ∧ K ((pc : Int) + off).toNat L st D
  | .getfield j => len = 3 ∧ (match st with
    | .ref a :: r => (match zfx (zown M) j with
      | some (ci, f, _) => (match zfc a ci f with
        | some 0 => K (pc + 3) L (.int (D.1 a f) :: r) D
        | some 1 => K (pc + 3) L (.long (D.2 a f) :: r) D
        | some (c + 2) => K (pc + 3) L (.ref c :: r) D
        | none => False)
      | none => False)
    | _ => False)
  | .putfield j => len = 3 ∧ (match st with
    | .int x :: .ref a :: r => (match zfx (zown M) j with
      | some (ci, f, t) => t = 0 ∧ zfc a ci f = some 0 ∧ K (pc + 3) L r (zuI D a f x)
      | none => False)
    | .long x :: .ref a :: r => (match zfx (zown M) j with
      | some (ci, f, t) => t = 1 ∧ zfc a ci f = some 1 ∧ K (pc + 3) L r (zuL D a f x)
      | none => False)
    | _ => False)
  | .iaload => len = 1 ∧ (match st with | .int x :: .ref a :: r => (match zac a with | some (0, n) => vp_in x n ∧ K (pc + 1) L (.int (D.1 a x.toNatClampNeg) :: r) D | _ => False) | _ => False)
  | .baload => len = 1 ∧ (match st with | .int x :: .ref a :: r => (match zac a with | some (2, n) => vp_in x n ∧ K (pc + 1) L (.int (D.1 a x.toNatClampNeg) :: r) D | _ => False) | _ => False)
  | .laload => len = 1 ∧ (match st with | .int x :: .ref a :: r => (match zac a with | some (1, n) => vp_in x n ∧ K (pc + 1) L (.long (D.2 a x.toNatClampNeg) :: r) D | _ => False) | _ => False)
  | .iastore => len = 1 ∧ (match st with | .int v :: .int x :: .ref a :: r => (match zac a with | some (0, n) => vp_in x n ∧ K (pc + 1) L r (zuI D a x.toNatClampNeg v) | _ => False) | _ => False)
  | .bastore => len = 1 ∧ (match st with | .int v :: .int x :: .ref a :: r => (match zac a with | some (2, n) => vp_in x n ∧ K (pc + 1) L r (zuI D a x.toNatClampNeg v.toInt8.toInt32) | _ => False) | _ => False)
  | .lastore => len = 1 ∧ (match st with | .long v :: .int x :: .ref a :: r => (match zac a with | some (1, n) => vp_in x n ∧ K (pc + 1) L r (zuL D a x.toNatClampNeg v) | _ => False) | _ => False)
  | .arraylength => len = 1 ∧ (match st with | .ref a :: r => (match zac a with | some (0, n) => K (pc + 1) L (.int (Int32.ofNat n) :: r) D | _ => False) | _ => False)
  | .ireturn => len = 1 ∧ (match st with | [.int v] => (zret M = some .int ∨ (zret M = some .boolean ∧ narrow .boolean (.int v) = .int v)) ∧ Q (.inl (some (.int v))) k D | _ => False)
  | .lreturn => len = 1 ∧ (match st with | [.long v] => zret M = some .long ∧ Q (.inl (some (.long v))) k D | _ => False)
  | .return_ => len = 1 ∧ (match st with | [] => zret M = none ∧ Q (.inl none) k D | _ => False)
  | _ => leaf
