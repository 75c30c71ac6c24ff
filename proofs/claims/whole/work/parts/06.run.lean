/-! THE SMALL MACHINE: its steps and its runs -/
def am_tg (pc : Nat) (off : Int) : Option Nat := match (pc : Int) + off with
  | .ofNat t => some t
  | .negSucc _ => none
noncomputable def am_get (L : AmL) (k : Nat) : Option Value := match am_nth L k with
  | some (some v) => some v
  | _ => none
noncomputable def am_clr (L : AmL) (k : Nat) : AmL := match k with
  | 0 => L
  | j + 1 => match am_get L j with
    | some (.long _) => am_put L none j
    | some (.double _) => am_put L none j
    | _ => L
noncomputable def am_set1 (L : AmL) (k : Nat) (v : Value) : AmL := am_put (am_clr L k) (some v) k
noncomputable def am_set2 (L : AmL) (k : Nat) (v : Value) : AmL := am_put (am_put (am_clr L k) (some v) k) none (k + 1)
abbrev AmP : Type := Option (Nat × AmL × List Value)
noncomputable def am_ldI (L : AmL) (k pc : Nat) (st : List Value) : AmP := match am_get L k with
  | some (.int x) => some (pc, L, .int x :: st)
  | _ => none
noncomputable def am_ldJ (L : AmL) (k pc : Nat) (st : List Value) : AmP := match am_get L k with
  | some (.long x) => some (pc, L, .long x :: st)
  | _ => none
noncomputable def am_ldA (L : AmL) (k pc : Nat) (st : List Value) : AmP := match am_get L k with
  | some (.ref a) => some (pc, L, .ref a :: st)
  | some .null => some (pc, L, .null :: st)
  | some (.retAddr j) => some (pc, L, .retAddr j :: st)
  | _ => none
noncomputable def am_stI (L : AmL) (k pc : Nat) (st : List Value) : AmP := match st with
  | .int x :: r => some (pc, am_set1 L k (.int x), r)
  | _ => none
noncomputable def am_stJ (L : AmL) (k pc : Nat) (st : List Value) : AmP := match st with
  | .long x :: r => some (pc, am_set2 L k (.long x), r)
  | _ => none
noncomputable def am_stA (L : AmL) (k pc : Nat) (st : List Value) : AmP := match st with
  | .ref a :: r => some (pc, am_set1 L k (.ref a), r)
  | _ => none
def am_i2 (f : Int32 → Int32 → Int32) (L : AmL) (pc : Nat) (st : List Value) : AmP := match st with
  | .int y :: .int x :: r => some (pc, L, .int (f x y) :: r)
  | _ => none
def am_i2d (f : Int32 → Int32 → Int32) (L : AmL) (pc : Nat) (st : List Value) : AmP := match st with
  | .int y :: .int x :: r => if y = 0 then none else some (pc, L, .int (f x y) :: r)
  | _ => none
def am_l2 (f : Int64 → Int64 → Int64) (L : AmL) (pc : Nat) (st : List Value) : AmP := match st with
  | .long y :: .long x :: r => some (pc, L, .long (f x y) :: r)
  | _ => none
def am_l2d (f : Int64 → Int64 → Int64) (L : AmL) (pc : Nat) (st : List Value) : AmP := match st with
  | .long y :: .long x :: r => if y = 0 then none else some (pc, L, .long (f x y) :: r)
  | _ => none
def am_lsh (f : Int64 → Int32 → Int64) (L : AmL) (pc : Nat) (st : List Value) : AmP := match st with
  | .int y :: .long x :: r => some (pc, L, .long (f x y) :: r)
  | _ => none
def am_br (c : Prop) [Decidable c] (pc : Nat) (off : Int) (L : AmL) (r : List Value) : AmP := match am_tg pc off with
  | some t => if c then some (t, L, r) else some (pc + 3, L, r)
  | none => none
def am_brn (c : Prop) [Decidable c] (pc : Nat) (off : Int) (L : AmL) (r : List Value) : AmP := match am_tg pc off with
  | some t => if c then some (pc + 3, L, r) else some (t, L, r)
  | none => none
def am_if (c : Jvm.ClassFile.Cond) (x y : Int32) (pc : Nat) (off : Int) (L : AmL) (r : List Value) : AmP := match c with
  | .eq => am_br (x = y) pc off L r
  | .ne => am_brn (x = y) pc off L r
  | .lt => am_br (x < y) pc off L r
  | .ge => am_br (y ≤ x) pc off L r
  | .gt => am_br (y < x) pc off L r
  | .le => am_br (x ≤ y) pc off L r
def am_c1 (v : Value) : Bool := match v with
  | .long _ => false
  | .double _ => false
  | _ => true
def am_jmp (pc : Nat) (off : Int) (L : AmL) (r : List Value) : AmP := match am_tg pc off with
  | some t => some (t, L, r)
  | none => none
/-- instructions that neither read nor write the heap -/
noncomputable def am_pure (i : Jvm.ClassFile.Instr) (v : Value) (pc : Nat) (L : AmL) (st : List Value) : AmP := match i with
  | .iconst _ => some (pc + 1, L, v :: st)
  | .bipush _ => some (pc + 2, L, v :: st)
  | .sipush _ => some (pc + 3, L, v :: st)
  | .lconst _ => some (pc + 1, L, v :: st)
  | .ldc _ => some (pc + 2, L, v :: st)
  | .ldc_w _ => some (pc + 3, L, v :: st)
  | .ldc2_w _ => some (pc + 3, L, v :: st)
  | .iload_n k => am_ldI L k.val (pc + 1) st
  | .iload k => am_ldI L k (pc + 2) st
  | .lload_n k => am_ldJ L k.val (pc + 1) st
  | .lload k => am_ldJ L k (pc + 2) st
  | .aload_n k => am_ldA L k.val (pc + 1) st
  | .aload k => am_ldA L k (pc + 2) st
  | .istore_n k => am_stI L k.val (pc + 1) st
  | .istore k => am_stI L k (pc + 2) st
  | .lstore_n k => am_stJ L k.val (pc + 1) st
  | .lstore k => am_stJ L k (pc + 2) st
  | .astore_n k => am_stA L k.val (pc + 1) st
  | .astore k => am_stA L k (pc + 2) st
  | .iinc k _ => match am_get L k, v with
    | some (.int x), .int n => some (pc + 3, am_set1 L k (.int (x + n)), st)
    | _, _ => none
  | .iadd => am_i2 (fun x y => x + y) L (pc + 1) st
  | .isub => am_i2 (fun x y => x - y) L (pc + 1) st
  | .imul => am_i2 (fun x y => x * y) L (pc + 1) st
  | .iand => am_i2 (fun x y => x &&& y) L (pc + 1) st
  | .ior => am_i2 (fun x y => x ||| y) L (pc + 1) st
  | .ixor => am_i2 (fun x y => x ^^^ y) L (pc + 1) st
  | .ishl => am_i2 (fun x y => x <<< (y &&& 31)) L (pc + 1) st
  | .ishr => am_i2 (fun x y => x >>> (y &&& 31)) L (pc + 1) st
  | .iushr => am_i2 (fun x y => (x.toUInt32 >>> (y.toUInt32 &&& Int32.toUInt32 31)).toInt32) L (pc + 1) st
  | .idiv => am_i2d (fun x y => x / y) L (pc + 1) st
  | .irem => am_i2d (fun x y => x - x / y * y) L (pc + 1) st
  | .ladd => am_l2 (fun x y => x + y) L (pc + 1) st
  | .lsub => am_l2 (fun x y => x - y) L (pc + 1) st
  | .lmul => am_l2 (fun x y => x * y) L (pc + 1) st
  | .land => am_l2 (fun x y => x &&& y) L (pc + 1) st
  | .lor => am_l2 (fun x y => x ||| y) L (pc + 1) st
  | .ldiv => am_l2d (fun x y => x / y) L (pc + 1) st
  | .lrem => am_l2d (fun x y => x - x / y * y) L (pc + 1) st
  | .lshl => am_lsh (fun x y => x <<< (y.toInt64 &&& 63)) L (pc + 1) st
  | .lushr => am_lsh (fun x y => (x.toUInt64 >>> (y.toInt64.toUInt64 &&& Int64.toUInt64 63)).toInt64) L (pc + 1) st
  | .i2l => match st with
    | .int x :: r => some (pc + 1, L, .long x.toInt64 :: r)
    | _ => none
  | .l2i => match st with
    | .long x :: r => some (pc + 1, L, .int x.toInt32 :: r)
    | _ => none
  | .i2b => match st with
    | .int x :: r => some (pc + 1, L, .int x.toInt8.toInt32 :: r)
    | _ => none
  | .lcmp => match st with
    | .long y :: .long x :: r => some (pc + 1, L, .int (lg_cmp x y) :: r)
    | _ => none
  | .dup => match st with
    | a :: r => bif am_c1 a then some (pc + 1, L, a :: a :: r) else none
    | _ => none
  | .pop => match st with
    | a :: r => bif am_c1 a then some (pc + 1, L, r) else none
    | _ => none
  | .dup_x1 => match st with
    | a :: b :: r => bif am_c1 a && am_c1 b then some (pc + 1, L, a :: b :: a :: r) else none
    | _ => none
  | .dup2 => match st with
    | a :: b :: r => bif am_c1 a && am_c1 b then some (pc + 1, L, a :: b :: a :: b :: r) else none
    | _ => none
  | .goto off => am_jmp pc off L st
  | .ifCond c off => match st with
    | .int x :: r => am_if c x 0 pc off L r
    | _ => none
  | .if_icmp c off => match st with
    | .int y :: .int x :: r => am_if c x y pc off L r
    | _ => none
  | .tableswitch dflt lo hi offs => match st with
    | .int x :: r => if x.toInt < lo ∨ hi < x.toInt then am_jmp pc dflt L r else (match offs[(x.toInt - lo).toNat]? with
      | some off => am_jmp pc off L r
      | none => none)
    | _ => none
  | _ => none
def am_isB (x : Int32) : Bool := decide (x = 0) || decide (x = 1)
/-- what a return answers -/
def am_ret (rt : Option FieldType) (i : Jvm.ClassFile.Instr) (st : List Value) : Option (Option Value) := match i with
  | .ireturn => match rt, st with
    | some .int, [.int x] => some (some (.int x))
    | some .boolean, [.int x] => bif am_isB x then some (some (.int x)) else none
    | _, _ => none
  | .lreturn => match rt, st with
    | some .long, [.long x] => some (some (.long x))
    | _, _ => none
  | .areturn => match rt, st with
    | some (.object _), [.ref a] => some (some (.ref a))
    | some (.array _), [.ref a] => some (some (.ref a))
    | _, _ => none
  | .return_ => match rt, st with
    | none, [] => some none
    | _, _ => none
  | _ => none
def am_fit (fk : Nat) (v : Value) : Bool := match fk, v with
  | 0, .int _ => true
  | 1, .int x => am_isB x
  | 2, .ref _ => true
  | 2, .null => true
  | 2, .retAddr _ => true
  | 3, .long _ => true
  | _, _ => false
def am_txt (j : Nat) : List Int32 := match j with
  | 0 => [121]
  | 1 => [118, 116, 110, 105, 115, 111]
  | _ => []
def am_among (l : List Int32) (t : Int32) : Int32 := match l with
  | [] => 0
  | c :: r => if c = t then 1 else am_among r t
def am_inB (i : Int32) (n : Nat) : Prop := i < 0 ∨ n ≤ i.toNatClampNeg
abbrev AmQ : Type := Option (Nat × List Value × AmH)
/-- a cell's field -/
noncomputable def am_gf (e : Nat × Nat × Nat × Bool) (a : Nat) (r : List Value) (h : AmH) : AmQ := match am_nth h a with
  | some (.inr (c, fs)) => bif Nat.beq c e.1 then (match am_nth fs e.2.1 with
    | some v => some (3, v :: r, h)
    | none => none) else none
  | _ => none
/-- the class whose methods stand under this number -/
def am_oc (own : Nat) : Nat := match own with
  | 10 => 99
  | 11 => 10
  | 12 => 11
  | n => bif Nat.ble n 9 then n else 99
noncomputable def am_pf (own : Nat) (ini : Bool) (e : Nat × Nat × Nat × Bool) (v : Value) (a : Nat) (r : List Value) (h : AmH) : AmQ := match am_nth h a with
  | some (.inr (c, fs)) => bif Nat.beq c e.1 && (am_fit e.2.2.1 v && ((!e.2.2.2 || (ini && Nat.beq (am_oc own) e.1)) && Nat.blt e.2.1 fs.length)) then some (3, r, am_put h (.inr (c, am_put fs v e.2.1)) a) else none
  | _ => none
def am_low (st : List Value) : Bool := Nat.ble ((st.map fun v => v.category).sum) 8
noncomputable def am_cpy (st : List Value) (h : AmH) : AmQ := match st with
  | .int n :: .int dp :: .ref b :: .int sp :: .ref a :: r => bif !am_low r then none else match am_nth h a, am_nth h b with
    | some (.inl (.int, n0, .inl f)), some (.inl (.int, n1, .inl g)) => if sp < 0 ∨ dp < 0 ∨ n < 0 ∨ n0 < sp.toNatClampNeg + n.toNatClampNeg ∨ n1 < dp.toNatClampNeg + n.toNatClampNeg then none else some (3, r, am_put h (.inl (.int, n1, .inl (va_cpy f g sp.toNatClampNeg dp.toNatClampNeg n.toNatClampNeg))) b)
    | _, _ => none
  | _ => none
def am_max (x y : Int32) : Int32 := if x < y then y else x
def am_min (x y : Int32) : Int32 := if y < x then y else x
def am_maxL (x y : Int64) : Int64 := if y < x then x else y
def am_minL (x y : Int64) : Int64 := if y < x then y else x
/-- the JDK's members that are one step: arraycopy, the model's isAmong, Math's max and min -/
noncomputable def am_spc (k : Nat) (st : List Value) (h : AmH) : AmQ := match k with
  | 1 => am_cpy st h
  | 2 => match st with
    | .int t :: .retAddr j :: r => bif am_low r && Nat.blt j 2 then some (3, .int (am_among (am_txt j) t) :: r, h) else none
    | _ => none
  | 4 => match st with
    | .int y :: .int x :: r => bif am_low r then some (3, .int (am_max x y) :: r, h) else none
    | _ => none
  | 5 => match st with
    | .int y :: .int x :: r => bif am_low r then some (3, .int (am_min x y) :: r, h) else none
    | _ => none
  | 6 => match st with
    | .long y :: .long x :: r => bif am_low r then some (3, .long (am_maxL x y) :: r, h) else none
    | _ => none
  | 7 => match st with
    | .long y :: .long x :: r => bif am_low r then some (3, .long (am_minL x y) :: r, h) else none
    | _ => none
  | _ => none
def am_isRf (ty : FieldType) : Bool := match ty with
  | .object _ => true
  | .array _ => true
  | _ => false
/-- instructions that read or write cells -/
noncomputable def am_heap (own : Nat) (ini : Bool) (i : Jvm.ClassFile.Instr) (st : List Value) (h : AmH) : AmQ := match i with
  | .getfield x => match am_look (am_fl own) x, st with
    | some e, .ref a :: r => am_gf e a r h
    | _, _ => none
  | .putfield x => match am_look (am_fl own) x, st with
    | some e, v :: .ref a :: r => am_pf own ini e v a r h
    | _, _ => none
  | .iaload => match st with
    | .int i :: .ref a :: r => match am_nth h a with
      | some (.inl (.int, n, .inl f)) => if i < 0 ∨ n ≤ i.toNatClampNeg then none else some (1, .int (f i.toNatClampNeg) :: r, h)
      | _ => none
    | _ => none
  | .baload => match st with
    | .int i :: .ref a :: r => match am_nth h a with
      | some (.inl (.byte, n, .inl f)) => if i < 0 ∨ n ≤ i.toNatClampNeg then none else some (1, .int (f i.toNatClampNeg) :: r, h)
      | _ => none
    | _ => none
  | .laload => match st with
    | .int i :: .ref a :: r => match am_nth h a with
      | some (.inl (.long, n, .inr (.inl f))) => if i < 0 ∨ n ≤ i.toNatClampNeg then none else some (1, .long (f i.toNatClampNeg) :: r, h)
      | _ => none
    | _ => none
  | .aaload => match st with
    | .int i :: .ref a :: r => match am_nth h a with
      | some (.inl (ty, n, .inr (.inr (.inr (.inr f))))) => bif am_isRf ty then (if i < 0 ∨ n ≤ i.toNatClampNeg then none else (match f i.toNatClampNeg with
        | some b => some (1, .ref b :: r, h)
        | none => none)) else none
      | _ => none
    | _ => none
  | .iastore => match st with
    | .int x :: .int i :: .ref a :: r => match am_nth h a with
      | some (.inl (.int, n, .inl f)) => if i < 0 ∨ n ≤ i.toNatClampNeg then none else some (1, r, am_put h (.inl (.int, n, .inl (upd f i.toNatClampNeg x))) a)
      | _ => none
    | _ => none
  | .bastore => match st with
    | .int x :: .int i :: .ref a :: r => match am_nth h a with
      | some (.inl (.byte, n, .inl f)) => if i < 0 ∨ n ≤ i.toNatClampNeg then none else some (1, r, am_put h (.inl (.byte, n, .inl (upd f i.toNatClampNeg (vp_nar .byte x)))) a)
      | _ => none
    | _ => none
  | .lastore => match st with
    | .long x :: .int i :: .ref a :: r => match am_nth h a with
      | some (.inl (.long, n, .inr (.inl f))) => if i < 0 ∨ n ≤ i.toNatClampNeg then none else some (1, r, am_put h (.inl (.long, n, .inr (.inl (vp_updL f i.toNatClampNeg x)))) a)
      | _ => none
    | _ => none
  | .aastore => match st with
    | .ref b :: .int i :: .ref a :: r => match am_nth h a, am_nth h b with
      | some (.inl (.object C, n, .inr (.inr (.inr (.inr f))))), some (.inr (ci, _)) => if C = am_cn ci then (if i < 0 ∨ n ≤ i.toNatClampNeg then none else some (1, r, am_put h (.inl (.object C, n, .inr (.inr (.inr (.inr (va_up f i.toNatClampNeg (some b))))))) a)) else none
      | _, _ => none
    | _ => none
  | .arraylength => match st with
    | .ref a :: r => match am_nth h a with
      | some (.inl (_, n, _)) => some (1, .int (Int32.ofNat n) :: r, h)
      | _ => none
    | _ => none
  | .invokespecial x => match am_look (am_sl own) x, st with
    | some 0, .ref _ :: r => bif am_low r then some (3, r, h) else none
    | _, _ => none
  | .invokestatic x => match am_look (am_sl own) x with
    | some k => am_spc k st h
    | none => none
  | _ => none
def am_gl (own : Nat) : List (Nat × Nat) := match own with
  | 4 => [(13, 0)]
  | 5 => [(17, 0)]
  | _ => []
/-- what is made: length, cells (of which the first is pushed), the stack below, slots -/
noncomputable def am_new (own b : Nat) (i : Jvm.ClassFile.Instr) (st : List Value) : Option (Nat × List AmE × List Value × Nat) := match i with
  | .new x => match am_look (am_cl own) x with
    | some ci => some (3, [.inr (ci, am_dfl ci)], st, (am_dfl ci).length)
    | none => none
  | .newarray t => match st with
    | .int n :: r => if n < 0 ∨ 1000000 < n.toNatClampNeg then none else (match t with
      | .int => some (2, [.inl (.int, n.toNatClampNeg, .inl (fun _ => 0))], r, n.toNatClampNeg)
      | .byte => some (2, [.inl (.byte, n.toNatClampNeg, .inl (fun _ => 0))], r, n.toNatClampNeg)
      | .long => some (2, [.inl (.long, n.toNatClampNeg, .inr (.inl (fun _ => 0)))], r, n.toNatClampNeg)
      | _ => none)
    | _ => none
  | .anewarray x => match am_look (am_cl own) x, st with
    | some ci, .int n :: r => bif Nat.beq ci 2 || (Nat.beq ci 6 || Nat.beq ci 9) then (if n < 0 ∨ 1000000 < n.toNatClampNeg then none else some (3, [.inl (.object (am_cn ci), n.toNatClampNeg, .inr (.inr (.inr (.inr (fun _ => none)))))], r, n.toNatClampNeg)) else none
    | _, _ => none
  | .multianewarray x d => match am_look (am_gl own) x, d, st with
    | some _, 2, .int k :: .int n :: r => if n = 2 then (if k < 0 ∨ 1000000 < k.toNatClampNeg then none else
        some (4, [.inl (.array .int, 2, .inr (.inr (.inr (.inr (fun i => if i < 2 then some (b + 1 + i) else none))))), .inl (.int, k.toNatClampNeg, .inl (fun _ => 0)), .inl (.int, k.toNatClampNeg, .inl (fun _ => 0))], r, 2 + 2 * k.toNatClampNeg)) else none
    | _, _, _ => none
  | _ => none
/-- n values off the stack, the deepest first -/
noncomputable def am_take (n : Nat) : List Value → List Value → Option (List Value × List Value) := Nat.rec (fun st acc => some (acc, st)) (fun _ ih st acc => match st with
  | v :: r => ih r (v :: acc)
  | [] => none) n
def am_sl1 (as : List Value) : AmL := match as with
  | [] => []
  | .long x :: r => some (.long x) :: none :: am_sl1 r
  | .double x :: r => some (.double x) :: none :: am_sl1 r
  | v :: r => some v :: am_sl1 r
def am_ent (as : List Value) (n : Nat) : AmL := am_sl1 as ++ List.replicate (n - (am_sl1 as).length) none
noncomputable def am_recv (rc : Nat) (as : List Value) (h : AmH) : Bool := match as with
  | .ref b :: _ => (match am_nth h b with
    | some (.inr (c, _)) => Nat.beq c rc
    | _ => false)
  | _ => false
def am_isR (as : List Value) : Bool := match as with
  | .ref _ :: _ => true
  | _ => false
/-- a call: the method, its arguments, the stack below -/
noncomputable def am_call (own : Nat) (i : Jvm.ClassFile.Instr) (st : List Value) (h : AmH) : Option (AmM × List Value × List Value) := match i with
  | .invokestatic x => match am_look (am_ml own) x with
    | some (4, m, n, _) => match am_take n st [] with
      | some (as, r) => bif am_low r && Nat.ble (am_sl1 as).length m.2.2.2.1 then some (m, as, r) else none
      | none => none
    | _ => none
  | .invokevirtual x => match am_look (am_ml own) x with
    | some (3, m, n, rc) => match am_take (n + 1) st [] with
      | some (as, r) => bif am_low r && (Nat.ble (am_sl1 as).length m.2.2.2.1 && am_recv rc as h) then some (m, as, r) else none
      | none => none
    | _ => none
  | .invokespecial x => match am_look (am_ml own) x with
    | some (kd, m, n, _) => match am_take (n + 1) st [] with
      | some (as, r) => bif (Nat.beq kd 1 || Nat.beq kd 2) && (am_low r && (Nat.ble (am_sl1 as).length m.2.2.2.1 && (am_isR as && m.2.2.2.2.1.isNone))) then some (m, as, r) else none
      | none => none
    | _ => none
  | _ => none
def am_ini (m : AmM) : Bool := m.1.name == "<init>"
abbrev AmF : Type := Nat → AmM → Nat → AmL → List Value → AmH → Option AmR
def am_add (k j : Nat) (r : Option AmR) : Option AmR := match r with
  | some (v, h, a, b) => some (v, h, a + k, b + j)
  | none => none
/-- one step of a straight walk: neither a making, nor a call, nor a return -/
noncomputable def am_one (m : AmM) (pc : Nat) (L : AmL) (st : List Value) (h : AmH) : Option (Nat × AmL × List Value × AmH) := match am_at m.2.2.2.2.2 pc with
  | some (i, _, v) => match am_pure i v pc L st with
    | some (pc', L', st') => some (pc', L', st', h)
    | none => match am_heap m.2.2.1 (am_ini m) i st h with
      | some (n, st', h') => some (pc + n, L, st', h')
      | none => none
  | none => none
noncomputable def am_more (ih : AmF) (d : Nat) (m : AmM) (pc : Nat) (L : AmL) (st : List Value) (h : AmH) : Option AmR := match am_at m.2.2.2.2.2 pc with
  | some (i, _, _) => match am_ret m.2.2.2.2.1 i st with
    | some r => some (r, h, 0, 0)
    | none => match am_new m.2.2.1 h.length i st with
      | some (n, cs, st', j) => am_add cs.length j (ih d m (pc + n) L (.ref h.length :: st') (h ++ cs))
      | none => match am_call m.2.2.1 i st h with
        | some (m', as, r) => (match d with
          | 0 => none
          | d' + 1 => match ih d' m' 0 (am_ent as m'.2.2.2.1) [] h with
            | some (v, h1, k1, j1) => am_add k1 j1 (ih (d' + 1) m (pc + 3) L (v.toList ++ r) h1)
            | none => none)
        | none => none
  | none => none
noncomputable def am_stp (ih : AmF) : AmF := fun d m pc L st h => match am_one m pc L st h with
  | some (pc', L', st', h') => ih d m pc' L' st' h'
  | none => am_more ih d m pc L st h
/-- a run: n steps at most, d calls deep at most -/
noncomputable def am_run (n : Nat) : AmF := Nat.rec (fun _ _ _ _ _ _ => none) (fun _ ih => am_stp ih) n
/-- many straight steps -/
noncomputable def am_walk (m : AmM) (n : Nat) : Nat → AmL → List Value → AmH → Option (Nat × AmL × List Value × AmH) := Nat.rec (fun pc L st h => some (pc, L, st, h)) (fun _ ih pc L st h => match am_one m pc L st h with
  | some (pc', L', st', h') => ih pc' L' st' h'
  | none => none) n
/-- the machine at this place comes to the answer r -/
def Rn (d : Nat) (m : AmM) (pc : Nat) (L : AmL) (st : List Value) (h : AmH) (r : AmR) : Prop := ∃ n, am_run n d m pc L st h = some r
