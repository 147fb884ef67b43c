/-! A small machine: the same instructions over plain data. Cells 0..25 are those that nobody writes (0 the script, 1..3 static rows, 4..14 texts, 15..25 their bytes); from 26 on those that the run makes, in the order of their making. -/
abbrev sm_S : Type := List (Nat × Nat × List (Option Nat))
abbrev sm_I : Type := Nat → Nat → Int32
abbrev sm_J : Type := Nat → Nat → Int64
abbrev sm_H : Type := sm_S × sm_I × sm_J
def sm_uI (I : sm_I) (q k : Nat) (v : Int32) : sm_I := fun a b => if a = q ∧ b = k then v else I a b
def sm_uJ (J : sm_J) (q k : Nat) (v : Int64) : sm_J := fun a b => if a = q ∧ b = k then v else J a b
def sm_cI (I : sm_I) (s d sp dp n : Nat) : sm_I := fun a b => if a = d then va_cpy (I s) (I d) sp dp n b else I a b
def sm_cJ (J : sm_J) (s d sp dp n : Nat) : sm_J := fun a b => if a = d then va_cpy (J s) (J d) sp dp n b else J a b
/-- a new cell's places are 0 -/
def sm_z32 (I : sm_I) (q : Nat) : sm_I := fun a b => if a = q then 0 else I a b
def sm_z64 (J : sm_J) (q : Nat) : sm_J := fun a b => if a = q then 0 else J a b
def sm_rv (r : Option Nat) : Value := match r with
  | some a => .ref a
  | none => .null
def sm_tgt (pc : Nat) (off : Int) : Nat := ((pc : Int) + off).toNat
def sm_in (i : Int32) (n : Nat) : Bool := decide (¬ (i < 0 ∨ n ≤ i.toNatClampNeg))
def sm_cnd (c : ClassFile.Cond) (x y : Int32) : Bool := match c with
  | .eq => decide (x = y)
  | .ne => decide (¬ x = y)
  | .lt => decide (x < y)
  | .ge => decide (y ≤ x)
  | .gt => decide (y < x)
  | .le => decide (x ≤ y)
def sm_ld (L : List Value) (i : Nat) : Value := L.getD i .null
def sm_cat (L : List Value) (i : Nat) : Bool := i == 0 || !((sm_ld L (i - 1)).category == 2)
abbrev sm_St : Type := Nat × List Value × List Value × sm_H
/-- a step that is no call and no return -/
def sm_step (i : Instr) (len a b : Nat) (z : Int) (pc : Nat) (L st : List Value) (h : sm_H) : Option sm_St :=
  match i with
  | .iconst n => some (pc + 1, L, .int (Int32.ofInt n) :: st, h)
  | .bipush n => some (pc + 2, L, .int (Int8.ofInt n).toInt32 :: st, h)
  | .sipush n => some (pc + 3, L, .int (Int16.ofInt n).toInt32 :: st, h)
  | .lconst n => some (pc + 1, L, .long (Int64.ofNat (n : Nat)) :: st, h)
  | .ldc _ => if a = 0 then some (pc + 2, L, .int (Int32.ofInt z) :: st, h) else some (pc + 2, L, .ref (4 + b) :: st, h)
  | .ldc_w _ => some (pc + 3, L, .int (Int32.ofInt z) :: st, h)
  | .ldc2_w _ => some (pc + 3, L, .long (Int64.ofInt z) :: st, h)
  | .iload_n k => match sm_ld L k with
    | .int x => some (pc + 1, L, .int x :: st, h)
    | _ => none
  | .iload k => match sm_ld L k with
    | .int x => some (pc + 2, L, .int x :: st, h)
    | _ => none
  | .lload_n k => match sm_ld L k with
    | .long x => some (pc + 1, L, .long x :: st, h)
    | _ => none
  | .lload k => match sm_ld L k with
    | .long x => some (pc + 2, L, .long x :: st, h)
    | _ => none
  | .aload_n k => match sm_ld L k with
    | .ref x => some (pc + 1, L, .ref x :: st, h)
    | _ => none
  | .aload k => match sm_ld L k with
    | .ref x => some (pc + 2, L, .ref x :: st, h)
    | _ => none
  | .istore_n k => match st with
    | .int x :: st => if (k : Nat) < L.length ∧ sm_cat L k = true then some (pc + 1, L.set k (.int x), st, h) else none
    | _ => none
  | .istore k => match st with
    | .int x :: st => if k < L.length ∧ sm_cat L k = true then some (pc + 2, L.set k (.int x), st, h) else none
    | _ => none
  | .astore_n k => match st with
    | .ref x :: st => if (k : Nat) < L.length ∧ sm_cat L k = true then some (pc + 1, L.set k (.ref x), st, h) else none
    | _ => none
  | .astore k => match st with
    | .ref x :: st => if k < L.length ∧ sm_cat L k = true then some (pc + 2, L.set k (.ref x), st, h) else none
    | _ => none
  | .iinc k n => match sm_ld L k with
    | .int x => if k < L.length ∧ sm_cat L k = true ∧ len = 3 then some (pc + 3, L.set k (.int (x + Int32.ofInt n)), st, h) else none
    | _ => none
  | .iadd => match st with
    | .int y :: .int x :: st => some (pc + 1, L, .int (x + y) :: st, h)
    | _ => none
  | .isub => match st with
    | .int y :: .int x :: st => some (pc + 1, L, .int (x - y) :: st, h)
    | _ => none
  | .imul => match st with
    | .int y :: .int x :: st => some (pc + 1, L, .int (x * y) :: st, h)
    | _ => none
  | .iand => match st with
    | .int y :: .int x :: st => some (pc + 1, L, .int (x &&& y) :: st, h)
    | _ => none
  | .ior => match st with
    | .int y :: .int x :: st => some (pc + 1, L, .int (x ||| y) :: st, h)
    | _ => none
  | .ixor => match st with
    | .int y :: .int x :: st => some (pc + 1, L, .int (x ^^^ y) :: st, h)
    | _ => none
  | .idiv => match st with
    | .int y :: .int x :: st => if y = 0 then none else some (pc + 1, L, .int (x / y) :: st, h)
    | _ => none
  | .irem => match st with
    | .int y :: .int x :: st => if y = 0 then none else some (pc + 1, L, .int (x - x / y * y) :: st, h)
    | _ => none
  | .ineg => match st with
    | .int x :: st => some (pc + 1, L, .int (-x) :: st, h)
    | _ => none
  | .ishl => match st with
    | .int y :: .int x :: st => some (pc + 1, L, .int (x <<< (y &&& 31)) :: st, h)
    | _ => none
  | .ishr => match st with
    | .int y :: .int x :: st => some (pc + 1, L, .int (x >>> (y &&& 31)) :: st, h)
    | _ => none
  | .iushr => match st with
    | .int y :: .int x :: st => some (pc + 1, L, .int (x.toUInt32 >>> (y.toUInt32 &&& Int32.toUInt32 31)).toInt32 :: st, h)
    | _ => none
  | .land => match st with
    | .long y :: .long x :: st => some (pc + 1, L, .long (x &&& y) :: st, h)
    | _ => none
  | .lor => match st with
    | .long y :: .long x :: st => some (pc + 1, L, .long (x ||| y) :: st, h)
    | _ => none
  | .lshl => match st with
    | .int y :: .long x :: st => some (pc + 1, L, .long (x <<< (y.toInt64 &&& 63)) :: st, h)
    | _ => none
  | .lcmp => match st with
    | .long y :: .long x :: st => some (pc + 1, L, .int (lg_cmp x y) :: st, h)
    | _ => none
  | .i2l => match st with
    | .int x :: st => some (pc + 1, L, .long x.toInt64 :: st, h)
    | _ => none
  | .l2i => match st with
    | .long x :: st => some (pc + 1, L, .int x.toInt32 :: st, h)
    | _ => none
  | .i2b => match st with
    | .int x :: st => some (pc + 1, L, .int x.toInt8.toInt32 :: st, h)
    | _ => none
  | .i2s => match st with
    | .int x :: st => some (pc + 1, L, .int x.toInt16.toInt32 :: st, h)
    | _ => none
  | .i2c => match st with
    | .int x :: st => some (pc + 1, L, .int (x.toUInt32 % 65536).toInt32 :: st, h)
    | _ => none
  | .dup => match st with
    | v :: st => if v.category = 1 then some (pc + 1, L, v :: v :: st, h) else none
    | _ => none
  | .dup2 => match st with
    | v :: w :: st => if v.category = 1 ∧ w.category = 1 then some (pc + 1, L, v :: w :: v :: w :: st, h) else none
    | _ => none
  | .pop => match st with
    | v :: st => if v.category = 1 then some (pc + 1, L, st, h) else none
    | _ => none
  | .goto off => if 0 ≤ (pc : Int) + off then some (sm_tgt pc off, L, st, h) else none
  | .ifCond c off => match st with
    | .int x :: st => if 0 ≤ (pc : Int) + off then (if sm_cnd c x 0 = true then some (sm_tgt pc off, L, st, h) else some (pc + 3, L, st, h)) else none
    | _ => none
  | .if_icmp c off => match st with
    | .int y :: .int x :: st => if 0 ≤ (pc : Int) + off then (if sm_cnd c x y = true then some (sm_tgt pc off, L, st, h) else some (pc + 3, L, st, h)) else none
    | _ => none
  | .tableswitch df lo hi offs => match st with
    | .int x :: st =>
      if x.toInt < lo ∨ hi < x.toInt then (if 0 ≤ (pc : Int) + df then some (sm_tgt pc df, L, st, h) else none)
      else match offs[(x.toInt - lo).toNat]? with
        | some off => if 0 ≤ (pc : Int) + off then some (sm_tgt pc off, L, st, h) else none
        | none => none
    | _ => none
  | .lookupswitch df ps => match st with
    | .int x :: st => if (ps.toList.zip (ps.toList.drop 1)).all (fun (a, next) => a.1 < next.1) = true ∧ 0 ≤ (pc : Int) + Op.lookupswitch.offset ps.toList df x.toInt then some (sm_tgt pc (Op.lookupswitch.offset ps.toList df x.toInt), L, st, h) else none
    | _ => none
  | .getstatic _ => if a = 0 then some (pc + 3, L, .int 1 :: st, h) else some (pc + 3, L, .ref a :: st, h)
  | .getfield _ => match st with
    | .ref q :: st => match h.1[q]? with
      | some (kd, c, rs) =>
        if kd = 0 ∧ c = a ∧ 26 ≤ q ∧ b < sm_N a then
          (if sm_fk a b = 2 then (match rs[b]? with
            | some r => some (pc + 3, L, sm_rv r :: st, h)
            | none => none) else some (pc + 3, L, .int (h.2.1 q b) :: st, h))
        else if kd = 5 ∧ a = 13 ∧ 4 ≤ q ∧ q < 15 then
          (if b = 0 then some (pc + 3, L, .ref (q + 11) :: st, h) else some (pc + 3, L, .int 0 :: st, h))
        else none
      | none => none
    | _ => none
  | .putfield _ => match st with
    | v :: .ref q :: st => match h.1[q]? with
      | some (kd, c, rs) =>
        if kd = 0 ∧ c = a ∧ 26 ≤ q ∧ b < sm_N a ∧ rs.length = sm_N a then
          (match v with
            | .int x => if sm_fk a b = 0 ∨ (sm_fk a b = 1 ∧ (x = 0 ∨ x = 1)) then some (pc + 3, L, st, (h.1, sm_uI h.2.1 q b x, h.2.2)) else none
            | .ref r => if sm_fk a b = 2 then some (pc + 3, L, st, (h.1.set q (0, c, rs.set b (some r)), h.2.1, h.2.2)) else none
            | _ => none)
        else none
      | none => none
    | _ => none
  | .arraylength => match st with
    | .ref q :: st => match h.1[q]? with
      | some (kd, n, _) => if kd = 1 ∨ kd = 2 ∨ kd = 4 then some (pc + 1, L, .int (Int32.ofNat n) :: st, h) else none
      | none => none
    | _ => none
  | .iaload => match st with
    | .int i :: .ref q :: st => match h.1[q]? with
      | some (kd, n, _) => if kd = 1 ∧ sm_in i n = true then some (pc + 1, L, .int (h.2.1 q i.toNatClampNeg) :: st, h) else none
      | none => none
    | _ => none
  | .baload => match st with
    | .int i :: .ref q :: st => match h.1[q]? with
      | some (kd, n, _) => if kd = 4 ∧ sm_in i n = true then some (pc + 1, L, .int (h.2.1 q i.toNatClampNeg) :: st, h) else none
      | none => none
    | _ => none
  | .laload => match st with
    | .int i :: .ref q :: st => match h.1[q]? with
      | some (kd, n, _) => if kd = 2 ∧ sm_in i n = true then some (pc + 1, L, .long (h.2.2 q i.toNatClampNeg) :: st, h) else none
      | none => none
    | _ => none
  | .aaload => match st with
    | .int i :: .ref q :: st => match h.1[q]? with
      | some (kd, _, rs) => if kd = 3 ∧ sm_in i rs.length = true then some (pc + 1, L, sm_rv (rs.getD i.toNatClampNeg none) :: st, h) else none
      | none => none
    | _ => none
  | .iastore => match st with
    | .int x :: .int i :: .ref q :: st => match h.1[q]? with
      | some (kd, n, _) => if kd = 1 ∧ sm_in i n = true ∧ 26 ≤ q then some (pc + 1, L, st, (h.1, sm_uI h.2.1 q i.toNatClampNeg x, h.2.2)) else none
      | none => none
    | _ => none
  | .lastore => match st with
    | .long x :: .int i :: .ref q :: st => match h.1[q]? with
      | some (kd, n, _) => if kd = 2 ∧ sm_in i n = true ∧ 26 ≤ q then some (pc + 1, L, st, (h.1, h.2.1, sm_uJ h.2.2 q i.toNatClampNeg x)) else none
      | none => none
    | _ => none
  | .aastore => match st with
    | .ref r :: .int i :: .ref q :: st => match h.1[q]?, h.1[r]? with
      | some (kd, c, rs), some (kd', c', _) => if kd = 3 ∧ sm_in i rs.length = true ∧ 26 ≤ q ∧ kd' = 0 ∧ c' = c ∧ 26 ≤ r then some (pc + 1, L, st, (h.1.set q (3, c, rs.set i.toNatClampNeg (some r)), h.2.1, h.2.2)) else none
      | _, _ => none
    | _ => none
  | .new _ => some (pc + 3, L, .ref h.1.length :: st, (h.1 ++ [(0, a, List.replicate (sm_N a) none)], sm_z32 h.2.1 h.1.length, h.2.2))
  | .newarray _ => match st with
    | .int n :: st => if ¬ n < 0 ∧ n.toNatClampNeg ≤ 1000 then
        (if a = 1 then some (pc + 2, L, .ref h.1.length :: st, (h.1 ++ [(1, n.toNatClampNeg, [])], sm_z32 h.2.1 h.1.length, h.2.2))
         else some (pc + 2, L, .ref h.1.length :: st, (h.1 ++ [(2, n.toNatClampNeg, [])], h.2.1, sm_z64 h.2.2 h.1.length))) else none
    | _ => none
  | .anewarray _ => match st with
    | .int n :: st => if ¬ n < 0 ∧ n.toNatClampNeg ≤ 1000 then some (pc + 3, L, .ref h.1.length :: st, (h.1 ++ [(3, a, List.replicate n.toNatClampNeg none)], h.2.1, h.2.2)) else none
    | _ => none
  | .invokespecial _ => if a = 9999 then (match st with
    | .ref _ :: st => if (st.map fun v => v.category).sum ≤ 8 then some (pc + 3, L, st, h) else none
    | _ => none) else none
  | .invokestatic _ => if a = 9998 then (match st with
    | .int n :: .int dp :: .ref d :: .int sp :: .ref s :: st => match h.1[s]?, h.1[d]? with
      | some (ks, ns, _), some (kd, nd, _) =>
        if (ks = 1 ∨ ks = 2) ∧ kd = ks ∧ ¬ sp < 0 ∧ ¬ dp < 0 ∧ ¬ n < 0 ∧ sp.toNatClampNeg + n.toNatClampNeg ≤ ns ∧ dp.toNatClampNeg + n.toNatClampNeg ≤ nd ∧ 26 ≤ d ∧ 26 ≤ s ∧ (st.map fun v => v.category).sum ≤ 8 then
          (if ks = 1 then some (pc + 3, L, st, (h.1, sm_cI h.2.1 s d sp.toNatClampNeg dp.toNatClampNeg n.toNatClampNeg, h.2.2))
           else some (pc + 3, L, st, (h.1, h.2.1, sm_cJ h.2.2 s d sp.toNatClampNeg dp.toNatClampNeg n.toNatClampNeg)))
        else none
      | _, _ => none
    | _ => none)
    else if a = 9996 then (match st with
    | .int y :: .int x :: st => if (st.map fun v => v.category).sum ≤ 8 then some (pc + 3, L, .int (if x < y then y else x) :: st, h) else none
    | _ => none)
    else if a = 9995 then (match st with
    | .int y :: .int x :: st => if (st.map fun v => v.category).sum ≤ 8 then some (pc + 3, L, .int (if y < x then y else x) :: st, h) else none
    | _ => none) else none
  | _ => none
/-- a return: what comes back -/
def sm_rt (mi : Nat) (i : Instr) (st : List Value) : Option (Option Value) := match i, st with
  | .ireturn, [.int v] => match sm_ret mi with
    | some ty => if narrow ty (.int v) = .int v ∧ (ty = .int ∨ ty = .boolean ∨ ty = .byte) then some (some (.int v)) else none
    | none => none
  | .lreturn, [.long v] => if sm_ret mi = some .long then some (some (.long v)) else none
  | .areturn, [.ref q] => if sm_ret mi = some (.object "java/lang/String") then some (some (.ref q)) else none
  | .return_, [] => if sm_ret mi = none then some none else none
  | _, _ => none
/-- the class (by number) of the object that a call is made on -/
def sm_rc (h : sm_H) (q : Nat) : Nat := match h.1[q]? with
  | some (kd, c, _) => if kd = 0 ∧ 26 ≤ q then c else if kd = 5 ∧ 4 ≤ q ∧ q < 15 then 13 else 99
  | none => 99
/-- a call: whom, with what, what stays on the stack -/
def sm_call (i : Instr) (a b : Nat) (st : List Value) (h : sm_H) : Option (Nat × List Value × List Value) :=
  if 9000 ≤ a then none else match i with
  | .invokestatic _ => if b ≤ st.length ∧ ((st.drop b).map fun v => v.category).sum ≤ 8 then some (a, (st.take b).reverse, st.drop b) else none
  | .invokespecial _ => if b + 1 ≤ st.length ∧ ((st.drop (b + 1)).map fun v => v.category).sum ≤ 8 then (match st[b]? with
    | some (.ref q) => some (a, (st.take (b + 1)).reverse, st.drop (b + 1))
    | _ => none) else none
  | .invokevirtual _ => if b + 1 ≤ st.length ∧ ((st.drop (b + 1)).map fun v => v.category).sum ≤ 8 then (match st[b]? with
    | some (.ref q) => if sm_rc h q = sm_cls a then some (a, (st.take (b + 1)).reverse, st.drop (b + 1)) else none
    | _ => none) else none
  | _ => none
def sm_isc (i : Instr) : Bool := match i with
  | .invokestatic _ => true
  | .invokespecial _ => true
  | .invokevirtual _ => true
  | _ => false
/-- arguments as locals -/
def sm_al : List Value → List Value
  | [] => []
  | .long x :: r => .long x :: .null :: sm_al r
  | .double x :: r => .double x :: .null :: sm_al r
  | .int x :: r => .int x :: sm_al r
  | .ref x :: r => .ref x :: sm_al r
  | v :: r => v :: sm_al r
def sm_mk (n : Nat) (as : List Value) : List Value := sm_al as ++ List.replicate (n - (sm_al as).length) .null
/-- the machine: n bounds the steps, d the depth of calls -/
def sm_ev : Nat → Nat → Nat → Nat → List Value → List Value → sm_H → Option (Option Value × sm_H)
  | 0, _, _, _, _, _, _ => none
  | n + 1, d, mi, pc, L, st, h => match sm_cd mi pc with
    | none => none
    | some (i, len, a, b, z) => match sm_rt mi i st with
      | some r => some (r, h)
      | none => if sm_isc i = true ∧ a < 9000 then (match sm_call i a b st h with
          | some (k, as, rest) => (match d with
            | 0 => none
            | d' + 1 => if (sm_al as).length ≤ sm_mxl k then (match sm_ev n d' k 0 (sm_mk (sm_mxl k) as) [] h with
              | some (r, h') => sm_ev n (d' + 1) mi (pc + 3) L (r.toList ++ rest) h'
              | none => none) else none)
          | none => none)
        else (match sm_step i len a b z pc L st h with
          | some (pc', L', st', h') => sm_ev n d mi pc' L' st' h'
          | none => none)
/-- it comes to an end that is as K says -/
def sm_Ok (d mi pc : Nat) (L st : List Value) (h : sm_H) (K : Option Value → sm_H → Prop) : Prop := ∃ (n : Nat) (r : Option Value) (h' : sm_H), sm_ev n d mi pc L st h = some (r, h') ∧ K r h'
