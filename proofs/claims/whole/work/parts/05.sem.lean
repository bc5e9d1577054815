/-! THE LITTLE MACHINE: a heap of typed things by address, frames of known locals, the instructions that the system uses. What it computes, the machine does (05 and behind). -/
/-- a thing: its tag (a class's number in zcl below 90; 99 the script; 100 int, 101 long, 102 boolean, 103 Thing, 104 Word arrays), its length, its contents -/
abbrev zO : Type := Nat × Nat × (Nat → Value)
abbrev zH : Type := Nat → Option zO
/-- heap, its size, the slots made so far -/
abbrev zS : Type := zH × Nat × Nat
abbrev zL : Type := List (Option Value)
/-- what an instruction's index stands for: two numbers and a list -/
abbrev zX : Type := Nat × Nat × List Nat
abbrev zN : Type := Nat × zL × List Value × zS
def z_up (h : zH) (a : Nat) (o : zO) : zH := fun b => if b = a then some o else h b
def z_uf (f : Nat → Value) (k : Nat) (v : Value) : Nat → Value := fun j => if j = k then v else f j
def z_two : Option Value → Bool
  | some (.long _) => true
  | some (.double _) => true
  | _ => false
/-- the place ahead of i is no long's any more -/
def z_kill (L : zL) (i : Nat) : zL := match i with
  | 0 => L
  | j + 1 => match L[j]? with
    | some w => if z_two w then L.set j none else L
    | none => L
def z_set1 (L : zL) (i : Nat) (v : Value) : zL := (z_kill L i).set i (some v)
def z_set2 (L : zL) (i : Nat) (v : Value) : zL := ((z_kill L i).set (i + 1) none).set i (some v)
/-- locals at a method's entry -/
def z_ent : List Value → zL
  | [] => []
  | v :: vs => if v.category = 2 then some v :: none :: z_ent vs else some v :: z_ent vs
def z_ini (n : Nat) (A : List Value) : zL := z_ent A ++ List.replicate (n - (z_ent A).length) none
def z_ldi (L : zL) (j : Nat) : Option Value := match L[j]? with
  | some (some (.int v)) => some (.int v)
  | _ => none
def z_ldl (L : zL) (j : Nat) : Option Value := match L[j]? with
  | some (some (.long v)) => some (.long v)
  | _ => none
def z_lda (L : zL) (j : Nat) : Option Value := match L[j]? with
  | some (some (.ref v)) => some (.ref v)
  | some (some .null) => some .null
  | _ => none
def z_psh (pc : Nat) (L : zL) (S : List Value) (s : zS) (r : Option Value) : Option zN := match r with
  | some v => some (pc, L, v :: S, s)
  | none => none
def z_sti (pc : Nat) (L : zL) (S : List Value) (s : zS) (j : Nat) : Option zN := match S with
  | .int v :: r => if j < L.length then some (pc, z_set1 L j (.int v), r, s) else none
  | _ => none
def z_stl (pc : Nat) (L : zL) (S : List Value) (s : zS) (j : Nat) : Option zN := match S with
  | .long v :: r => if j + 1 < L.length then some (pc, z_set2 L j (.long v), r, s) else none
  | _ => none
def z_sta (pc : Nat) (L : zL) (S : List Value) (s : zS) (j : Nat) : Option zN := match S with
  | .ref v :: r => if j < L.length then some (pc, z_set1 L j (.ref v), r, s) else none
  | .null :: r => if j < L.length then some (pc, z_set1 L j .null, r, s) else none
  | _ => none
def z_bi (pc : Nat) (L : zL) (S : List Value) (s : zS) (f : Int32 → Int32 → Int32) : Option zN := match S with
  | .int y :: .int x :: r => some (pc, L, .int (f x y) :: r, s)
  | _ => none
def z_bl (pc : Nat) (L : zL) (S : List Value) (s : zS) (f : Int64 → Int64 → Int64) : Option zN := match S with
  | .long y :: .long x :: r => some (pc, L, .long (f x y) :: r, s)
  | _ => none
def z_sl (pc : Nat) (L : zL) (S : List Value) (s : zS) (f : Int64 → Int32 → Int64) : Option zN := match S with
  | .int y :: .long x :: r => some (pc, L, .long (f x y) :: r, s)
  | _ => none
def z_cc (c : Jvm.ClassFile.Cond) (x y : Int32) : Bool := match c with
  | .eq => decide (x = y)
  | .ne => !decide (x = y)
  | .lt => decide (x < y)
  | .ge => decide (y ≤ x)
  | .gt => decide (y < x)
  | .le => decide (x ≤ y)
def z_to (pc : Nat) (o : Int) (L : zL) (S : List Value) (s : zS) : Option zN := if 0 ≤ (pc : Int) + o then some (((pc : Int) + o).toNat, L, S, s) else none
def z_br (b : Bool) (pc len : Nat) (o : Int) (L : zL) (S : List Value) (s : zS) : Option zN := if 0 ≤ (pc : Int) + o then some (if b = true then ((pc : Int) + o).toNat else pc + len, L, S, s) else none
/-- the classes of the things, by their numbers -/
abbrev zcl : List vw_C := [(RX0, TX0, 6), (RX1, TX1, 10), (RX2, TX2, 3), (RX3, TX3, 10), (RX4, TX4, 4), (RX5, TX5, 7), (RX6, TX6, 11), (RX8, TX8, 5), (RX9, TX9, 4), (RX10, TX10, 42)]
def zty : Nat → Nat → FieldType := fun c => match c with
  | 0 => tyX0
  | 1 => tyX1
  | 2 => tyX2
  | 3 => tyX3
  | 4 => tyX4
  | 5 => tyX5
  | 6 => tyX6
  | 7 => tyX8
  | 8 => tyX9
  | _ => tyX10
/-- the things of a house -/
abbrev zth : List Nat := [0, 2, 3, 4, 5, 6]
def zaty : Nat → FieldType := fun t => match t with
  | 99 => .int
  | 100 => .int
  | 101 => .long
  | 102 => .boolean
  | 103 => .object "ProcessorHouse$Thing"
  | _ => .object "ProcessorHouse$Word"
def z_get (tags : List Nat) (k : Nat) (h : zH) (a : Nat) : Option Value := match h a with
  | some o => if o.1 ∈ tags then some (o.2.2 k) else none
  | none => none
def z_put (tags : List Nat) (k : Nat) (s : zS) (a : Nat) (v : Value) : Option zS := match s.1 a with
  | some o => if o.1 ∈ tags ∧ narrow (zty o.1 k) v = v ∧ fits (zty o.1 k) v = true then some (z_up s.1 a (o.1, o.2.1, z_uf o.2.2 k v), s.2) else none
  | none => none
/-- an array's place: the tags that may be, the length -/
def z_at (tags : List Nat) (h : zH) (a : Nat) (i : Int32) : Option Value := match h a with
  | some o => if o.1 ∈ tags ∧ ¬ (i < 0 ∨ o.2.1 ≤ i.toNatClampNeg) then some (o.2.2 i.toNatClampNeg) else none
  | none => none
def z_st (tag : Nat) (s : zS) (a : Nat) (i : Int32) (v : Value) : Option zS := match s.1 a with
  | some o => if o.1 = tag ∧ ¬ (i < 0 ∨ o.2.1 ≤ i.toNatClampNeg) then some (z_up s.1 a (o.1, o.2.1, z_uf o.2.2 i.toNatClampNeg v), s.2) else none
  | none => none
/-- what may be put into an array of references: nothing, or a thing of the right classes -/
def z_may (tag : Nat) (h : zH) (v : Value) : Bool := match v with
  | .null => true
  | .ref b => match h b with
    | some o => if tag = 103 then decide (o.1 ∈ zth) else decide (o.1 = 7)
    | none => false
  | _ => false
def z_ast (s : zS) (a : Nat) (i : Int32) (v : Value) : Option zS := match s.1 a with
  | some o => if (o.1 = 103 ∨ o.1 = 104) ∧ z_may o.1 s.1 v = true then z_st o.1 s a i v else none
  | none => none
def z_len (h : zH) (a : Nat) : Option Value := match h a with
  | some o => if 99 ≤ o.1 ∧ o.1 ≤ 104 then some (.int o.2.1.toInt32) else none
  | none => none
def z_new (tag n : Nat) (f : Nat → Value) (s : zS) : zS := (z_up s.1 s.2.1 (tag, n, f), s.2.1 + 1, s.2.2 + n)
def z_nwa (tag : Nat) (d : Value) (b : Nat) (pc : Nat) (L : zL) (S : List Value) (s : zS) : Option zN := match S with
  | .int n :: r => if ¬ n < 0 ∧ n.toNatClampNeg * b ≤ 536870912 then some (pc, L, .ref s.2.1 :: r, z_new tag n.toNatClampNeg (fun _ => d) s) else none
  | _ => none
def z_aty (t : ArrayType) : Option (Nat × Value × Nat) := match t with
  | .int => some (100, .int 0, componentBytes .int)
  | .long => some (101, .long 0, componentBytes .long)
  | .boolean => some (102, .int 0, componentBytes .boolean)
  | _ => none
/-- the weight of what stays on the stack -/
def z_w (S : List Value) : Prop := (S.map fun v => v.category).sum ≤ 8
theorem z_w_dec (S : List Value) : z_w S ↔ ((S.map fun v => v.category).sum ≤ 8) := Iff.rfl
def z_wb (S : List Value) : Bool := decide ((S.map fun v => v.category).sum ≤ 8)
def z_cpy (s : zS) (a0 : Nat) (sp : Int32) (a1 : Nat) (dp n : Int32) : Option zS := match s.1 a0, s.1 a1 with
  | some o0, some o1 => if o0.1 = 101 ∧ o1.1 = 101 ∧ ¬ sp < 0 ∧ ¬ dp < 0 ∧ ¬ n < 0 ∧ sp.toNatClampNeg + n.toNatClampNeg ≤ o0.2.1 ∧ dp.toNatClampNeg + n.toNatClampNeg ≤ o1.2.1
      ∧ (∀ i, i < n.toNatClampNeg → fits .long (o0.2.2 (sp.toNatClampNeg + i)) = true) then some (z_up s.1 a1 (101, o1.2.1, va_cpy o0.2.2 o1.2.2 sp.toNatClampNeg dp.toNatClampNeg n.toNatClampNeg), s.2) else none
  | _, _ => none
/-- the instructions that go on within the frame -/
def z_nx (i : Instr) (x : zX) (pc len : Nat) (L : zL) (S : List Value) (s : zS) : Option zN := match i with
  | .iconst n => some (pc + len, L, .int (Int32.ofInt n) :: S, s)
  | .bipush n => some (pc + len, L, .int (Int8.ofInt n).toInt32 :: S, s)
  | .sipush n => some (pc + len, L, .int (Int16.ofInt n).toInt32 :: S, s)
  | .lconst n => some (pc + len, L, .long (Int64.ofNat (n : Nat)) :: S, s)
  | .ldc _ => if x.2.2 = [] then some (pc + len, L, .int (Int32.ofNat x.1) :: S, s) else none
  | .ldc2_w _ => some (pc + len, L, .long (Int64.ofNat x.1) :: S, s)
  | .aconst_null => some (pc + len, L, .null :: S, s)
  | .iload_n j => z_psh (pc + len) L S s (z_ldi L j)
  | .iload j => z_psh (pc + len) L S s (z_ldi L j)
  | .lload_n j => z_psh (pc + len) L S s (z_ldl L j)
  | .lload j => z_psh (pc + len) L S s (z_ldl L j)
  | .aload_n j => z_psh (pc + len) L S s (z_lda L j)
  | .aload j => z_psh (pc + len) L S s (z_lda L j)
  | .istore_n j => z_sti (pc + len) L S s j
  | .istore j => z_sti (pc + len) L S s j
  | .lstore_n j => z_stl (pc + len) L S s j
  | .lstore j => z_stl (pc + len) L S s j
  | .astore_n j => z_sta (pc + len) L S s j
  | .astore j => z_sta (pc + len) L S s j
  | .iinc j n => match z_ldi L j with
    | some (.int v) => if len = 3 ∧ j < L.length then some (pc + len, z_set1 L j (.int (v + Int32.ofInt n)), S, s) else none
    | _ => none
  | .iadd => z_bi (pc + len) L S s (fun x y => x + y)
  | .isub => z_bi (pc + len) L S s (fun x y => x - y)
  | .imul => z_bi (pc + len) L S s (fun x y => x * y)
  | .iand => z_bi (pc + len) L S s (fun x y => x &&& y)
  | .ixor => z_bi (pc + len) L S s (fun x y => x ^^^ y)
  | .irem => match S with
    | .int y :: .int x :: r => if y = 0 then none else some (pc + len, L, .int (x - x / y * y) :: r, s)
    | _ => none
  | .ladd => z_bl (pc + len) L S s (fun x y => x + y)
  | .lsub => z_bl (pc + len) L S s (fun x y => x - y)
  | .lmul => z_bl (pc + len) L S s (fun x y => x * y)
  | .land => z_bl (pc + len) L S s (fun x y => x &&& y)
  | .lxor => z_bl (pc + len) L S s (fun x y => x ^^^ y)
  | .lrem => match S with
    | .long y :: .long x :: r => if y = 0 then none else some (pc + len, L, .long (x - x / y * y) :: r, s)
    | _ => none
  | .lshl => z_sl (pc + len) L S s (fun x y => x <<< (y.toInt64 &&& 63))
  | .lushr => z_sl (pc + len) L S s (fun x y => (x.toUInt64 >>> (y.toInt64.toUInt64 &&& Int64.toUInt64 63)).toInt64)
  | .i2l => match S with
    | .int x :: r => some (pc + len, L, .long x.toInt64 :: r, s)
    | _ => none
  | .l2i => match S with
    | .long x :: r => some (pc + len, L, .int x.toInt32 :: r, s)
    | _ => none
  | .lcmp => match S with
    | .long y :: .long x :: r => some (pc + len, L, .int (lg_cmp x y) :: r, s)
    | _ => none
  | .dup => match S with
    | v :: r => if v.category = 1 then some (pc + len, L, v :: v :: r, s) else none
    | _ => none
  | .pop => match S with
    | v :: r => if v.category = 1 then some (pc + len, L, r, s) else none
    | _ => none
  | .dup2 => match S with
    | v :: w :: r => if v.category = 1 ∧ w.category = 1 then some (pc + len, L, v :: w :: v :: w :: r, s) else none
    | _ => none
  | .ifCond c o => match S with
    | .int v :: r => z_br (z_cc c v 0) pc len o L r s
    | _ => none
  | .if_icmp c o => match S with
    | .int w :: .int v :: r => z_br (z_cc c v w) pc len o L r s
    | _ => none
  | .if_acmp c o => match S with
    | w :: v :: r => if v.isRef = true ∧ w.isRef = true then z_br (match c with | .eq => decide (v = w) | .ne => !decide (v = w)) pc len o L r s else none
    | _ => none
  | .ifnull o => match S with
    | .ref _ :: r => some (pc + len, L, r, s)
    | .null :: r => z_to pc o L r s
    | _ => none
  | .ifnonnull o => match S with
    | .ref _ :: r => z_to pc o L r s
    | .null :: r => some (pc + len, L, r, s)
    | _ => none
  | .goto o => z_to pc o L S s
  | .tableswitch d lo hi os => match S with
    | .int v :: r => if v.toInt < lo ∨ hi < v.toInt then z_to pc d L r s else match os[(v.toInt - lo).toNat]? with
      | some o => z_to pc o L r s
      | none => none
    | _ => none
  | .getfield _ => match S with
    | .ref a :: r => z_psh (pc + len) L r s (z_get x.2.2 x.1 s.1 a)
    | _ => none
  | .putfield _ => match S with
    | v :: .ref a :: r => match z_put x.2.2 x.1 s a v with
      | some s' => some (pc + len, L, r, s')
      | none => none
    | _ => none
  | .iaload => match S with
    | .int j :: .ref a :: r => z_psh (pc + len) L r s (z_at [99, 100] s.1 a j)
    | _ => none
  | .laload => match S with
    | .int j :: .ref a :: r => z_psh (pc + len) L r s (z_at [101] s.1 a j)
    | _ => none
  | .baload => match S with
    | .int j :: .ref a :: r => z_psh (pc + len) L r s (z_at [102] s.1 a j)
    | _ => none
  | .aaload => match S with
    | .int j :: .ref a :: r => z_psh (pc + len) L r s (z_at [103, 104] s.1 a j)
    | _ => none
  | .iastore => match S with
    | .int v :: .int j :: .ref a :: r => match z_st 100 s a j (.int v) with
      | some s' => some (pc + len, L, r, s')
      | none => none
    | _ => none
  | .lastore => match S with
    | .long v :: .int j :: .ref a :: r => match z_st 101 s a j (.long v) with
      | some s' => some (pc + len, L, r, s')
      | none => none
    | _ => none
  | .bastore => match S with
    | .int v :: .int j :: .ref a :: r => match z_st 102 s a j (narrow .boolean (.int v)) with
      | some s' => some (pc + len, L, r, s')
      | none => none
    | _ => none
  | .aastore => match S with
    | v :: .int j :: .ref a :: r => match z_ast s a j v with
      | some s' => some (pc + len, L, r, s')
      | none => none
    | _ => none
  | .arraylength => match S with
    | .ref a :: r => z_psh (pc + len) L r s (z_len s.1 a)
    | _ => none
  | .new _ => if x.1 < 90 then match zcl[x.1]? with
      | some q => some (pc + len, L, .ref s.2.1 :: S, z_new x.1 q.2.2 (fun k => defaultValue (zty x.1 k)) s)
      | none => none
    else none
  | .newarray t => match z_aty t with
    | some q => z_nwa q.1 q.2.1 q.2.2 (pc + len) L S s
    | none => none
  | .anewarray _ => if x.1 = 103 ∨ x.1 = 104 then z_nwa x.1 .null 4 (pc + len) L S s else none
  | .checkcast _ => match S with
    | .ref a :: r => match s.1 a with
      | some o => if o.1 = x.1 ∧ o.1 ∈ zth then some (pc + len, L, .ref a :: r, s) else none
      | none => none
    | .null :: r => some (pc + len, L, .null :: r, s)
    | _ => none
  | .instanceof _ => match S with
    | .ref a :: r => match s.1 a with
      | some o => if o.1 ∈ zth then some (pc + len, L, .int (if o.1 = x.1 then 1 else 0) :: r, s) else none
      | none => none
    | .null :: r => some (pc + len, L, .int 0 :: r, s)
    | _ => none
  | .invokespecial _ => if x.2.1 = 7 then match S with
      | .ref _ :: r => if z_wb r = true then some (pc + len, L, r, s) else none
      | _ => none
    else none
  | .invokestatic _ => if x.2.1 = 8 then match S with
      | .int n :: .int dp :: .ref a1 :: .int sp :: .ref a0 :: r => if z_wb r = true then match z_cpy s a0 sp a1 dp n with
          | some s' => some (pc + len, L, r, s')
          | none => none
        else none
      | _ => none
    else none
  | _ => none
