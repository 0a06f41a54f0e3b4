/-! what one instruction does to a picture -/
abbrev vm_I : Type := Instr ⊕ (Value × Nat) ⊕ (Nat × Nat × Nat × Nat × Nat) ⊕ (Nat × Int32)
abbrev vm_R : Type := Option (Prop × vm_S)
def G_ty : List FieldType := [.byte, .int, .long, .boolean, .object "ImageLoader$Segment"]
def G_mag : Nat → Int32
  | 0 => 127
  | 1 => 69
  | 2 => 76
  | 3 => 70
  | _ => 1
def vm_li (n : Nat) (S : vm_S) : vm_R := match vm_g S.1 n with
  | some (some (.int x)) => some (True, S.1, .int x :: S.2.1, S.2.2)
  | _ => none
def vm_ll (n : Nat) (S : vm_S) : vm_R := match vm_g S.1 n with
  | some (some (.long x)) => some (True, S.1, .long x :: S.2.1, S.2.2)
  | _ => none
def vm_la (n : Nat) (S : vm_S) : vm_R := match vm_g S.1 n with
  | some (some (.ref x)) => some (True, S.1, .ref x :: S.2.1, S.2.2)
  | _ => none
def vm_si (n : Nat) (S : vm_S) : vm_R := match S.2.1 with
  | .int x :: st => bif Nat.blt n S.1.length then some (True, vm_s1 S.1 n (.int x), st, S.2.2) else none
  | _ => none
def vm_sa (n : Nat) (S : vm_S) : vm_R := match S.2.1 with
  | .ref x :: st => bif Nat.blt n S.1.length then some (True, vm_s1 S.1 n (.ref x), st, S.2.2) else none
  | _ => none
def vm_sl (n : Nat) (S : vm_S) : vm_R := match S.2.1 with
  | .long x :: st => bif Nat.blt (n + 1) S.1.length then some (True, vm_s2 S.1 n (.long x), st, S.2.2) else none
  | _ => none
def vm_inc (n : Nat) (k : Int32) (S : vm_S) : vm_R := match vm_g S.1 n with
  | some (some (.int x)) => bif Nat.blt n S.1.length then some (True, vm_s1 S.1 n (.int (x + k)), S.2.1, S.2.2) else none
  | _ => none
def vm_ii (f : Int32 → Int32 → Int32) (S : vm_S) : vm_R := match S.2.1 with
  | .int y :: .int x :: st => some (True, S.1, .int (f x y) :: st, S.2.2)
  | _ => none
def vm_iq (f : Int32 → Int32 → Int32) (S : vm_S) : vm_R := match S.2.1 with
  | .int y :: .int x :: st => some (¬ y = 0, S.1, .int (f x y) :: st, S.2.2)
  | _ => none
def vm_jj (f : Int64 → Int64 → Int64) (S : vm_S) : vm_R := match S.2.1 with
  | .long y :: .long x :: st => some (True, S.1, .long (f x y) :: st, S.2.2)
  | _ => none
def vm_jq (f : Int64 → Int64 → Int64) (S : vm_S) : vm_R := match S.2.1 with
  | .long y :: .long x :: st => some (¬ y = 0, S.1, .long (f x y) :: st, S.2.2)
  | _ => none
def vm_ji (f : Int64 → Int32 → Int64) (S : vm_S) : vm_R := match S.2.1 with
  | .int y :: .long x :: st => some (True, S.1, .long (f x y) :: st, S.2.2)
  | _ => none
def vm_1i (f : Int32 → Value) (S : vm_S) : vm_R := match S.2.1 with
  | .int x :: st => some (True, S.1, f x :: st, S.2.2)
  | _ => none
def vm_1j (f : Int64 → Value) (S : vm_S) : vm_R := match S.2.1 with
  | .long x :: st => some (True, S.1, f x :: st, S.2.2)
  | _ => none
def vm_lcmp (S : vm_S) : vm_R := match S.2.1 with
  | .long y :: .long x :: st => some (True, S.1, .int (lg_cmp x y) :: st, S.2.2)
  | _ => none
def vm_dup (S : vm_S) : vm_R := match S.2.1 with
  | .int x :: st => some (True, S.1, .int x :: .int x :: st, S.2.2)
  | .ref x :: st => some (True, S.1, .ref x :: .ref x :: st, S.2.2)
  | _ => none
def vm_pop (S : vm_S) : vm_R := match S.2.1 with
  | .int x :: st => some (True, S.1, st, S.2.2)
  | .ref x :: st => some (True, S.1, st, S.2.2)
  | _ => none
/-- an array of ints at a place, of a kind -/
def vm_ai (cs : List va_E) (a : Nat) : Option (Nat × Nat × (Nat → Int32) × FieldType) := match vm_g cs a with
  | some (.inl (t, n, .inl f)) => match vm_g G_ty t with
    | some ty => some (t, n, f, ty)
    | none => none
  | _ => none
def vm_aj (cs : List va_E) (a : Nat) : Option (Nat × Nat × (Nat → Int64) × FieldType) := match vm_g cs a with
  | some (.inl (t, n, .inr (.inl f))) => match vm_g G_ty t with
    | some ty => some (t, n, f, ty)
    | none => none
  | _ => none
def vm_bald (S : vm_S) : vm_R := match S.2.1 with
  | .int i :: .ref a :: st => match vm_ai S.2.2 a with
    | some (_, n, f, .byte) => some (vp_in i n, S.1, .int (f i.toNatClampNeg) :: st, S.2.2)
    | some (_, n, f, .boolean) => some (vp_in i n, S.1, .int (f i.toNatClampNeg) :: st, S.2.2)
    | _ => none
  | _ => none
def vm_iald (S : vm_S) : vm_R := match S.2.1 with
  | .int i :: .ref a :: st => bif Nat.beq a 1000000 then some (vp_in i 7, S.1, .int (G_mag i.toNatClampNeg) :: st, S.2.2) else match vm_ai S.2.2 a with
    | some (_, n, f, .int) => some (vp_in i n, S.1, .int (f i.toNatClampNeg) :: st, S.2.2)
    | _ => none
  | _ => none
def vm_lald (S : vm_S) : vm_R := match S.2.1 with
  | .int i :: .ref a :: st => match vm_aj S.2.2 a with
    | some (_, n, f, .long) => some (vp_in i n, S.1, .long (f i.toNatClampNeg) :: st, S.2.2)
    | _ => none
  | _ => none
def vm_bast (S : vm_S) : vm_R := match S.2.1 with
  | .int x :: .int i :: .ref a :: st => match vm_ai S.2.2 a with
    | some (t, n, f, .byte) => some (vp_in i n, S.1, st, vm_u S.2.2 a (.inl (t, n, .inl (upd f i.toNatClampNeg (vp_nar .byte x)))))
    | some (t, n, f, .boolean) => some (vp_in i n, S.1, st, vm_u S.2.2 a (.inl (t, n, .inl (upd f i.toNatClampNeg (vp_nar .boolean x)))))
    | _ => none
  | _ => none
def vm_iast (S : vm_S) : vm_R := match S.2.1 with
  | .int x :: .int i :: .ref a :: st => match vm_ai S.2.2 a with
    | some (t, n, f, .int) => some (vp_in i n, S.1, st, vm_u S.2.2 a (.inl (t, n, .inl (upd f i.toNatClampNeg x))))
    | _ => none
  | _ => none
def vm_last (S : vm_S) : vm_R := match S.2.1 with
  | .long x :: .int i :: .ref a :: st => match vm_aj S.2.2 a with
    | some (t, n, f, .long) => some (vp_in i n, S.1, st, vm_u S.2.2 a (.inl (t, n, .inr (.inl (vp_updL f i.toNatClampNeg x)))))
    | _ => none
  | _ => none
def vm_alen (S : vm_S) : vm_R := match S.2.1 with
  | .ref a :: st => bif Nat.beq a 1000000 then some (True, S.1, .int 7 :: st, S.2.2) else match vm_g S.2.2 a with
    | some (.inl (t, x)) => match vm_g G_ty t with
      | some _ => some (True, S.1, .int (nI x.1) :: st, S.2.2)
      | none => none
    | _ => none
  | _ => none
def vm_p (i : Instr) (S : vm_S) : vm_R := match i with
  | .iload_n n => vm_li n.val S
  | .iload n => vm_li n S
  | .lload_n n => vm_ll n.val S
  | .lload n => vm_ll n S
  | .aload_n n => vm_la n.val S
  | .aload n => vm_la n S
  | .istore_n n => vm_si n.val S
  | .istore n => vm_si n S
  | .lstore_n n => vm_sl n.val S
  | .lstore n => vm_sl n S
  | .astore_n n => vm_sa n.val S
  | .astore n => vm_sa n S
  | .iadd => vm_ii (fun x y => x + y) S
  | .isub => vm_ii (fun x y => x - y) S
  | .imul => vm_ii (fun x y => x * y) S
  | .iand => vm_ii (fun x y => x &&& y) S
  | .ior => vm_ii (fun x y => x ||| y) S
  | .ixor => vm_ii (fun x y => x ^^^ y) S
  | .ishl => vm_ii (fun x y => x <<< (y &&& 31)) S
  | .ishr => vm_ii (fun x y => x >>> (y &&& 31)) S
  | .iushr => vm_ii (fun x y => (x.toUInt32 >>> (y.toUInt32 &&& Int32.toUInt32 31)).toInt32) S
  | .idiv => vm_iq (fun x y => x / y) S
  | .irem => vm_iq (fun x y => x - x / y * y) S
  | .ineg => vm_1i (fun x => .int (-x)) S
  | .i2l => vm_1i (fun x => .long x.toInt64) S
  | .i2b => vm_1i (fun x => .int x.toInt8.toInt32) S
  | .l2i => vm_1j (fun x => .int x.toInt32) S
  | .ladd => vm_jj (fun x y => x + y) S
  | .lsub => vm_jj (fun x y => x - y) S
  | .lmul => vm_jj (fun x y => x * y) S
  | .land => vm_jj (fun x y => x &&& y) S
  | .lor => vm_jj (fun x y => x ||| y) S
  | .ldiv => vm_jq (fun x y => x / y) S
  | .lrem => vm_jq (fun x y => x - x / y * y) S
  | .lshl => vm_ji (fun x y => x <<< (y.toInt64 &&& 63)) S
  | .lshr => vm_ji (fun x y => x >>> (y.toInt64 &&& 63)) S
  | .lushr => vm_ji (fun x y => (x.toUInt64 >>> (y.toInt64.toUInt64 &&& Int64.toUInt64 63)).toInt64) S
  | .lcmp => vm_lcmp S
  | .dup => vm_dup S
  | .pop => vm_pop S
  | .baload => vm_bald S
  | .iaload => vm_iald S
  | .laload => vm_lald S
  | .bastore => vm_bast S
  | .iastore => vm_iast S
  | .lastore => vm_last S
  | .arraylength => vm_alen S
  | _ => none
def vm_len (i : Instr) : Nat := match i with
  | .iload _ => 2
  | .lload _ => 2
  | .aload _ => 2
  | .istore _ => 2
  | .lstore _ => 2
  | .astore _ => 2
  | _ => 1
def vm_gf (ci k : Nat) (S : vm_S) : vm_R := match S.2.1 with
  | .ref a :: st => match vm_g S.2.2 a with
    | some (.inr (c, fs)) => match Nat.beq c ci, vm_g fs k with
      | true, some v => some (True, S.1, v :: st, S.2.2)
      | _, _ => none
    | _ => none
  | _ => none
/-- a value that a field of that kind takes as it is -/
def vm_fit (ty : FieldType) (v : Value) : Bool := match ty, v with
  | .int, .int _ => true
  | .long, .long _ => true
  | .object _, .ref _ => true
  | .array _, .ref _ => true
  | _, _ => false
def G_ft (ci k : Nat) : FieldType := match ci with
  | 0 => tyX0 k
  | 1 => tyX1 k
  | 2 => tyX2 k
  | 3 => tyX3 k
  | 4 => tyX4 k
  | _ => tyX5 k
def vm_pf (ci k : Nat) (S : vm_S) : vm_R := match S.2.1 with
  | v :: .ref a :: st => match vm_g S.2.2 a with
    | some (.inr (c, fs)) => match Nat.beq c ci, Nat.blt k fs.length, vm_fit (G_ft ci k) v with
      | true, true, true => some (True, S.1, st, vm_u S.2.2 a (.inr (ci, vm_u fs k v)))
      | _, _, _ => none
    | _ => none
  | _ => none
def vm_x1 (i : vm_I) (S : vm_S) : vm_R := match i with
  | .inl j => vm_p j S
  | .inr (.inl (v, _)) => some (True, S.1, v :: S.2.1, S.2.2)
  | .inr (.inr (.inl (0, _, _, ci, k))) => vm_gf ci k S
  | .inr (.inr (.inl (1, _, _, ci, k))) => vm_pf ci k S
  | .inr (.inr (.inl (2, _, _, ci, k))) => vm_gf ci k S
  | .inr (.inr (.inl (3, _, _, ci, k))) => vm_pf ci k S
  | .inr (.inr (.inl (4, _, _, _, _))) => some (True, S.1, .ref 1000000 :: S.2.1, S.2.2)
  | .inr (.inr (.inl _)) => none
  | .inr (.inr (.inr (n, k))) => vm_inc n k S
