/-! THE PLAIN MACHINE. A heap h: by address its kind and length (0 int[], 1 long[], 2 byte[], 3 boolean[], 4 Text[], 5 Land[], 6 a table that nobody writes, 10 + ci an object of class ci, 99 nothing), the ints, the longs, the references of every cell, the next address, the slots in all. Addresses 0 .. 3 are outside (two tables, the script, the text of the words); ours begin at 4. -/
abbrev jH : Type := (Nat → Nat × Nat) × (Nat → Nat → Int32) × (Nat → Nat → Int64) × (Nat → Nat → Option Nat) × Nat × Nat
abbrev jO : Type := Option Value × jH
abbrev jL : Type := List (Option Value)
abbrev jK : Type := Nat → jL → List Value → jH → Option jO
/-- an instruction: itself, the next pc, x, u, t, the place of its word in the tables, an int, a long, a switch -/
abbrev jE : Type := Instr × Nat × Nat × Nat × Nat × Nat × Int32 × Int64 × List (Int32 × Nat)
def j_k (h : jH) (a : Nat) : Nat := (h.1 a).1
def j_n (h : jH) (a : Nat) : Nat := (h.1 a).2
def j_I (h : jH) (a k : Nat) : Int32 := h.2.1 a k
def j_J (h : jH) (a k : Nat) : Int64 := h.2.2.1 a k
def j_R (h : jH) (a k : Nat) : Option Nat := h.2.2.2.1 a k
def j_c (h : jH) : Nat := h.2.2.2.2.1
def j_z (h : jH) : Nat := h.2.2.2.2.2
def j_u2 {α : Type} (f : Nat → Nat → α) (a k : Nat) (x : α) : Nat → Nat → α := va_up f a (va_up (f a) k x)
def j_sI (h : jH) (a k : Nat) (x : Int32) : jH := (h.1, j_u2 h.2.1 a k x, h.2.2)
def j_sJ (h : jH) (a k : Nat) (x : Int64) : jH := (h.1, h.2.1, j_u2 h.2.2.1 a k x, h.2.2.2)
def j_sR (h : jH) (a k : Nat) (x : Option Nat) : jH := (h.1, h.2.1, h.2.2.1, j_u2 h.2.2.2.1 a k x, h.2.2.2.2)
/-- a new cell of kind q and length n, at the next address -/
def j_new (h : jH) (q n : Nat) : jH := (va_up h.1 (j_c h) (q, n), va_up h.2.1 (j_c h) (fun _ => 0), va_up h.2.2.1 (j_c h) (fun _ => 0), va_up h.2.2.2.1 (j_c h) (fun _ => none), j_c h + 1, j_z h + n)
def j_cpI (h : jH) (a sp b dp n : Nat) : jH := (h.1, va_up h.2.1 b (va_cpy (h.2.1 a) (h.2.1 b) sp dp n), h.2.2)
def j_cpJ (h : jH) (a sp b dp n : Nat) : jH := (h.1, h.2.1, va_up h.2.2.1 b (va_cpy (h.2.2.1 a) (h.2.2.1 b) sp dp n), h.2.2.2)
/-- a clone of the int[] a -/
def j_cl (h : jH) (a : Nat) : jH := (va_up h.1 (j_c h) (0, j_n h a), va_up h.2.1 (j_c h) (h.2.1 a), va_up h.2.2.1 (j_c h) (fun _ => 0), va_up h.2.2.2.1 (j_c h) (fun _ => none), j_c h + 1, j_z h + j_n h a)
/-- an index within the array at a -/
abbrev j_in (h : jH) (a : Nat) (i : Int32) : Prop := ¬ i < 0 ∧ i.toNatClampNeg < j_n h a
/-- at least the words of a stack -/
def j_cat (S : List Value) : Nat := 2 * S.length
def j_sw (x : Int32) (d : Nat) (k : Nat → Option jO) : List (Int32 × Nat) → Option jO
  | [] => k d
  | (v, t) :: r => if x = v then k t else j_sw x d k r
abbrev jC : Type := Nat → List Value → jH → (Option Value → jH → Option jO) → Option jO
/-- a reference or null -/
def j_isr (v : Value) : Bool := match v with
  | .ref _ => true
  | .null => true
  | _ => false
/-- of one word, and ours -/
def j_is1 (v : Value) : Bool := match v with
  | .int _ => true
  | .ref _ => true
  | .null => true
  | _ => false
def j_rv (v : Value) (k : Nat → Option jO) : Option jO := match v with
  | .ref a => k a
  | _ => none
def j_ifn (v : Value) (a b : Option jO) : Option jO := match v with
  | .null => a
  | .ref _ => b
  | _ => none
def j_ov (v : Value) : Option Nat := match v with
  | .ref a => some a
  | _ => none
def j_ld (L : jL) (x : Nat) (k : Value → Option jO) : Option jO := match L[x]? with
  | some (some (.int v)) => k (.int v)
  | _ => none
def j_lda (L : jL) (x : Nat) (k : Value → Option jO) : Option jO := match L[x]? with
  | some (some v) => cond (j_isr v) (k v) none
  | _ => none
def j_ld2 (L : jL) (x : Nat) (k : Value → Option jO) : Option jO := match L[x]? with
  | some (some (.long v)) => (match L[x + 1]? with
    | some (some (.float _)) => k (.long v)
    | _ => none)
  | _ => none
def j_st (L : jL) (x : Nat) (S : List Value) (k : jL → List Value → Option jO) : Option jO := match S with
  | .int v :: S => k (L.set x (some (.int v))) S
  | _ => none
def j_sta (L : jL) (x : Nat) (S : List Value) (k : jL → List Value → Option jO) : Option jO := match S with
  | v :: S => cond (j_isr v) (k (L.set x (some v)) S) none
  | _ => none
def j_st2 (L : jL) (x : Nat) (S : List Value) (k : jL → List Value → Option jO) : Option jO := match S with
  | .long v :: S => k ((L.set x (some (.long v))).set (x + 1) (some (.float 0))) S
  | _ => none
def j_i1 (S : List Value) (k : Int32 → List Value → Option jO) : Option jO := match S with
  | .int a :: S => k a S
  | _ => none
def j_i2 (S : List Value) (k : Int32 → Int32 → List Value → Option jO) : Option jO := match S with
  | .int b :: .int a :: S => k a b S
  | _ => none
def j_l2 (S : List Value) (k : Int64 → Int64 → List Value → Option jO) : Option jO := match S with
  | .long b :: .long a :: S => k a b S
  | _ => none
def j_l1 (S : List Value) (k : Int64 → List Value → Option jO) : Option jO := match S with
  | .long a :: S => k a S
  | _ => none
def j_li (S : List Value) (k : Int64 → Int32 → List Value → Option jO) : Option jO := match S with
  | .int b :: .long a :: S => k a b S
  | _ => none
/-- index over array -/
def j_ai (S : List Value) (k : Nat → Int32 → List Value → Option jO) : Option jO := match S with
  | .int i :: v :: S => j_rv v fun a => k a i S
  | _ => none
def j_r1 (S : List Value) (k : Nat → List Value → Option jO) : Option jO := match S with
  | v :: S => j_rv v fun a => k a S
  | _ => none
/-- one step; what comes next is asked of k -/
def jst (C : jC) (rt : Nat) (en : jE) (L : jL) (S : List Value) (h : jH) (k : jK) : Option jO :=
  match en with
  | (i, nx, x, u, t, _, v, w, sw) => match i with
    | .iconst _ => k nx L (.int v :: S) h
    | .bipush _ => k nx L (.int v :: S) h
    | .sipush _ => k nx L (.int v :: S) h
    | .ldc _ => (match t with
      | 0 => k nx L (.int v :: S) h
      | _ => k nx L (.ref 3 :: S) h)
    | .ldc_w _ => k nx L (.int v :: S) h
    | .ldc2_w _ => k nx L (.long w :: S) h
    | .lconst _ => k nx L (.long w :: S) h
    | .aconst_null => k nx L (.null :: S) h
    | .iload _ => j_ld L x fun v => k nx L (v :: S) h
    | .iload_n _ => j_ld L x fun v => k nx L (v :: S) h
    | .aload _ => j_lda L x fun v => k nx L (v :: S) h
    | .aload_n _ => j_lda L x fun v => k nx L (v :: S) h
    | .lload _ => j_ld2 L x fun v => k nx L (v :: S) h
    | .lload_n _ => j_ld2 L x fun v => k nx L (v :: S) h
    | .istore _ => j_st L x S fun L S => k nx L S h
    | .istore_n _ => j_st L x S fun L S => k nx L S h
    | .astore _ => j_sta L x S fun L S => k nx L S h
    | .astore_n _ => j_sta L x S fun L S => k nx L S h
    | .lstore _ => j_st2 L x S fun L S => k nx L S h
    | .lstore_n _ => j_st2 L x S fun L S => k nx L S h
    | .iinc _ _ => (match L[x]? with
      | some (some (.int a)) => k nx (L.set x (some (.int (a + v)))) S h
      | _ => none)
    | .iadd => j_i2 S fun a b S => k nx L (.int (a + b) :: S) h
    | .isub => j_i2 S fun a b S => k nx L (.int (a - b) :: S) h
    | .imul => j_i2 S fun a b S => k nx L (.int (a * b) :: S) h
    | .iand => j_i2 S fun a b S => k nx L (.int (a &&& b) :: S) h
    | .ior => j_i2 S fun a b S => k nx L (.int (a ||| b) :: S) h
    | .ixor => j_i2 S fun a b S => k nx L (.int (a ^^^ b) :: S) h
    | .ishl => j_i2 S fun a b S => k nx L (.int (a <<< (b &&& 31)) :: S) h
    | .ishr => j_i2 S fun a b S => k nx L (.int (a >>> (b &&& 31)) :: S) h
    | .iushr => j_i2 S fun a b S => k nx L (.int (a.toUInt32 >>> (b.toUInt32 &&& Int32.toUInt32 31)).toInt32 :: S) h
    | .idiv => j_i2 S fun a b S => if b = 0 then none else k nx L (.int (a / b) :: S) h
    | .irem => j_i2 S fun a b S => if b = 0 then none else k nx L (.int (a - a / b * b) :: S) h
    | .ineg => j_i1 S fun a S => k nx L (.int (-a) :: S) h
    | .i2b => j_i1 S fun a S => k nx L (.int a.toInt8.toInt32 :: S) h
    | .i2c => j_i1 S fun a S => k nx L (.int (a.toUInt32 % 65536).toInt32 :: S) h
    | .i2l => j_i1 S fun a S => k nx L (.long a.toInt64 :: S) h
    | .l2i => j_l1 S fun a S => k nx L (.int a.toInt32 :: S) h
    | .ladd => j_l2 S fun a b S => k nx L (.long (a + b) :: S) h
    | .lsub => j_l2 S fun a b S => k nx L (.long (a - b) :: S) h
    | .lmul => j_l2 S fun a b S => k nx L (.long (a * b) :: S) h
    | .land => j_l2 S fun a b S => k nx L (.long (a &&& b) :: S) h
    | .lor => j_l2 S fun a b S => k nx L (.long (a ||| b) :: S) h
    | .lxor => j_l2 S fun a b S => k nx L (.long (a ^^^ b) :: S) h
    | .ldiv => j_l2 S fun a b S => if b = 0 then none else k nx L (.long (a / b) :: S) h
    | .lrem => j_l2 S fun a b S => if b = 0 then none else k nx L (.long (a - a / b * b) :: S) h
    | .lcmp => j_l2 S fun a b S => k nx L (.int (lg_cmp a b) :: S) h
    | .lshl => j_li S fun a b S => k nx L (.long (a <<< (b.toInt64 &&& 63)) :: S) h
    | .lshr => j_li S fun a b S => k nx L (.long (a >>> (b.toInt64 &&& 63)) :: S) h
    | .dup => (match S with
      | v :: S => cond (j_is1 v) (k nx L (v :: v :: S) h) none
      | _ => none)
    | .dup2 => j_ai S fun a i S => k nx L (.int i :: .ref a :: .int i :: .ref a :: S) h
    | .pop => (match S with
      | v :: S => cond (j_is1 v) (k nx L S h) none
      | _ => none)
    | .goto _ => k x L S h
    | .ifCond c _ => j_i1 S fun a S => (match c with
      | .eq => if a = 0 then k x L S h else k nx L S h
      | .ne => if a = 0 then k nx L S h else k x L S h
      | .lt => if a < 0 then k x L S h else k nx L S h
      | .ge => if a < 0 then k nx L S h else k x L S h
      | .gt => if 0 < a then k x L S h else k nx L S h
      | .le => if 0 < a then k nx L S h else k x L S h)
    | .if_icmp c _ => j_i2 S fun a b S => (match c with
      | .eq => if a = b then k x L S h else k nx L S h
      | .ne => if a = b then k nx L S h else k x L S h
      | .lt => if a < b then k x L S h else k nx L S h
      | .ge => if a < b then k nx L S h else k x L S h
      | .gt => if b < a then k x L S h else k nx L S h
      | .le => if b < a then k nx L S h else k x L S h)
    | .ifnull _ => (match S with
      | v :: S => j_ifn v (k x L S h) (k nx L S h)
      | _ => none)
    | .ifnonnull _ => (match S with
      | v :: S => j_ifn v (k nx L S h) (k x L S h)
      | _ => none)
    | .tableswitch _ _ _ _ => j_i1 S fun a S => j_sw a x (fun p => k p L S h) sw
    | .lookupswitch _ _ => j_i1 S fun a S => j_sw a x (fun p => k p L S h) sw
    | .getfield _ => j_r1 S fun a S => if j_k h a = u then (match t with
      | 0 => k nx L (.int (j_I h a x) :: S) h
      | 3 => k nx L (.int (j_I h a x) :: S) h
      | 1 => k nx L (.long (j_J h a x) :: S) h
      | _ => k nx L (va_rf (j_R h a x) :: S) h) else none
    | .putfield _ => (match t with
      | 0 => (match S with
        | .int y :: va :: S => j_rv va fun a => if j_k h a = u then k nx L S (j_sI h a x y) else none
        | _ => none)
      | 3 => (match S with
        | .int y :: va :: S => j_rv va fun a => if j_k h a = u ∧ (y = 0 ∨ y = 1) then k nx L S (j_sI h a x y) else none
        | _ => none)
      | 1 => (match S with
        | .long y :: va :: S => j_rv va fun a => if j_k h a = u then k nx L S (j_sJ h a x y) else none
        | _ => none)
      | _ => (match S with
        | v :: va :: S => j_rv va fun a => cond (j_isr v) (if j_k h a = u then k nx L S (j_sR h a x (j_ov v)) else none) none
        | _ => none))
    | .getstatic _ => k nx L (.ref x :: S) h
    | .iaload => j_ai S fun a i S => if (j_k h a = 0 ∨ j_k h a = 6) ∧ j_in h a i then k nx L (.int (j_I h a i.toNatClampNeg) :: S) h else none
    | .baload => j_ai S fun a i S => if (j_k h a = 2 ∨ j_k h a = 3) ∧ j_in h a i then k nx L (.int (j_I h a i.toNatClampNeg) :: S) h else none
    | .laload => j_ai S fun a i S => if j_k h a = 1 ∧ j_in h a i then k nx L (.long (j_J h a i.toNatClampNeg) :: S) h else none
    | .aaload => j_ai S fun a i S => if (j_k h a = 4 ∨ j_k h a = 5) ∧ j_in h a i then k nx L (va_rf (j_R h a i.toNatClampNeg) :: S) h else none
    | .iastore => j_i1 S fun y S => j_ai S fun a i S => if j_k h a = 0 ∧ j_in h a i then k nx L S (j_sI h a i.toNatClampNeg y) else none
    | .lastore => j_l1 S fun y S => j_ai S fun a i S => if j_k h a = 1 ∧ j_in h a i then k nx L S (j_sJ h a i.toNatClampNeg y) else none
    | .bastore => j_i1 S fun y S => j_ai S fun a i S => (match t with
      | 2 => if j_k h a = 2 ∧ j_in h a i then k nx L S (j_sI h a i.toNatClampNeg y.toInt8.toInt32) else none
      | _ => if j_k h a = 3 ∧ j_in h a i ∧ (y = 0 ∨ y = 1) then k nx L S (j_sI h a i.toNatClampNeg y) else none)
    | .aastore => (match S with
      | v :: .int i :: va :: S => j_rv va fun a => cond (j_isr v) (if ((j_k h a = 4 ∧ (j_ov v).all (fun y => j_k h y == 15)) ∨ (j_k h a = 5 ∧ (j_ov v).all (fun y => j_k h y == 12))) ∧ j_in h a i then k nx L S (j_sR h a i.toNatClampNeg (j_ov v)) else none) none
      | _ => none)
    | .arraylength => j_r1 S fun a S => if j_k h a < 7 then k nx L (.int (Int32.ofNat (j_n h a)) :: S) h else none
    | .new _ => k nx L (.ref (j_c h) :: S) (j_new h u x)
    | .newarray _ => j_i1 S fun n S => if ¬ n < 0 ∧ n.toNatClampNeg ≤ 50000 then k nx L (.ref (j_c h) :: S) (j_new h u n.toNatClampNeg) else none
    | .anewarray _ => j_i1 S fun n S => if ¬ n < 0 ∧ n.toNatClampNeg ≤ 50000 then k nx L (.ref (j_c h) :: S) (j_new h u n.toNatClampNeg) else none
    | .checkcast _ => j_r1 S fun a S => if j_k h a = 0 then k nx L (.ref a :: S) h else none
    | .invokespecial _ => (match t with
      | 1 => j_r1 S fun _ S => cond (Nat.ble (j_cat S) 8) (k nx L S h) none
      | _ => cond (Nat.ble u S.length && Nat.ble (j_cat (S.drop u)) 8) (C x (S.take u).reverse h fun r h => k nx L (r.toList ++ S.drop u) h) none)
    | .invokestatic _ => (match t with
      | 2 => (match S with
        | .int n :: .int dp :: vb :: .int sp :: va :: S => j_rv vb fun b => j_rv va fun a => if (j_k h a = 0 ∧ j_k h b = 0 ∧ ¬ sp < 0 ∧ ¬ dp < 0 ∧ ¬ n < 0) ∧ sp.toNatClampNeg + n.toNatClampNeg ≤ j_n h a ∧ dp.toNatClampNeg + n.toNatClampNeg ≤ j_n h b then cond (Nat.ble (j_cat S) 8) (k nx L S (j_cpI h a sp.toNatClampNeg b dp.toNatClampNeg n.toNatClampNeg)) none else none
        | _ => none)
      | 3 => (match S with
        | .int n :: .int dp :: vb :: .int sp :: va :: S => j_rv vb fun b => j_rv va fun a => if (j_k h a = 1 ∧ j_k h b = 1 ∧ ¬ sp < 0 ∧ ¬ dp < 0 ∧ ¬ n < 0) ∧ sp.toNatClampNeg + n.toNatClampNeg ≤ j_n h a ∧ dp.toNatClampNeg + n.toNatClampNeg ≤ j_n h b then cond (Nat.ble (j_cat S) 8) (k nx L S (j_cpJ h a sp.toNatClampNeg b dp.toNatClampNeg n.toNatClampNeg)) none else none
        | _ => none)
      | _ => cond (Nat.ble u S.length && Nat.ble (j_cat (S.drop u)) 8) (C x (S.take u).reverse h fun r h => k nx L (r.toList ++ S.drop u) h) none)
    | .invokevirtual _ => (match t with
      | 4 => j_r1 S fun a S => if j_k h a = 0 then cond (Nat.ble (j_cat S) 8) (k nx L (.ref (j_c h) :: S) (j_cl h a)) none else none
      | _ => cond (Nat.ble u S.length && Nat.ble (j_cat (S.drop u)) 8) (C x (S.take u).reverse h fun r h => k nx L (r.toList ++ S.drop u) h) none)
    | .ireturn => (match S with
      | [.int y] => (match rt with
        | 0 => some (some (.int y), h)
        | 1 => if y = 0 ∨ y = 1 then some (some (.int y), h) else none
        | _ => none)
      | _ => none)
    | .lreturn => (match S with
      | [.long y] => (match rt with
        | 2 => some (some (.long y), h)
        | _ => none)
      | _ => none)
    | .areturn => (match S with
      | [v] => (match rt with
        | 3 => cond (j_isr v) (some (some v, h)) none
        | _ => none)
      | _ => none)
    | .return_ => (match S with
      | [] => (match rt with
        | 4 => some (none, h)
        | _ => none)
      | _ => none)
    | _ => none
/-- the run from pc on, up to a place that T knows -/
def jrun (C : jC) (rt : Nat) (cd : Nat → jE) (T : Nat → Option (jL → List Value → jH → Option jO)) : Nat → jK
  | 0 => fun _ _ _ _ => none
  | f + 1 => fun pc L S h => match T pc with
    | some g => g L S h
    | none => jst C rt (cd pc) L S h (jrun C rt cd T f)

/-- the places that a method's text names -/
def j_T (l : List (Nat × (jL → List Value → jH → Option jO))) (pc : Nat) : Option (jL → List Value → jH → Option jO) := match l with
  | [] => none
  | (p, g) :: r => cond (Nat.beq p pc) (some g) (j_T r pc)
abbrev jc1 : Type := List Value → jH → (Option Value → jH → Option jO) → Option jO
def j_C (l : List (Nat × jc1)) : jC := fun c args h k => match l with
  | [] => none
  | (p, g) :: r => cond (Nat.beq p c) (g args h k) (j_C r c args h k)
def jbI (o : Option jO) (f : Int32 → jH → Option jO) : Option jO := match o with
  | some (some (.int r), h) => f r h
  | _ => none
def jbJ (o : Option jO) (f : Int64 → jH → Option jO) : Option jO := match o with
  | some (some (.long r), h) => f r h
  | _ => none
def jbV (o : Option jO) (f : jH → Option jO) : Option jO := match o with
  | some (none, h) => f h
  | _ => none
def jbR (o : Option jO) (f : Value → jH → Option jO) : Option jO := match o with
  | some (some v, h) => cond (j_isr v) (f v h) none
  | _ => none
/-- the rounds that a loop may have -/
def jF : Nat := 5000
/-- the depth that the recursive ones may have -/
def jD : Nat := 60
