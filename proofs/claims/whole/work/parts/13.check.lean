/-! THE CHECK OF AN ENTRY, and the step for every instruction -/
def jdc (cc : ByteArray) (pc : Nat) (i : Instr) : Option Nat := match decode cc pc with
  | .ok (i', n) => if i' = i then some n else none
  | .error _ => none
theorem jdc_of {cc : ByteArray} {pc n : Nat} {i : Instr} (h : jdc cc pc i = some n) : decode cc pc = .ok (i, n) := by
  unfold jdc at h
  split at h
  · rename_i i' n' hd
    split at h
    · rename_i hi
      cases h
      rw [hd, hi]
    · cases h
  · cases h
def jlk (own : String) (nL : Nat) (ini : Bool) (pc n : Nat) (en : jE) : Bool := match en with
  | (i, _, x, u, t, z, v, w, sw) => match i with
    | .aaload => decide (n = 1)
    | .aastore => decide (n = 1)
    | .aconst_null => decide (n = 1)
    | .areturn => decide (n = 1)
    | .arraylength => decide (n = 1)
    | .baload => decide (n = 1)
    | .bastore => decide (n = 1)
    | .dup => decide (n = 1)
    | .dup2 => decide (n = 1)
    | .i2b => decide (n = 1)
    | .i2c => decide (n = 1)
    | .i2l => decide (n = 1)
    | .iadd => decide (n = 1)
    | .iaload => decide (n = 1)
    | .iand => decide (n = 1)
    | .iastore => decide (n = 1)
    | .idiv => decide (n = 1)
    | .imul => decide (n = 1)
    | .ineg => decide (n = 1)
    | .ior => decide (n = 1)
    | .irem => decide (n = 1)
    | .ireturn => decide (n = 1)
    | .ishl => decide (n = 1)
    | .ishr => decide (n = 1)
    | .isub => decide (n = 1)
    | .iushr => decide (n = 1)
    | .ixor => decide (n = 1)
    | .l2i => decide (n = 1)
    | .ladd => decide (n = 1)
    | .laload => decide (n = 1)
    | .land => decide (n = 1)
    | .lastore => decide (n = 1)
    | .lcmp => decide (n = 1)
    | .ldiv => decide (n = 1)
    | .lmul => decide (n = 1)
    | .lor => decide (n = 1)
    | .lrem => decide (n = 1)
    | .lreturn => decide (n = 1)
    | .lshl => decide (n = 1)
    | .lshr => decide (n = 1)
    | .lsub => decide (n = 1)
    | .lxor => decide (n = 1)
    | .pop => decide (n = 1)
    | .return_ => decide (n = 1)
    | .iconst a => decide (n = 1) && decide (Int32.ofInt a = v)
    | .bipush a => decide (n = 2) && decide ((Int8.ofInt a).toInt32 = v)
    | .sipush a => decide (n = 3) && decide ((Int16.ofInt a).toInt32 = v)
    | .ldc a => decide (n = 2) && ((decide (t = 0) && jw z (.constant own a v)) || (decide (t = 1) && (decide (own = "FootMaps$Reader") && decide (a = 95))))
    | .ldc_w a => decide (n = 3) && jw z (.constant own a v)
    | .ldc2_w a => decide (n = 3) && jw z (.constantLong own a w)
    | .lconst a => decide (n = 1) && decide (Int64.ofNat (a : Nat) = w)
    | .iload a => decide (n = 2) && decide (a = x)
    | .iload_n a => decide (n = 1) && decide ((a : Nat) = x)
    | .aload a => decide (n = 2) && decide (a = x)
    | .aload_n a => decide (n = 1) && decide ((a : Nat) = x)
    | .lload a => decide (n = 2) && decide (a = x)
    | .lload_n a => decide (n = 1) && decide ((a : Nat) = x)
    | .istore a => decide (n = 2) && (decide (a = x) && decide (x < nL))
    | .istore_n a => decide (n = 1) && (decide ((a : Nat) = x) && decide (x < nL))
    | .astore a => decide (n = 2) && (decide (a = x) && decide (x < nL))
    | .astore_n a => decide (n = 1) && (decide ((a : Nat) = x) && decide (x < nL))
    | .lstore a => decide (n = 2) && (decide (a = x) && decide (x + 1 < nL))
    | .lstore_n a => decide (n = 1) && (decide ((a : Nat) = x) && decide (x + 1 < nL))
    | .iinc a b => decide (n = 3) && (decide (a = x) && (decide (Int32.ofInt b = v) && decide (x < nL)))
    | .goto o => decide (n = 3) && decide ((pc : Int) + o = (x : Int))
    | .ifnull o => decide (n = 3) && decide ((pc : Int) + o = (x : Int))
    | .ifnonnull o => decide (n = 3) && decide ((pc : Int) + o = (x : Int))
    | .ifCond _ o => decide (n = 3) && decide ((pc : Int) + o = (x : Int))
    | .if_icmp _ o => decide (n = 3) && decide ((pc : Int) + o = (x : Int))
    | .tableswitch d lo hi offs => decide ((pc : Int) + d = (x : Int)) && (decide (-2 ^ 31 ≤ lo) && (decide (lo + offs.toList.length ≤ 2 ^ 31) && (offs.toList.all (fun o => decide (0 ≤ (pc : Int) + o)) && (decide (hi + 1 = lo + offs.toList.length) && decide (sw = j_tsw pc lo offs.toList)))))
    | .lookupswitch d ps => decide ((pc : Int) + d = (x : Int)) && (ps.toList.all (fun q => decide (-2 ^ 31 ≤ q.1 ∧ q.1 < 2 ^ 31 ∧ 0 ≤ (pc : Int) + q.2)) && ((ps.toList.zip (ps.toList.drop 1)).all (fun (a, next) => a.1 < next.1) && decide (sw = j_lsw pc ps.toList)))
    | .getfield a => decide (n = 3) && (decide (10 ≤ u ∧ u < 18) && (decide (x < jNf (u - 10)) && (decide (jft (u - 10) x = t) && jw z (.fieldLink own a (jTf (u - 10) x).1 (jTf (u - 10) x).2.1 (jTf (u - 10) x).2.2.1))))
    | .putfield a => decide (n = 3) && (decide (10 ≤ u ∧ u < 18) && (decide (x < jNf (u - 10)) && (decide (jft (u - 10) x = t) && (jw z (.fieldLink own a (jTf (u - 10) x).1 (jTf (u - 10) x).2.1 (jTf (u - 10) x).2.2.1) && decide ((jTf (u - 10) x).2.2.2 = false ∨ ((jTf (u - 10) x).2.2.2 = true ∧ ini = true ∧ (jTf (u - 10) x).1 = own))))))
    | .getstatic a => decide (n = 3) && ((decide (x = 0) && jw z (.fieldLink own a "FootMaps" "MOST_TERM" "[I")) || (decide (x = 1) && decide (Cond.fieldLinkNest own a "FootMaps" "WAYS_LOWEST_FIRST" "[I" "FootMaps" ∈ jnw)))
    | .new a => decide (n = 3) && (decide (10 ≤ u ∧ u < 18) && (decide (x = jNf (u - 10)) && jw z (.classLink own a (jRf (u - 10)))))
    | .newarray a => decide (n = 2) && (decide (u < 4) && (decide (newarray.typeOf a = j_ety u) && jw z (.arrayClass (newarray.typeOf a))))
    | .anewarray a => decide (n = 3) && ((decide (u = 4) && jw z (.classLink own a "FootMaps$Text")) || (decide (u = 5) && jw z (.classLink own a "FootMaps$Land")))
    | .checkcast a => decide (n = 3) && jw z (.classLink own a "[I")
    | .invokespecial a => decide (n = 3) && ((decide (t = 1) && jw z (.methodLink own a objectInit)) || ((decide (t = 0) || decide (t = 5)) && (decide (jmk x = 2) && (decide (u = jma x + 1) && (jw z (.methodLink own a (jmn x)) || decide (Cond.methodLinkNest own a (jmn x) "FootMaps" ∈ jnw))))))
    | .invokestatic a => decide (n = 3) && (((decide (t = 2) || decide (t = 3)) && jw z (.methodLink own a arraycopyName)) || ((decide (t = 0) || decide (t = 5)) && (decide (jmk x = 0) && (decide (u = jma x) && (jw z (.methodLink own a (jmn x)) || decide (Cond.methodLinkNest own a (jmn x) "FootMaps" ∈ jnw))))))
    | .invokevirtual a => decide (n = 3) && ((decide (t = 4) && jw z (.methodLink own a ⟨"[I", "clone", "()Ljava/lang/Object;"⟩)) || (decide (t = 0) && (decide (jmk x = 1) && (decide (u = jma x + 1) && jw z (.methodLink own a (jmn x))))))
    | _ => false
/-- the entry is what the bytes and the tables say; or there is none -/
def jchk (own : String) (cc : ByteArray) (nL : Nat) (ini : Bool) (pc : Nat) (en : jE) : Bool := match jdc cc pc en.1 with
  | some n => decide (en.2.1 = pc + n) && jlk own nL ini pc n en
  | none => decide (en.1 = .nop)
/-- the words that are the same at every place -/
theorem jfix : (Cond.native arraycopyName ∈ jgw ∧ Cond.static arraycopyName ∈ jgw ∧ Cond.initialized "java/lang/System" ∈ jgw) ∧ (Cond.instanceMethod objectInit ∈ jgw ∧ Cond.code objectInit ⟨#[0xb1]⟩ 1 none ∈ jgw) ∧ (Cond.sameMethod "[I" "java/lang/Object" "clone" "()Ljava/lang/Object;" ∈ jgw ∧ Cond.native ⟨"java/lang/Object", "clone", "()Ljava/lang/Object;"⟩ ∈ jgw ∧ Cond.instanceMethod ⟨"java/lang/Object", "clone", "()Ljava/lang/Object;"⟩ ∈ jgw ∧ Cond.selects "[I" ⟨"[I", "clone", "()Ljava/lang/Object;"⟩ ⟨"java/lang/Object", "clone", "()Ljava/lang/Object;"⟩ ∈ jgw) :=
  ⟨⟨jw_of (z := 773) (by decide +kernel), jw_of (z := 772) (by decide +kernel), jw_of (z := 130) (by decide +kernel)⟩, ⟨jw_of (z := 137) (by decide +kernel), jw_of (z := 138) (by decide +kernel)⟩, jw_of (z := 762) (by decide +kernel), jw_of (z := 763) (by decide +kernel), jw_of (z := 764) (by decide +kernel), jw_of (z := 765) (by decide +kernel)⟩
