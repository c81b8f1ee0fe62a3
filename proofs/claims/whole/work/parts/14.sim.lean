/-! THE STEP -/
section JZ
variable {p : Program} {l : Launch} {e0 : Env} {R : Room} {s : State} {m : MethodId} {args : Array Value} {below : List Frame} {meth : Method} {c : Code} {Q : State → Prop} {E : jEv} {cc : ByteArray} {own : String} {nL n0 z0 : Nat} {out : jO}
variable {k : jK} {pc : Nat} {L : jL} {S : List Value} {h : jH}
set_option maxHeartbeats 4000000 in
theorem jsim (hk : jHk p l e0 R s m args below meth c Q E nL n0 z0 out k) (hx : p.tables.exec = Jvm.exec) (hb : c.code = cc) (hml : c.maxLocals = nL) (hown : s.vm.findClass own = some m.cls) (hts : ∀ w ∈ jgw, w.before args s = true) (hK : jKn E s) (hbs : E.2.1 ≤ s.heap.size) {D : Nat} (hRf : D + 1 ≤ R.frames) (hRl : 100 * (D + 1) ≤ R.locals) (hRc : j_c out.2 - n0 ≤ R.cells) (hRs : j_z out.2 - z0 ≤ R.slots) {C : jC} (hC : jCok D C) {rt : Nat} (hR : jRt p l e0 R s m args below meth c Q E n0 z0 out cc rt) {ini : Bool} (hini : ini = true → meth.name = "<init>") {en : jE} (hc : jchk own cc nL ini pc en = true) (e : jst C rt en L S h k = some out) : jG1 p l e0 R s m args below meth c Q E nL n0 z0 out pc L S h := by
  obtain ⟨i, nx, x, u, t, z, v, w, sw⟩ := en
  unfold jchk at hc
  split at hc
  · rename_i n hd
    have hdg : decode cc pc = .ok (i, n) := jdc_of hd
    rw [Bool.and_eq_true, decide_eq_true_eq] at hc
    obtain ⟨hnx, hc⟩ := hc
    replace hnx : nx = pc + n := hnx
    subst hnx
    clear hd
    cases i with
    | iconst a =>
      simp only [jlk, Bool.and_eq_true, Bool.or_eq_true, decide_eq_true_eq] at hc
      obtain ⟨rfl, hv⟩ := hc
      exact js_push (v := .int v) hk (fun rest H locs cells slots ls w => lv_iconst hx hb hdg hv w) e
    | bipush a =>
      simp only [jlk, Bool.and_eq_true, Bool.or_eq_true, decide_eq_true_eq] at hc
      obtain ⟨rfl, hv⟩ := hc
      exact js_push (v := .int v) hk (fun rest H locs cells slots ls w => lv_bipush hx hb hdg hv w) e
    | sipush a =>
      simp only [jlk, Bool.and_eq_true, Bool.or_eq_true, decide_eq_true_eq] at hc
      obtain ⟨rfl, hv⟩ := hc
      exact js_push (v := .int v) hk (fun rest H locs cells slots ls w => lv_sipush hx hb hdg hv w) e
    | ldc a =>
      simp only [jlk, Bool.and_eq_true, Bool.or_eq_true, decide_eq_true_eq] at hc
      obtain ⟨rfl, ⟨rfl, hv⟩ | ⟨rfl, hv⟩⟩ := hc
      · exact js_push (v := .int v) hk (fun rest H locs cells slots ls w => lv_ldc hx hb hown (hts _ (jw_of hv)) hdg w) e
      · exact js_ldcS hk hx hb hown hK hv hdg e
    | ldc_w a =>
      simp only [jlk, Bool.and_eq_true, Bool.or_eq_true, decide_eq_true_eq] at hc
      obtain ⟨rfl, hv⟩ := hc
      exact js_push (v := .int v) hk (fun rest H locs cells slots ls w => lv_ldcw hx hb hown (hts _ (jw_of hv)) hdg w) e
    | ldc2_w a =>
      simp only [jlk, Bool.and_eq_true, Bool.or_eq_true, decide_eq_true_eq] at hc
      obtain ⟨rfl, hv⟩ := hc
      exact js_push (v := .long w) hk (fun rest H locs cells slots ls w1 => lv_ldc2 hx hb hown (hts _ (jw_of hv)) hdg w1) e
    | lconst a =>
      simp only [jlk, Bool.and_eq_true, Bool.or_eq_true, decide_eq_true_eq] at hc
      obtain ⟨rfl, hv⟩ := hc
      exact js_push (v := .long w) hk (fun rest H locs cells slots ls w1 => lv_lconst hx hb hdg hv w1) e
    | aconst_null =>
      have hn : n = 1 := of_decide_eq_true hc
      subst hn
      exact js_push (v := .null) hk (fun rest H locs cells slots ls w => lv_null hx hb hdg w) e
    | iload a =>
      simp only [jlk, Bool.and_eq_true, Bool.or_eq_true, decide_eq_true_eq] at hc
      obtain ⟨rfl, rfl⟩ := hc
      exact js_ld hk (fun a rest H locs cells slots ls hl w => lv_iload hx hb hdg hl w) e
    | iload_n a =>
      simp only [jlk, Bool.and_eq_true, Bool.or_eq_true, decide_eq_true_eq] at hc
      obtain ⟨rfl, hi⟩ := hc
      exact js_ld hk (fun a rest H locs cells slots ls hl w => lv_iload_n hx hb hdg hi hl w) e
    | aload a =>
      simp only [jlk, Bool.and_eq_true, Bool.or_eq_true, decide_eq_true_eq] at hc
      obtain ⟨rfl, rfl⟩ := hc
      exact js_lda hk (fun a rest H locs cells slots ls hl w => lv_aload hx hb hdg hl w) (fun rest H locs cells slots ls hl w => lv_aloadN hx hb hdg hl w) e
    | aload_n a =>
      simp only [jlk, Bool.and_eq_true, Bool.or_eq_true, decide_eq_true_eq] at hc
      obtain ⟨rfl, hi⟩ := hc
      exact js_lda hk (fun a rest H locs cells slots ls hl w => lv_aload_n hx hb hdg hi hl w) (fun rest H locs cells slots ls hl w => lv_aload_nN hx hb hdg hi hl w) e
    | lload a =>
      simp only [jlk, Bool.and_eq_true, Bool.or_eq_true, decide_eq_true_eq] at hc
      obtain ⟨rfl, rfl⟩ := hc
      exact js_ld2 hk (fun a rest H locs cells slots ls hl w => lv_lload hx hb hdg hl w) e
    | lload_n a =>
      simp only [jlk, Bool.and_eq_true, Bool.or_eq_true, decide_eq_true_eq] at hc
      obtain ⟨rfl, hi⟩ := hc
      exact js_ld2 hk (fun a rest H locs cells slots ls hl w => lv_lload_n hx hb hdg hi hl w) e
    | istore a =>
      simp only [jlk, Bool.and_eq_true, Bool.or_eq_true, decide_eq_true_eq] at hc
      obtain ⟨rfl, rfl, hxl⟩ := hc
      exact js_st hk hxl (fun a lv rest H locs cells slots ls hh kk => lv_istore hx hb hdg hh hxl rfl kk) e
    | istore_n a =>
      simp only [jlk, Bool.and_eq_true, Bool.or_eq_true, decide_eq_true_eq] at hc
      obtain ⟨rfl, hi, hxl⟩ := hc
      exact js_st hk hxl (fun a lv rest H locs cells slots ls hh kk => lv_istore_n hx hb hdg hi hh hxl rfl kk) e
    | astore a =>
      simp only [jlk, Bool.and_eq_true, Bool.or_eq_true, decide_eq_true_eq] at hc
      obtain ⟨rfl, rfl, hxl⟩ := hc
      exact js_sta hk hxl (fun a lv rest H locs cells slots ls hh kk => lv_astore hx hb hdg hh hxl rfl kk) (fun lv rest H locs cells slots ls hh kk => lv_astoreN hx hb hdg hh hxl rfl kk) e
    | astore_n a =>
      simp only [jlk, Bool.and_eq_true, Bool.or_eq_true, decide_eq_true_eq] at hc
      obtain ⟨rfl, hi, hxl⟩ := hc
      exact js_sta hk hxl (fun a lv rest H locs cells slots ls hh kk => lv_astore_n hx hb hdg hi hh hxl rfl kk) (fun lv rest H locs cells slots ls hh kk => lv_astore_nN hx hb hdg hi hh hxl rfl kk) e
    | lstore a =>
      simp only [jlk, Bool.and_eq_true, Bool.or_eq_true, decide_eq_true_eq] at hc
      obtain ⟨rfl, rfl, hxl⟩ := hc
      exact js_st2 hk hxl (fun a lv rest H locs cells slots ls hh kk => lv_lstore hx hb hdg hh hxl rfl kk) e
    | lstore_n a =>
      simp only [jlk, Bool.and_eq_true, Bool.or_eq_true, decide_eq_true_eq] at hc
      obtain ⟨rfl, hi, hxl⟩ := hc
      exact js_st2 hk hxl (fun a lv rest H locs cells slots ls hh kk => lv_lstore_n hx hb hdg hi hh hxl rfl kk) e
    | iinc a b =>
      simp only [jlk, Bool.and_eq_true, Bool.or_eq_true, decide_eq_true_eq] at hc
      obtain ⟨rfl, rfl, hv, hxl⟩ := hc
      exact js_iinc hk hx hb hxl hv hdg e
    | iadd =>
      have hn : n = 1 := of_decide_eq_true hc
      subst hn
      exact js_i2 hk (f := fun a b => a + b) (fun a b rest H locs cells slots ls w => lv_iadd hx hb hdg w) e
    | isub =>
      have hn : n = 1 := of_decide_eq_true hc
      subst hn
      exact js_i2 hk (f := fun a b => a - b) (fun a b rest H locs cells slots ls w => lv_isub hx hb hdg w) e
    | imul =>
      have hn : n = 1 := of_decide_eq_true hc
      subst hn
      exact js_i2 hk (f := fun a b => a * b) (fun a b rest H locs cells slots ls w => lv_imul hx hb hdg w) e
    | iand =>
      have hn : n = 1 := of_decide_eq_true hc
      subst hn
      exact js_i2 hk (f := fun a b => a &&& b) (fun a b rest H locs cells slots ls w => lv_iand hx hb hdg w) e
    | ior =>
      have hn : n = 1 := of_decide_eq_true hc
      subst hn
      exact js_i2 hk (f := fun a b => a ||| b) (fun a b rest H locs cells slots ls w => lv_ior hx hb hdg w) e
    | ixor =>
      have hn : n = 1 := of_decide_eq_true hc
      subst hn
      exact js_i2 hk (f := fun a b => a ^^^ b) (fun a b rest H locs cells slots ls w => lv_ixor hx hb hdg w) e
    | ishl =>
      have hn : n = 1 := of_decide_eq_true hc
      subst hn
      exact js_i2 hk (f := fun a b => a <<< (b &&& 31)) (fun a b rest H locs cells slots ls w => lv_ishl hx hb hdg w) e
    | ishr =>
      have hn : n = 1 := of_decide_eq_true hc
      subst hn
      exact js_i2 hk (f := fun a b => a >>> (b &&& 31)) (fun a b rest H locs cells slots ls w => lv_ishr hx hb hdg w) e
    | iushr =>
      have hn : n = 1 := of_decide_eq_true hc
      subst hn
      exact js_i2 hk (f := fun a b => (a.toUInt32 >>> (b.toUInt32 &&& Int32.toUInt32 31)).toInt32) (fun a b rest H locs cells slots ls w => lv_iushr hx hb hdg rfl w) e
    | idiv =>
      have hn : n = 1 := of_decide_eq_true hc
      subst hn
      exact js_i2d hk (f := fun a b => a / b) (fun a b hb0 rest H locs cells slots ls w => lv_idiv hx hb hdg hb0 w) e
    | irem =>
      have hn : n = 1 := of_decide_eq_true hc
      subst hn
      exact js_i2d hk (f := fun a b => a - a / b * b) (fun a b hb0 rest H locs cells slots ls w => lv_irem hx hb hdg hb0 w) e
    | ineg =>
      have hn : n = 1 := of_decide_eq_true hc
      subst hn
      exact js_i1 hk (f := fun a => .int (-a)) (fun _ => rfl) (fun a rest H locs cells slots ls w => lv_ineg hx hb hdg w) e
    | i2b =>
      have hn : n = 1 := of_decide_eq_true hc
      subst hn
      exact js_i1 hk (f := fun a => .int a.toInt8.toInt32) (fun _ => rfl) (fun a rest H locs cells slots ls w => lv_i2b hx hb hdg rfl w) e
    | i2c =>
      have hn : n = 1 := of_decide_eq_true hc
      subst hn
      exact js_i1 hk (f := fun a => .int (a.toUInt32 % 65536).toInt32) (fun _ => rfl) (fun a rest H locs cells slots ls w => lv_i2c hx hb hdg rfl w) e
    | i2l =>
      have hn : n = 1 := of_decide_eq_true hc
      subst hn
      exact js_i1 hk (f := fun a => .long a.toInt64) (fun _ => rfl) (fun a rest H locs cells slots ls w => lv_i2l hx hb hdg rfl w) e
    | l2i =>
      have hn : n = 1 := of_decide_eq_true hc
      subst hn
      exact js_l1 hk (f := fun a => a.toInt32) (fun a rest H locs cells slots ls w => lv_l2i hx hb hdg rfl w) e
    | ladd =>
      have hn : n = 1 := of_decide_eq_true hc
      subst hn
      exact js_l2 hk (f := fun a b => .long (a + b)) (fun _ _ => rfl) (fun a b rest H locs cells slots ls w => lv_ladd hx hb hdg w) e
    | lsub =>
      have hn : n = 1 := of_decide_eq_true hc
      subst hn
      exact js_l2 hk (f := fun a b => .long (a - b)) (fun _ _ => rfl) (fun a b rest H locs cells slots ls w => lv_lsub hx hb hdg w) e
    | lmul =>
      have hn : n = 1 := of_decide_eq_true hc
      subst hn
      exact js_l2 hk (f := fun a b => .long (a * b)) (fun _ _ => rfl) (fun a b rest H locs cells slots ls w => lv_lmul hx hb hdg w) e
    | land =>
      have hn : n = 1 := of_decide_eq_true hc
      subst hn
      exact js_l2 hk (f := fun a b => .long (a &&& b)) (fun _ _ => rfl) (fun a b rest H locs cells slots ls w => lv_land hx hb hdg w) e
    | lor =>
      have hn : n = 1 := of_decide_eq_true hc
      subst hn
      exact js_l2 hk (f := fun a b => .long (a ||| b)) (fun _ _ => rfl) (fun a b rest H locs cells slots ls w => lv_lor hx hb hdg w) e
    | lxor =>
      have hn : n = 1 := of_decide_eq_true hc
      subst hn
      exact js_l2 hk (f := fun a b => .long (a ^^^ b)) (fun _ _ => rfl) (fun a b rest H locs cells slots ls w => lv_lxor hx hb hdg w) e
    | lcmp =>
      have hn : n = 1 := of_decide_eq_true hc
      subst hn
      exact js_l2 hk (f := fun a b => .int (lg_cmp a b)) (fun _ _ => rfl) (fun a b rest H locs cells slots ls w => W.lcmp hx hb hdg w) e
    | ldiv =>
      have hn : n = 1 := of_decide_eq_true hc
      subst hn
      exact js_l2d hk (f := fun a b => a / b) (fun a b hb0 rest H locs cells slots ls w => lv_ldiv hx hb hdg hb0 w) e
    | lrem =>
      have hn : n = 1 := of_decide_eq_true hc
      subst hn
      exact js_l2d hk (f := fun a b => a - a / b * b) (fun a b hb0 rest H locs cells slots ls w => lv_lrem hx hb hdg hb0 w) e
    | lshl =>
      have hn : n = 1 := of_decide_eq_true hc
      subst hn
      exact js_li hk (f := fun a b => a <<< (b.toInt64 &&& 63)) (fun a b rest H locs cells slots ls w => lv_lshl hx hb hdg rfl w) e
    | lshr =>
      have hn : n = 1 := of_decide_eq_true hc
      subst hn
      exact js_li hk (f := fun a b => a >>> (b.toInt64 &&& 63)) (fun a b rest H locs cells slots ls w => lv_lshr hx hb hdg rfl w) e
    | dup =>
      have hn : n = 1 := of_decide_eq_true hc
      subst hn
      exact js_dup hk hx hb hdg e
    | dup2 =>
      have hn : n = 1 := of_decide_eq_true hc
      subst hn
      exact js_dup2 hk hx hb hdg e
    | pop =>
      have hn : n = 1 := of_decide_eq_true hc
      subst hn
      exact js_pop hk hx hb hdg e
    | goto o =>
      simp only [jlk, Bool.and_eq_true, Bool.or_eq_true, decide_eq_true_eq] at hc
      obtain ⟨rfl, ho⟩ := hc
      exact js_goto hk hx hb ho hdg e
    | ifCond c o =>
      simp only [jlk, Bool.and_eq_true, Bool.or_eq_true, decide_eq_true_eq] at hc
      obtain ⟨rfl, ho⟩ := hc
      cases c with
      | eq => exact js_b1 hk (P := fun a => a = 0) (fun a rest H locs cells slots ls kt kf => lv_if_eq hx hb hdg ho kt kf) e
      | ne => exact js_b1 hk (P := fun a => a = 0) (fun a rest H locs cells slots ls kt kf => lv_if_ne hx hb hdg ho kf kt) e
      | lt => exact js_b1 hk (P := fun a => a < 0) (fun a rest H locs cells slots ls kt kf => lv_if_lt hx hb hdg ho kt kf) e
      | ge => exact js_b1 hk (P := fun a => a < 0) (fun a rest H locs cells slots ls kt kf => lv_if_ge hx hb hdg ho (fun q => kf (Int32.not_lt.mpr q)) (fun q => kt (Int32.not_le.mp q))) e
      | gt => exact js_b1 hk (P := fun a => 0 < a) (fun a rest H locs cells slots ls kt kf => lv_if_gt hx hb hdg ho kt kf) e
      | le => exact js_b1 hk (P := fun a => 0 < a) (fun a rest H locs cells slots ls kt kf => lv_if_le hx hb hdg ho (fun q => kf (Int32.not_lt.mpr q)) (fun q => kt (Int32.not_le.mp q))) e
    | if_icmp c o =>
      simp only [jlk, Bool.and_eq_true, Bool.or_eq_true, decide_eq_true_eq] at hc
      obtain ⟨rfl, ho⟩ := hc
      cases c with
      | eq => exact js_b2 hk (P := fun a b => a = b) (fun a b rest H locs cells slots ls kt kf => lv_icmp_eq hx hb hdg ho kt kf) e
      | ne => exact js_b2 hk (P := fun a b => a = b) (fun a b rest H locs cells slots ls kt kf => lv_icmp_ne hx hb hdg ho kf kt) e
      | lt => exact js_b2 hk (P := fun a b => a < b) (fun a b rest H locs cells slots ls kt kf => lv_icmp_lt hx hb hdg ho kt kf) e
      | ge => exact js_b2 hk (P := fun a b => a < b) (fun a b rest H locs cells slots ls kt kf => lv_icmp_ge hx hb hdg ho (fun q => kf (Int32.not_lt.mpr q)) (fun q => kt (Int32.not_le.mp q))) e
      | gt => exact js_b2 hk (P := fun a b => b < a) (fun a b rest H locs cells slots ls kt kf => lv_icmp_gt hx hb hdg ho kt kf) e
      | le => exact js_b2 hk (P := fun a b => b < a) (fun a b rest H locs cells slots ls kt kf => lv_icmp_le hx hb hdg ho (fun q => kf (Int32.not_lt.mpr q)) (fun q => kt (Int32.not_le.mp q))) e
    | ifnull o =>
      simp only [jlk, Bool.and_eq_true, Bool.or_eq_true, decide_eq_true_eq] at hc
      obtain ⟨rfl, ho⟩ := hc
      exact js_ifn hk (fun a rest H locs cells slots ls w => lv_ifnull hx hb hdg w) (fun rest H locs cells slots ls w => lv_ifnullN hx hb hdg ho w) e
    | ifnonnull o =>
      simp only [jlk, Bool.and_eq_true, Bool.or_eq_true, decide_eq_true_eq] at hc
      obtain ⟨rfl, ho⟩ := hc
      exact js_ifn hk (fun a rest H locs cells slots ls w => lv_ifnonnull hx hb hdg ho w) (fun rest H locs cells slots ls w => lv_ifnonnullN hx hb hdg w) e
    | tableswitch d lo hi offs =>
      simp only [jlk, Bool.and_eq_true, Bool.or_eq_true, decide_eq_true_eq, List.all_eq_true] at hc
      obtain ⟨h1, h2, h3, h4, h5, rfl⟩ := hc
      exact js_sw hk (js_tsw hx hb h2 h3 h4 h5 h1 hdg) e
    | lookupswitch d ps =>
      simp only [jlk, Bool.and_eq_true, decide_eq_true_eq] at hc
      obtain ⟨h1, h2, h3, rfl⟩ := hc
      exact js_sw hk (js_lsw hx hb (fun q hq => of_decide_eq_true (List.all_eq_true.mp h2 q hq)) h3 h1 hdg) e
    | getfield a =>
      simp only [jlk, Bool.and_eq_true, Bool.or_eq_true, decide_eq_true_eq] at hc
      obtain ⟨rfl, hu, hxn, ht, hl⟩ := hc
      rcases jf_tc (u - 10) (by omega) x hxn with ⟨h0, -⟩ | ⟨h0, -⟩ | ⟨h0, -⟩ | ⟨h0, -⟩ <;> (rw [ht] at h0; subst h0; exact js_getf hk hx hb hown hts hK hu hxn ht (jw_of hl) hdg e)
    | putfield a =>
      simp only [jlk, Bool.and_eq_true, Bool.or_eq_true, decide_eq_true_eq] at hc
      obtain ⟨rfl, hu, hxn, ht, hl, hfin⟩ := hc
      have hfin : (jTf (u - 10) x).2.2.2 = false ∨ ((jTf (u - 10) x).2.2.2 = true ∧ meth.name = "<init>" ∧ (jTf (u - 10) x).1 = own) := hfin.imp id (fun q => ⟨q.1, hini q.2.1, q.2.2⟩)
      rcases jf_tc (u - 10) (by omega) x hxn with ⟨h0, -⟩ | ⟨h0, -⟩ | ⟨h0, -⟩ | ⟨h0, -⟩ <;> (rw [ht] at h0; subst h0)
      · exact js_putf0 hk hx hb hown hts hK hu hxn ht (jw_of hl) hfin hdg e
      · exact js_putf3 hk hx hb hown hts hK hu hxn ht (jw_of hl) hfin hdg e
      · exact js_putf1 hk hx hb hown hts hK hu hxn ht (jw_of hl) hfin hdg e
      · exact js_putf2 hk hx hb hown hts hK hu hxn ht (jw_of hl) hfin hdg e
    | getstatic a =>
      simp only [jlk, Bool.and_eq_true, Bool.or_eq_true, decide_eq_true_eq] at hc
      obtain ⟨rfl, hl⟩ := hc
      exact js_getst hk hx hb hown hts hK (hl.imp (fun q => ⟨q.1, jw_of q.2⟩) id) hdg e
    | new a =>
      simp only [jlk, Bool.and_eq_true, Bool.or_eq_true, decide_eq_true_eq] at hc
      obtain ⟨rfl, hu, hxn, hl⟩ := hc
      exact js_new hk hx hb hown hts hK hRc hRs hu hxn (jw_of hl) hdg e
    | newarray a =>
      simp only [jlk, Bool.and_eq_true, Bool.or_eq_true, decide_eq_true_eq] at hc
      obtain ⟨rfl, hu, hty, hl⟩ := hc
      exact js_newa hk hx hb hts hK hRc hRs hu hty (jw_of hl) hdg e
    | anewarray a =>
      simp only [jlk, Bool.and_eq_true, Bool.or_eq_true, decide_eq_true_eq] at hc
      obtain ⟨rfl, ⟨hu, hl⟩ | ⟨hu, hl⟩⟩ := hc
      · exact js_anew hk hx hb hown hts hK hRc hRs (Or.inl ⟨hu, rfl⟩) (jw_of hl) hdg e
      · exact js_anew hk hx hb hown hts hK hRc hRs (Or.inr ⟨hu, rfl⟩) (jw_of hl) hdg e
    | checkcast a =>
      simp only [jlk, Bool.and_eq_true, Bool.or_eq_true, decide_eq_true_eq] at hc
      obtain ⟨rfl, hl⟩ := hc
      exact js_cast hk hx hb hown hts hK (jw_of hl) hdg e
    | invokespecial a =>
      simp only [jlk, Bool.and_eq_true, Bool.or_eq_true, decide_eq_true_eq] at hc
      obtain ⟨rfl, ⟨rfl, hl⟩ | ⟨rfl | rfl, hkd, hu, hl⟩⟩ := hc
      · exact js_oini hk hx hb hml hown hts (by omega : 1 ≤ R.frames) (by omega : 100 ≤ R.locals) (jw_of hl) jfix.2.1 hdg e
      · exact js_callI hk hx hb hml hown hts hK hbs hRf hRl hRc hRs hC hkd hu (hl.imp jw_of id) hdg e
      · exact js_callI hk hx hb hml hown hts hK hbs hRf hRl hRc hRs hC hkd hu (hl.imp jw_of id) hdg e
    | invokestatic a =>
      simp only [jlk, Bool.and_eq_true, Bool.or_eq_true, decide_eq_true_eq] at hc
      obtain ⟨rfl, ⟨rfl | rfl, hl⟩ | ⟨rfl | rfl, hkd, hu, hl⟩⟩ := hc
      · exact js_copyI hk hx hb hml hown hts hK (by omega : 1 ≤ R.frames) (by omega : 100 ≤ R.locals) (jw_of hl) jfix.1 hdg e
      · exact js_copyJ hk hx hb hml hown hts hK (by omega : 1 ≤ R.frames) (by omega : 100 ≤ R.locals) (jw_of hl) jfix.1 hdg e
      · exact js_callS hk hx hb hml hown hts hK hbs hRf hRl hRc hRs hC hkd hu (hl.imp jw_of id) hdg e
      · exact js_callS hk hx hb hml hown hts hK hbs hRf hRl hRc hRs hC hkd hu (hl.imp jw_of id) hdg e
    | invokevirtual a =>
      simp only [jlk, Bool.and_eq_true, Bool.or_eq_true, decide_eq_true_eq] at hc
      obtain ⟨rfl, ⟨rfl, hl⟩ | ⟨rfl, hkd, hu, hl⟩⟩ := hc
      · exact js_clone hk hx hb hml hown hts hK (by omega : 1 ≤ R.frames) (by omega : 100 ≤ R.locals) hRc hRs (jw_of hl) jfix.2.2 hdg e
      · exact js_callV hk hx hb hml hown hts hK hbs hRf hRl hRc hRs hC hkd hu (jw_of hl) hdg e
    | iaload =>
      have hn : n = 1 := of_decide_eq_true hc
      subst hn
      exact js_iald hk hx hb hK hdg e
    | baload =>
      have hn : n = 1 := of_decide_eq_true hc
      subst hn
      exact js_bald hk hx hb hK hdg e
    | laload =>
      have hn : n = 1 := of_decide_eq_true hc
      subst hn
      exact js_lald hk hx hb hK hdg e
    | aaload =>
      have hn : n = 1 := of_decide_eq_true hc
      subst hn
      exact js_aald hk hx hb hK hdg e
    | iastore =>
      have hn : n = 1 := of_decide_eq_true hc
      subst hn
      exact js_iast hk hx hb hK hdg e
    | lastore =>
      have hn : n = 1 := of_decide_eq_true hc
      subst hn
      exact js_last hk hx hb hK hdg e
    | arraylength =>
      have hn : n = 1 := of_decide_eq_true hc
      subst hn
      exact js_alen hk hx hb hK hdg e
    | aastore =>
      have hn : n = 1 := of_decide_eq_true hc
      subst hn
      exact js_aast hk hx hb hK hdg e
    | bastore =>
      have hn : n = 1 := of_decide_eq_true hc
      subst hn
      by_cases ht : t = 2
      · subst ht
        exact js_bast2 hk hx hb hK hdg e
      · refine js_bast3 hk hx hb hK hdg ?_
        rw [← e]
        simp only [jst]
    | ireturn =>
      have hn : n = 1 := of_decide_eq_true hc
      subst hn
      simp only [jst] at e
      split at e
      · split at e
        · exact js_ret hR hdg (Or.inl ⟨rfl, Or.inl ⟨rfl, _, rfl⟩⟩) rfl (Option.some.inj e).symm
        · obtain ⟨hy, e⟩ := js_if e
          refine js_ret hR hdg (Or.inl ⟨rfl, Or.inr ⟨rfl, ?_⟩⟩) rfl (Option.some.inj e).symm
          rcases hy with rfl | rfl
          · exact Or.inl rfl
          · exact Or.inr rfl
        · cases e
      · cases e
    | lreturn =>
      have hn : n = 1 := of_decide_eq_true hc
      subst hn
      simp only [jst] at e
      split at e
      · split at e
        · exact js_ret hR hdg (Or.inr (Or.inl ⟨rfl, rfl, _, rfl⟩)) rfl (Option.some.inj e).symm
        · cases e
      · cases e
    | areturn =>
      have hn : n = 1 := of_decide_eq_true hc
      subst hn
      simp only [jst] at e
      split at e
      · rename_i v0
        split at e
        · obtain ⟨hv, e⟩ := js_cond e
          refine js_ret hR hdg (Or.inr (Or.inr (Or.inl ⟨rfl, rfl, ?_⟩))) rfl (Option.some.inj e).symm
          cases v0 with
          | null => exact Or.inl rfl
          | ref b => exact Or.inr ⟨b, rfl⟩
          | _ => cases hv
        · cases e
      · cases e
    | return_ =>
      have hn : n = 1 := of_decide_eq_true hc
      subst hn
      simp only [jst] at e
      split at e
      · split at e
        · exact js_ret hR hdg (Or.inr (Or.inr (Or.inr ⟨rfl, rfl, rfl⟩))) rfl (Option.some.inj e).symm
        · cases e
      · cases e
    | _ => exact nomatch (show (false = true) from hc)
  · have hi : i = .nop := of_decide_eq_true hc
    subst hi
    cases e
end JZ
