/-! arraycopy, clone, casts, tables, the text, Object's constructor -/
theorem nfw : nativeFrameWords "java/lang/System" "arraycopy" 5 + 11 ≤ 60 := by decide +kernel
section JQ
variable {p : Program} {l : Launch} {e0 : Env} {R : Room} {s : State} {m : MethodId} {args : Array Value} {below : List Frame} {meth : Method} {c : Code} {Q : State → Prop} {E : jEv} {cc : ByteArray} {own : String} {nL n0 z0 : Nat} {out : jO}
variable {k : jK} {pc nx : Nat} {L : jL} {S : List Value} {h : jH}
theorem jWd.cpI {H H' : Heap} {a sp b dp n : Nat} (w : jWd E h H) (hk : j_k h b = 0) (hat : H'[e_ad E b]? = some (arrV (E.2.2.1 0) (j_n h b) (fun j => .int (va_cpy (j_I h a) (j_I h b) sp dp n j)))) (z : H'.size = H.size) (oq : ∀ q, q ≠ e_ad E b → H'[q]? = H[q]?) : jWd E (j_cpI h a sp b dp n) H' := by
  obtain ⟨ha, -, -⟩ := w.arr hk (by omega)
  refine w.put ha rfl rfl (fun b' hb => ⟨va_up_n _ _ hb, rfl, rfl⟩) z oq (Or.inl ⟨?_, ?_⟩)
  · show j_k h b < 6
    omega
  · show _ = some (jAr E (j_cpI h a sp b dp n) (j_k h b) b)
    rw [hat, hk]
    show some (arrV _ _ _) = some (arrV _ _ (fun j => Value.int (j_I (j_cpI h a sp b dp n) b j)))
    rw [jI_cp]
    rfl
theorem jWd.cpJ {H H' : Heap} {a sp b dp n : Nat} (w : jWd E h H) (hk : j_k h b = 1) (hat : H'[e_ad E b]? = some (arrV (E.2.2.1 1) (j_n h b) (fun j => .long (va_cpy (j_J h a) (j_J h b) sp dp n j)))) (z : H'.size = H.size) (oq : ∀ q, q ≠ e_ad E b → H'[q]? = H[q]?) : jWd E (j_cpJ h a sp b dp n) H' := by
  obtain ⟨ha, -, -⟩ := w.arr hk (by omega)
  refine w.put ha rfl rfl (fun b' hb => ⟨rfl, va_up_n _ _ hb, rfl⟩) z oq (Or.inl ⟨?_, ?_⟩)
  · show j_k h b < 6
    omega
  · show _ = some (jAr E (j_cpJ h a sp b dp n) (j_k h b) b)
    rw [hat, hk]
    show some (arrV _ _ _) = some (arrV _ _ (fun j => Value.long (j_J (j_cpJ h a sp b dp n) b j)))
    rw [jJ_cp]
    rfl
theorem vS_app {A : Nat → Prop} {H0 H H1 : Heap} {locs L1 : List Loc} {a : Nat} (w : va_S A H0 H locs) (z : H1.size = H.size) (oq : ∀ q : Nat, q ≠ a → H1[q]? = H[q]?) (ha : A a) (hL : ∀ q ∈ L1, q.base = a) : va_S A H0 H1 (locs ++ L1) := by
  refine ⟨by rw [z]; exact w.1, fun q h1 h2 => ?_, fun q hq => ?_⟩
  · rw [oq q (fun e => h2 (by rw [e]; exact ha))]
    exact w.2.1 q h1 h2
  · rcases List.mem_append.mp hq with h1 | h1
    · exact w.2.2 q h1
    · rw [hL q h1]
      exact ha
theorem js_copyI (hk : jHk p l e0 R s m args below meth c Q E nL n0 z0 out k) (hx : p.tables.exec = Jvm.exec) (hb : c.code = cc) (hml : c.maxLocals = nL) (hown : s.vm.findClass own = some m.cls) (hts : ∀ w ∈ jgw, w.before args s = true) (hK : jKn E s) (hRf : 1 ≤ R.frames) (hRl : 100 ≤ R.locals) {idx : Nat} (hl : Cond.methodLink own idx arraycopyName ∈ jgw) (hw : Cond.native arraycopyName ∈ jgw ∧ Cond.static arraycopyName ∈ jgw ∧ Cond.initialized "java/lang/System" ∈ jgw) (hdg : decode cc pc = .ok (.invokestatic idx, 3))
    (e : (match S with
        | .int n :: .int dp :: vb :: .int sp :: va :: S => j_rv vb fun b => j_rv va fun a => if (j_k h a = 0 ∧ j_k h b = 0 ∧ ¬ sp < 0 ∧ ¬ dp < 0 ∧ ¬ n < 0) ∧ sp.toNatClampNeg + n.toNatClampNeg ≤ j_n h a ∧ dp.toNatClampNeg + n.toNatClampNeg ≤ j_n h b then cond (Nat.ble (j_cat S) 8) (k (pc + 3) L S (j_cpI h a sp.toNatClampNeg b dp.toNatClampNeg n.toNatClampNeg)) none else none
        | _ => none) = some out) : jG1 p l e0 R s m args below meth c Q E nL n0 z0 out pc L S h := by
  split at e
  · obtain ⟨b, rfl, e1⟩ := js_rv e
    obtain ⟨a, rfl, e2⟩ := js_rv e1
    obtain ⟨⟨⟨hka, hkb, h1, h2, h3⟩, h4, h5⟩, e3⟩ := js_if e2
    obtain ⟨hcat, e4⟩ := js_cond e3
    obtain ⟨mo, w⟩ := hk _ _ _ _ e4
    refine ⟨mo, fun a1 b1 H locs ls g1 g2 g3 g4 => ?_⟩
    obtain ⟨ha, -, hc0⟩ := g1.arr hka (by omega)
    obtain ⟨hb', -, hc1⟩ := g1.arr hkb (by omega)
    refine jcopy (V := fun z => Value.int z) (ty := .int) hx hb (by rw [hml]; exact g4.2.1.symm) hown (hts _ hl) (hts _ hw.1) (hts _ hw.2.1) (hts _ hw.2.2) hc0 hc1 (hK.2.1 0 (by omega)).1 rfl (fun _ => rfl) (fun x => by rintro ⟨q, hq⟩; cases hq) h1 h2 h3 h4 h5 (va_copied (fun z => Value.int z) _ _ _ _ h4) hRf (by have h8 := cat_le (E := E) hcat; have h9 := nfw; omega) hdg fun H1 L1 e1 z1 o1 hL1 => ?_
    exact w a1 b1 H1 _ ls (g1.cpI hkb e1 z1 o1) (g2.put (h := h) (a := b) (by omega) rfl (fun b' hb => va_up_n _ _ hb)) (vS_app g3 z1 o1 (e_ad_ge hb') hL1) g4
  · cases e
theorem js_copyJ (hk : jHk p l e0 R s m args below meth c Q E nL n0 z0 out k) (hx : p.tables.exec = Jvm.exec) (hb : c.code = cc) (hml : c.maxLocals = nL) (hown : s.vm.findClass own = some m.cls) (hts : ∀ w ∈ jgw, w.before args s = true) (hK : jKn E s) (hRf : 1 ≤ R.frames) (hRl : 100 ≤ R.locals) {idx : Nat} (hl : Cond.methodLink own idx arraycopyName ∈ jgw) (hw : Cond.native arraycopyName ∈ jgw ∧ Cond.static arraycopyName ∈ jgw ∧ Cond.initialized "java/lang/System" ∈ jgw) (hdg : decode cc pc = .ok (.invokestatic idx, 3))
    (e : (match S with
        | .int n :: .int dp :: vb :: .int sp :: va :: S => j_rv vb fun b => j_rv va fun a => if (j_k h a = 1 ∧ j_k h b = 1 ∧ ¬ sp < 0 ∧ ¬ dp < 0 ∧ ¬ n < 0) ∧ sp.toNatClampNeg + n.toNatClampNeg ≤ j_n h a ∧ dp.toNatClampNeg + n.toNatClampNeg ≤ j_n h b then cond (Nat.ble (j_cat S) 8) (k (pc + 3) L S (j_cpJ h a sp.toNatClampNeg b dp.toNatClampNeg n.toNatClampNeg)) none else none
        | _ => none) = some out) : jG1 p l e0 R s m args below meth c Q E nL n0 z0 out pc L S h := by
  split at e
  · obtain ⟨b, rfl, e1⟩ := js_rv e
    obtain ⟨a, rfl, e2⟩ := js_rv e1
    obtain ⟨⟨⟨hka, hkb, h1, h2, h3⟩, h4, h5⟩, e3⟩ := js_if e2
    obtain ⟨hcat, e4⟩ := js_cond e3
    obtain ⟨mo, w⟩ := hk _ _ _ _ e4
    refine ⟨mo, fun a1 b1 H locs ls g1 g2 g3 g4 => ?_⟩
    obtain ⟨ha, -, hc0⟩ := g1.arr hka (by omega)
    obtain ⟨hb', -, hc1⟩ := g1.arr hkb (by omega)
    refine jcopy (V := fun z => Value.long z) (ty := .long) hx hb (by rw [hml]; exact g4.2.1.symm) hown (hts _ hl) (hts _ hw.1) (hts _ hw.2.1) (hts _ hw.2.2) hc0 hc1 (hK.2.1 1 (by omega)).1 rfl (fun _ => rfl) (fun x => by rintro ⟨q, hq⟩; cases hq) h1 h2 h3 h4 h5 (va_copied (fun z => Value.long z) _ _ _ _ h4) hRf (by have h8 := cat_le (E := E) hcat; have h9 := nfw; omega) hdg fun H1 L1 e1 z1 o1 hL1 => ?_
    exact w a1 b1 H1 _ ls (g1.cpJ hkb e1 z1 o1) (g2.put (h := h) (a := b) (by omega) rfl (fun b' hb => rfl)) (vS_app g3 z1 o1 (e_ad_ge hb') hL1) g4
  · cases e
theorem js_getst (hk : jHk p l e0 R s m args below meth c Q E nL n0 z0 out k) (hx : p.tables.exec = Jvm.exec) (hb : c.code = cc) (hown : s.vm.findClass own = some m.cls) (hts : ∀ w ∈ jgw, w.before args s = true) (hK : jKn E s) {idx x : Nat} (hl : (x = 0 ∧ Cond.fieldLink own idx "FootMaps" "MOST_TERM" "[I" ∈ jgw) ∨ (x = 1 ∧ Cond.fieldLinkNest own idx "FootMaps" "WAYS_LOWEST_FIRST" "[I" "FootMaps" ∈ jnw)) (hdg : decode cc pc = .ok (.getstatic idx, 3))
    (e : k (pc + 3) L (.ref x :: S) h = some out) : jG1 p l e0 R s m args below meth c Q E nL n0 z0 out pc L S h := by
  obtain ⟨mo, w⟩ := hk _ _ _ _ e
  refine ⟨mo, fun a1 b1 H locs ls g1 g2 g3 g4 => ?_⟩
  have w' := w a1 b1 H locs ls g1 g2 g3 g4
  rcases hl with ⟨rfl, hl⟩ | ⟨rfl, hl⟩
  · exact va_gets hx hb hK.2.2.2.2.2.2.1 g3 hown (hts _ hl) (fun _ z => z) hdg w'
  · exact va_getsN hx hb hK.2.2.2.2.2.2.2.1 g3 hown (va_Nw.use rfl (hK.2.2.1 _ hl)) (fun _ z => z) hdg w'
theorem js_ldcS (hk : jHk p l e0 R s m args below meth c Q E nL n0 z0 out k) (hx : p.tables.exec = Jvm.exec) (hb : c.code = cc) (hown : s.vm.findClass own = some m.cls) (hK : jKn E s) {idx : Nat} (hl : own = "FootMaps$Reader" ∧ idx = 95) (hdg : decode cc pc = .ok (.ldc idx, 2))
    (e : k (pc + 2) L (.ref 3 :: S) h = some out) : jG1 p l e0 R s m args below meth c Q E nL n0 z0 out pc L S h := by
  obtain ⟨mo, w⟩ := hk _ _ _ _ e
  refine ⟨mo, fun a1 b1 H locs ls g1 g2 g3 g4 => ?_⟩
  have w' := w a1 b1 H locs ls g1 g2 g3 g4
  obtain ⟨rfl, rfl⟩ := hl
  obtain ⟨tx, hZ⟩ := hK.2.2.2.2.2.2.2.2.1
  exact va_ldcS hx hb hown hZ hdg w'
theorem js_oini (hk : jHk p l e0 R s m args below meth c Q E nL n0 z0 out k) (hx : p.tables.exec = Jvm.exec) (hb : c.code = cc) (hml : c.maxLocals = nL) (hown : s.vm.findClass own = some m.cls) (hts : ∀ w ∈ jgw, w.before args s = true) (hRf : 1 ≤ R.frames) (hRl : 100 ≤ R.locals) {idx : Nat} (hl : Cond.methodLink own idx objectInit ∈ jgw) (hw : Cond.instanceMethod objectInit ∈ jgw ∧ Cond.code objectInit ⟨#[0xb1]⟩ 1 none ∈ jgw) (hdg : decode cc pc = .ok (.invokespecial idx, 3))
    (e : (j_r1 S fun _ S => cond (Nat.ble (j_cat S) 8) (k (pc + 3) L S h) none) = some out) : jG1 p l e0 R s m args below meth c Q E nL n0 z0 out pc L S h := by
  obtain ⟨a, S', rfl, e⟩ := js_r1 e
  obtain ⟨hcat, e⟩ := js_cond e
  obtain ⟨mo, w⟩ := hk _ _ _ _ e
  refine ⟨mo, fun a1 b1 H locs ls g1 g2 g3 g4 => ?_⟩
  refine W.objInit hx hb hown (hts _ hl) (hts _ hw.1) (hts _ hw.2) rfl (by rw [hml]; exact g4.2.1) rfl hdg hRf (by show 2 * 0 + _ + 12 ≤ _; have := cat_le (E := E) hcat; omega) (w a1 b1 H locs ls g1 g2 g3 g4)
theorem js_ifn (hk : jHk p l e0 R s m args below meth c Q E nL n0 z0 out k) {x y : Nat} (row : ∀ (a : Nat) (rest : List Value) (H : Heap) (locs : List Loc) (cells slots : Nat) (ls : Array Slot), W p l e0 R s m args below meth c H locs cells slots Q (F0 m y ls rest) → W p l e0 R s m args below meth c H locs cells slots Q (F0 m pc ls (.ref a :: rest))) (rowN : ∀ (rest : List Value) (H : Heap) (locs : List Loc) (cells slots : Nat) (ls : Array Slot), W p l e0 R s m args below meth c H locs cells slots Q (F0 m x ls rest) → W p l e0 R s m args below meth c H locs cells slots Q (F0 m pc ls (.null :: rest)))
    (e : (match S with
      | v :: S => j_ifn v (k x L S h) (k y L S h)
      | _ => none) = some out) : jG1 p l e0 R s m args below meth c Q E nL n0 z0 out pc L S h := by
  split at e
  · rename_i v S'
    cases v with
    | null =>
      obtain ⟨mo, w⟩ := hk _ _ _ _ (show k x L S' h = some out from e)
      exact ⟨mo, fun a1 b1 H locs ls g1 g2 g3 g4 => rowN _ _ _ _ _ _ (w a1 b1 H locs ls g1 g2 g3 g4)⟩
    | ref a =>
      obtain ⟨mo, w⟩ := hk _ _ _ _ (show k y L S' h = some out from e)
      exact ⟨mo, fun a1 b1 H locs ls g1 g2 g3 g4 => row _ _ _ _ _ _ _ (w a1 b1 H locs ls g1 g2 g3 g4)⟩
    | _ => cases e
  · cases e
theorem js_dup (hk : jHk p l e0 R s m args below meth c Q E nL n0 z0 out k) (hx : p.tables.exec = Jvm.exec) (hb : c.code = cc) (hdg : decode cc pc = .ok (.dup, 1)) (e : (match S with
      | v :: S => cond (j_is1 v) (k (pc + 1) L (v :: v :: S) h) none
      | _ => none) = some out) : jG1 p l e0 R s m args below meth c Q E nL n0 z0 out pc L S h := by
  split at e
  · obtain ⟨h1, e⟩ := js_cond e
    obtain ⟨mo, w⟩ := hk _ _ _ _ e
    exact ⟨mo, fun a1 b1 H locs ls g1 g2 g3 g4 => lv_dup hx hb hdg (is1_cat h1) (w a1 b1 H locs ls g1 g2 g3 g4)⟩
  · cases e
theorem js_pop (hk : jHk p l e0 R s m args below meth c Q E nL n0 z0 out k) (hx : p.tables.exec = Jvm.exec) (hb : c.code = cc) (hdg : decode cc pc = .ok (.pop, 1)) (e : (match S with
      | v :: S => cond (j_is1 v) (k (pc + 1) L S h) none
      | _ => none) = some out) : jG1 p l e0 R s m args below meth c Q E nL n0 z0 out pc L S h := by
  split at e
  · obtain ⟨h1, e⟩ := js_cond e
    obtain ⟨mo, w⟩ := hk _ _ _ _ e
    exact ⟨mo, fun a1 b1 H locs ls g1 g2 g3 g4 => lv_pop hx hb hdg (is1_cat h1) (w a1 b1 H locs ls g1 g2 g3 g4)⟩
  · cases e
theorem js_dup2 (hk : jHk p l e0 R s m args below meth c Q E nL n0 z0 out k) (hx : p.tables.exec = Jvm.exec) (hb : c.code = cc) (hdg : decode cc pc = .ok (.dup2, 1)) (e : (j_ai S fun a i S => k (pc + 1) L (.int i :: .ref a :: .int i :: .ref a :: S) h) = some out) : jG1 p l e0 R s m args below meth c Q E nL n0 z0 out pc L S h := by
  obtain ⟨a, i, S', rfl, e⟩ := js_ai e
  obtain ⟨mo, w⟩ := hk _ _ _ _ e
  exact ⟨mo, fun a1 b1 H locs ls g1 g2 g3 g4 => lv_dup2_11 hx hb hdg rfl rfl (w a1 b1 H locs ls g1 g2 g3 g4)⟩
theorem js_goto (hk : jHk p l e0 R s m args below meth c Q E nL n0 z0 out k) (hx : p.tables.exec = Jvm.exec) (hb : c.code = cc) {x : Nat} {off : Int} (ht : (pc : Int) + off = (x : Int)) (hdg : decode cc pc = .ok (.goto off, 3)) (e : k x L S h = some out) : jG1 p l e0 R s m args below meth c Q E nL n0 z0 out pc L S h := by
  obtain ⟨mo, w⟩ := hk _ _ _ _ e
  exact ⟨mo, fun a1 b1 H locs ls g1 g2 g3 g4 => lv_goto hx hb hdg ht (w a1 b1 H locs ls g1 g2 g3 g4)⟩
theorem js_cast (hk : jHk p l e0 R s m args below meth c Q E nL n0 z0 out k) (hx : p.tables.exec = Jvm.exec) (hb : c.code = cc) (hown : s.vm.findClass own = some m.cls) (hts : ∀ w ∈ jgw, w.before args s = true) (hK : jKn E s) {idx : Nat} (hl : Cond.classLink own idx "[I" ∈ jgw) (hdg : decode cc pc = .ok (.checkcast idx, 3)) (e : (j_r1 S fun a S => if j_k h a = 0 then k (pc + 3) L (.ref a :: S) h else none) = some out) : jG1 p l e0 R s m args below meth c Q E nL n0 z0 out pc L S h := by
  obtain ⟨a, S', rfl, e⟩ := js_r1 e
  obtain ⟨hka, e⟩ := js_if e
  obtain ⟨mo, w⟩ := hk _ _ _ _ e
  refine ⟨mo, fun a1 b1 H locs ls g1 g2 g3 g4 => ?_⟩
  obtain ⟨ha, -, hc0⟩ := g1.arr hka (by omega)
  have w' := w a1 b1 H locs ls g1 g2 g3 g4
  refine va_castA (D := (E.2.2.2.1, E.2.2.2.2)) (cl := []) (ws := [(e_ad E a, .inl (E.2.2.1 0, j_n h a, .inl (j_I h a)))]) hx hb hown (hts _ hl) ?_ 0 rfl (hK.2.1 0 (by omega)).2 hdg w'
  intro q z hz
  have hq : q = 0 := by
    have := (List.getElem?_eq_some_iff.mp hz).1
    simp at this
    exact this
  subst hq
  cases hz
  exact hc0
end JQ
