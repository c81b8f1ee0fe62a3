/-! CALLS -/
theorem jnw_warm {s U : State} (hW : s.WarmedH U.vm) : ∀ w ∈ jnw, va_Nw w s → va_Nw w U := by
  unfold jnw
  intro w hw
  simp only [List.mem_cons, List.not_mem_nil, or_false] at hw
  rcases hw with rfl | rfl | rfl | rfl | rfl | rfl | rfl | rfl | rfl <;> first | exact va_Nw.warmM hW | exact va_Nw.warmF hW
theorem jnw_same {u U : State} (hv : u.vm = U.vm) : ∀ w ∈ jnw, va_Nw w u → va_Nw w U := by
  unfold jnw
  intro w hw
  simp only [List.mem_cons, List.not_mem_nil, or_false] at hw
  rcases hw with rfl | rfl | rfl | rfl | rfl | rfl | rfl | rfl | rfl <;> exact va_Nw.same rfl hv
theorem jKn.warm {E : jEv} {s U : State} (hW : s.WarmedH U.vm) (hq : ∀ a : Nat, a < s.heap.size → ¬ e_A E a → U.heap[a]? = s.heap[a]?) (h : jKn E s) : jKn E U := by
  have ha := hW.alike
  obtain ⟨h1, h2, h3, h4, h5, h6, h7, h8, ⟨tx, h9⟩, ⟨adV, h10⟩, h11, h12⟩ := h
  exact ⟨fun ci hci => u_Kn_moved ha (h1 ci hci), fun q hq => ⟨arrOfT_moved ha (h2 q hq).1, (h2 q hq).2.moved ha⟩, fun w hw => jnw_warm hW w hw (h3 w hw), va_AO.moved ha h4, va_AO.moved ha h5, va_Nw.warmC hW h6, va_Z.moved ha (h7.kept hq), va_Z.moved ha (h8.kept hq), ⟨tx, vk_R.warm hW h9⟩, ⟨adV, vk_S.moved ha (h10.kept hq)⟩, va_Z.moved ha (h11.kept hq), va_Zq.moved ha (h12.kept hq)⟩
theorem jKn.same {E : jEv} {u U : State} (hv : u.vm = U.vm) (hh : U.heap = u.heap) (h : jKn E u) : jKn E U := by
  have ha : u.vm.Alike U.vm := by rw [hv]; exact Vm.Alike.refl _
  obtain ⟨h1, h2, h3, h4, h5, h6, h7, h8, ⟨tx, h9⟩, ⟨adV, h10⟩, h11, h12⟩ := h
  refine ⟨fun ci hci => u_Kn_moved ha (h1 ci hci), fun q hq => ⟨arrOfT_moved ha (h2 q hq).1, (h2 q hq).2.moved ha⟩, fun w hw => jnw_same hv w hw (h3 w hw), va_AO.moved ha h4, va_AO.moved ha h5, va_Nw.same rfl hv h6, ?_, ?_, ⟨tx, vk_R.same hv.symm h9⟩, ⟨adV, ?_⟩, ?_, ?_⟩
  · rw [hh]; exact va_Z.moved ha h7
  · rw [hh]; exact va_Z.moved ha h8
  · rw [hh]; exact vk_S.moved ha h10
  · rw [hh]; exact va_Z.moved ha h11
  · rw [hh]; exact va_Zq.moved ha h12
theorem jSt.to {E : jEv} {h : jH} {u U : State} (ha : u.vm.Alike U.vm) (hb : E.2.1 ≤ u.heap.size) (hq : ∀ a : Nat, a < u.heap.size → ¬ e_A E a → U.heap[a]? = u.heap[a]?) (w : jSt E h u) : jSt E h U := by
  intro a hk
  obtain ⟨h4, ht⟩ := w a hk
  exact ⟨h4, va_T.moved ha (ht.kept hq)⟩
def jPc (E : jEv) (as : List Value) (h : jH) : Array Value → State → Prop := va_Pc (as.map (cv E)) (fun U => jKn E U ∧ jWd E h U.heap ∧ jSt E h U)
def jQc (E : jEv) (r : Option Value) (h' : jH) : Array Value → State → Outcome → State → Prop := fun _ st o t => o = .returned (r.map (cv E)) ∧ jWd E h' t.heap ∧ jSt E h' t ∧ ∀ q, q < E.2.1 → t.heap[q]? = st.heap[q]?
def jMok (c : Nat) (b : ByteArray) (ml : Nat) (rt : Option FieldType) : Prop :=
  Cond.code (jmn c) b ml rt ∈ jgw ∧ Cond.initialized (jmn c).cls ∈ jgw ∧ ml ≤ 40 ∧
  ((jmk c = 0 ∧ Cond.static (jmn c) ∈ jgw) ∨ (jmk c = 1 ∧ Cond.instanceMethod (jmn c) ∈ jgw ∧ Cond.selects (jmn c).cls (jmn c) (jmn c) ∈ jgw) ∨ (jmk c = 2 ∧ Cond.instanceMethod (jmn c) ∈ jgw ∧ (jmn c).name = "<init>" ∧ rt = none)) ∧
  ((jmn c).cls ≠ "java/lang/invoke/MethodHandle" ∧ (jmn c).cls ≠ "java/lang/invoke/VarHandle" ∧ (parseMethodDescriptor (jmn c).desc).map (fun d => d.parameters.length) = some (jma c))
abbrev jrm (d mc ms : Nat) : Room := { frames := d + 1, cells := mc, slots := ms, locals := 100 * (d + 1) }
/-- method c, from these arguments and this heap, comes back with r and h', within depth d -/
def jM1 (d c : Nat) (as : List Value) (h : jH) (r : Option Value) (h' : jH) : Prop :=
  (j_c h ≤ j_c h' ∧ j_z h ≤ j_z h') ∧ ∃ (b : ByteArray) (ml : Nat) (rt : Option FieldType), jMok c b ml rt ∧ ∀ (l : Launch) (E : jEv), Met l (jmn c) (Cond.code (jmn c) b ml rt :: jgw) (jrm d (j_c h' - j_c h) (j_z h' - j_z h)) (jPc E as h) (jQc E r h') (j_c h' - j_c h) (j_z h' - j_z h) (e_A E)
/-- the receiver of a virtual call -/
def jRec (c : Nat) (as : List Value) (h : jH) : Prop := (jmk c = 1 → ∃ a as', as = .ref a :: as' ∧ ((∃ ci, ci < 8 ∧ j_k h a = 10 + ci ∧ jRf ci = (jmn c).cls) ∨ (a = 3 ∧ (jmn c).cls = "java/lang/String"))) ∧ (jmk c = 2 → ∃ a as', as = .ref a :: as')
def jCok (D : Nat) (C : jC) : Prop := ∀ c as h k out, C c as h k = some out → ∃ d r h', d + 1 ≤ D ∧ jM1 d c as h r h' ∧ jRec c as h ∧ k r h' = some out
theorem goodIn_g {b : ByteArray} {ml : Nat} {rt : Option FieldType} {y : MethodName} (h : Cond.code y b ml rt ∈ jgw) : GoodIn jgw (Cond.code y b ml rt :: jgw) := by
  intro w hw
  have hm : w ∈ jgw := by
    rcases List.mem_cons.mp hw with rfl | hw
    · exact h
    · exact hw
  exact ⟨hm, good_of_word (List.mem_filter.mp hm).2⟩
section JK
variable {p : Program} {l : Launch} {e0 : Env} {R : Room} {s : State} {m : MethodId} {args : Array Value} {below : List Frame} {meth : Method} {c : Code} {Q : State → Prop} {E : jEv} {cc : ByteArray} {own : String} {nL n0 z0 : Nat} {out : jO}
variable {k : jK} {pc nx : Nat} {L : jL} {S : List Value} {h : jH}
theorem jPc_blind (E : jEv) (as : List Value) (h : jH) : FrameBlind (jPc E as h) := by
  intro a U g mk q
  obtain ⟨q0, q1, q2, q3⟩ := q
  exact ⟨q0, jKn.same (u := U) (U := U.calling g mk a) rfl rfl q1, q2, fun b hb => ⟨(q3 b hb).1, va_T.moved (u := U) (U := U.calling g mk a) (Vm.Alike.refl U.vm) (q3 b hb).2⟩⟩
/-- behind a call -/
theorem js_back (hk : jHk p l e0 R s m args below meth c Q E nL n0 z0 out k) (hbs : E.2.1 ≤ s.heap.size) {r : Option Value} {h' : jH} {rest : List Value} (e : k (pc + 3) L (r.toList ++ rest) h' = some out) (a1 : n0 ≤ j_c h) (b1 : z0 ≤ j_z h) (hm1 : j_c h ≤ j_c h') (hm2 : j_z h ≤ j_z h') {H : Heap} {locs : List Loc} {ls : Array Slot} {st0 : List Value} (g1 : jWd E h H) (g3 : va_S (e_A E) s.heap H locs) (g4 : jLr E L ls nL)
    (hr : va_Run p l e0 R s m args below meth c H locs (j_c h - n0) (j_z h - z0) (j_c h' - j_c h) (j_z h' - j_z h) (F0 m pc ls st0) (rest.map (cv E)) (jQc E r h' (#[] : Array Value)) (e_A E)) : W p l e0 R s m args below meth c H locs (j_c h - n0) (j_z h - z0) Q (F0 m pc ls st0) := by
  obtain ⟨mo, w⟩ := hk _ _ _ _ e
  intro T hT X
  obtain ⟨v, st₀, t, T', L1, h0, X', hL, e1, e2, ⟨hv, q1, q2, q3⟩, st⟩ := hr T hT X
  cases hv
  have hlow : ∀ q, q < E.2.1 → t.heap[q]? = H[q]? := fun q hq => by rw [q3 q hq, h0]
  have hsz : t.heap.size = E.2.1 + (j_c h' - 4) := q1.2.1
  have hsH : H.size = E.2.1 + (j_c h - 4) := g1.2.1
  have hS : va_S (e_A E) s.heap t.heap (locs ++ L1) := by
    refine ⟨by have := g3.1; omega, fun q h1 h2 => ?_, fun q hq => ?_⟩
    · have hq : q < E.2.1 := Nat.not_le.mp h2
      rw [hlow q hq]
      exact g3.2.1 q h1 h2
    · rcases List.mem_append.mp hq with h1 | h1
      · exact g3.2.2 q h1
      · exact hL q h1
  have hal : s.vm.Alike t.vm := by rw [← e2]; exact X'.warmed.alike
  have hst : jSt E h' s := by
    refine jSt.to hal.symm (by omega) (fun q h1 h2 => ?_) q2
    have hq : q < E.2.1 := Nat.not_le.mp h2
    rw [hlow q hq]
    exact (g3.2.1 q (by omega) h2).symm
  have w' := w (by omega) (by omega) t.heap (locs ++ L1) ls q1 hst hS g4
  rw [show j_c h' - n0 = j_c h - n0 + (j_c h' - j_c h) by omega, show j_z h' - z0 = j_z h - z0 + (j_z h' - j_z h) by omega] at w'
  obtain ⟨t2, a2, b2⟩ := w' T' e1 X'
  refine ⟨t2, st t2 ?_, b2⟩
  rw [show (r.toList ++ rest).map (cv E) = (r.map (cv E)).toList ++ rest.map (cv E) by rw [List.map_append]; cases r <;> rfl] at a2
  exact a2
/-- what every call asks of its stack -/
theorem js_stk {u : Nat} (hc : (Nat.ble u S.length && Nat.ble (j_cat (S.drop u)) 8) = true) : u ≤ S.length ∧ S.map (cv E) = (((S.take u).reverse).map (cv E)).reverse ++ (S.drop u).map (cv E) ∧ (((S.drop u).map (cv E)).map fun v => v.category).sum ≤ 8 := by
  rw [Bool.and_eq_true] at hc
  refine ⟨Nat.le_of_ble_eq_true hc.1, ?_, cat_le hc.2⟩
  rw [← List.map_reverse, List.reverse_reverse, ← List.map_append, List.take_append_drop]
theorem jRm {d D mc ms ml : Nat} (hd : d + 1 ≤ D) (hml : ml ≤ 40) (hf : D + 1 ≤ R.frames) (hl : 100 * (D + 1) ≤ R.locals) : (jrm d mc ms).frames + 1 ≤ R.frames ∧ 8 + (ml + 11) + (jrm d mc ms).locals ≤ R.locals := by
  show d + 1 + 1 ≤ R.frames ∧ 8 + (ml + 11) + 100 * (d + 1) ≤ R.locals
  omega
theorem js_preS (hbs : E.2.1 ≤ s.heap.size) (hK : jKn E s) {as : List Value} {H : Heap} {locs : List Loc} (g1 : jWd E h H) (g2 : jSt E h s) (g3 : va_S (e_A E) s.heap H locs) : ∀ U : State, U.heap = H → s.WarmedH U.vm → jPc E as h (as.map (cv E)).toArray U := by
  intro U hU hW
  have hq : ∀ a : Nat, a < s.heap.size → ¬ e_A E a → U.heap[a]? = s.heap[a]? := fun a h1 h2 => by rw [hU]; exact g3.2.1 a h1 h2
  exact ⟨rfl, hK.warm hW hq, by rw [hU]; exact g1, g2.to hW.alike hbs hq⟩
theorem js_callS (hk : jHk p l e0 R s m args below meth c Q E nL n0 z0 out k) (hx : p.tables.exec = Jvm.exec) (hb : c.code = cc) (hml : c.maxLocals = nL) (hown : s.vm.findClass own = some m.cls) (hts : ∀ w ∈ jgw, w.before args s = true) (hK : jKn E s) (hbs : E.2.1 ≤ s.heap.size) {D : Nat} (hRf : D + 1 ≤ R.frames) (hRl : 100 * (D + 1) ≤ R.locals) (hRc : j_c out.2 - n0 ≤ R.cells) (hRs : j_z out.2 - z0 ≤ R.slots) {C : jC} (hC : jCok D C) {idx x u : Nat} (hkd : jmk x = 0) (hu : u = jma x) (hl : Cond.methodLink own idx (jmn x) ∈ jgw ∨ Cond.methodLinkNest own idx (jmn x) "FootMaps" ∈ jnw) (hdg : decode cc pc = .ok (.invokestatic idx, 3))
    (e : cond (Nat.ble u S.length && Nat.ble (j_cat (S.drop u)) 8) (C x (S.take u).reverse h fun r h => k (pc + 3) L (r.toList ++ S.drop u) h) none = some out) : jG1 p l e0 R s m args below meth c Q E nL n0 z0 out pc L S h := by
  obtain ⟨hc, e⟩ := js_cond e
  obtain ⟨hul, hst, hcat⟩ := js_stk (E := E) hc
  obtain ⟨d, r, h', hd, ⟨hm, b, ml, rt, ⟨o1, o2, o3, o4, o5⟩, hM⟩, -, e⟩ := hC _ _ _ _ _ e
  have hmo := (hk _ _ _ _ e).1
  refine ⟨by omega, fun a1 b1 H locs ls g1 g2 g3 g4 => ?_⟩
  have hstat : Cond.static (jmn x) ∈ jgw := by rcases o4 with ⟨-, q⟩ | ⟨q, -⟩ | ⟨q, -⟩ <;> first | exact q | omega
  refine js_back hk hbs e a1 b1 hm.1 hm.2 g1 g3 g4 ?_
  have hfix : CallFix p m c cc nL s args jgw own := ⟨hx, hb, hml, hown, hts⟩
  have hpre := js_preS (as := (S.take u).reverse) hbs hK g1 g2 g3
  have hlen : (((S.take u).reverse).map (cv E)).length = jma x := by rw [List.length_map, List.length_reverse, List.length_take]; omega
  have hcc : j_c h - n0 + (j_c h' - j_c h) ≤ R.cells ∧ j_z h - z0 + (j_z h' - j_z h) ≤ R.slots := by omega
  rcases hl with hl | hl
  · exact va_runS (As := ((S.take u).reverse).map (cv E)) hfix (hM l E) ⟨callB_of (jma x) hts (goodIn_g o1) rfl rfl rfl (hts _ o2) (hts _ hl) o5 (jRm hd o3 hRf hRl), hts _ hstat⟩ ⟨jPc_blind E _ h, hpre⟩ rfl hlen g4.2.1 hst (by show 2 * 0 + _ ≤ 8; omega) hdg hcc
  · exact va_runSN (As := ((S.take u).reverse).map (cv E)) hfix (hM l E) ⟨va_cnB (jma x) hts (goodIn_g o1) rfl rfl rfl (hK.2.2.1 _ hl) (hts _ o2) o5 (jRm hd o3 hRf hRl), hts _ hstat, trivial⟩ ⟨jPc_blind E _ h, hpre⟩ rfl hlen g4.2.1 hst (by show 2 * 0 + _ ≤ 8; omega) hdg hcc
theorem js_callV (hk : jHk p l e0 R s m args below meth c Q E nL n0 z0 out k) (hx : p.tables.exec = Jvm.exec) (hb : c.code = cc) (hml : c.maxLocals = nL) (hown : s.vm.findClass own = some m.cls) (hts : ∀ w ∈ jgw, w.before args s = true) (hK : jKn E s) (hbs : E.2.1 ≤ s.heap.size) {D : Nat} (hRf : D + 1 ≤ R.frames) (hRl : 100 * (D + 1) ≤ R.locals) (hRc : j_c out.2 - n0 ≤ R.cells) (hRs : j_z out.2 - z0 ≤ R.slots) {C : jC} (hC : jCok D C) {idx x u : Nat} (hkd : jmk x = 1) (hu : u = jma x + 1) (hl : Cond.methodLink own idx (jmn x) ∈ jgw) (hdg : decode cc pc = .ok (.invokevirtual idx, 3))
    (e : cond (Nat.ble u S.length && Nat.ble (j_cat (S.drop u)) 8) (C x (S.take u).reverse h fun r h => k (pc + 3) L (r.toList ++ S.drop u) h) none = some out) : jG1 p l e0 R s m args below meth c Q E nL n0 z0 out pc L S h := by
  obtain ⟨hc, e⟩ := js_cond e
  obtain ⟨hul, hst, hcat⟩ := js_stk (E := E) hc
  obtain ⟨d, r, h', hd, ⟨hm, b, ml, rt, ⟨o1, o2, o3, o4, o5⟩, hM⟩, hrec, e⟩ := hC _ _ _ _ _ e
  have hmo := (hk _ _ _ _ e).1
  refine ⟨by omega, fun a1 b1 H locs ls g1 g2 g3 g4 => ?_⟩
  have hcc : j_c h - n0 + (j_c h' - j_c h) ≤ R.cells ∧ j_z h - z0 + (j_z h' - j_z h) ≤ R.slots := by omega
  obtain ⟨hins, hsel⟩ : Cond.instanceMethod (jmn x) ∈ jgw ∧ Cond.selects (jmn x).cls (jmn x) (jmn x) ∈ jgw := by
    rcases o4 with ⟨q, -⟩ | ⟨-, q1, q2⟩ | ⟨q, -⟩
    · omega
    · exact ⟨q1, q2⟩
    · omega
  obtain ⟨a, as, has, hcl⟩ := hrec.1 hkd
  have hlen0 : ((S.take u).reverse).length = jma x + 1 := by rw [List.length_reverse, List.length_take]; omega
  have hM' := hM l E
  rw [has] at hst hM' hlen0
  have hpre := js_preS (as := .ref a :: as) hbs hK g1 g2 g3
  refine js_back hk hbs e a1 b1 hm.1 hm.2 g1 g3 g4 ?_
  have hfix : CallFix p m c cc nL s args jgw own := ⟨hx, hb, hml, hown, hts⟩
  have hlen : (as.map (cv E)).length = jma x := by rw [List.length_map]; simpa using hlen0
  have hrecv : ∃ cellB : Cell, H[e_ad E a]? = some cellB ∧ cellB.vm.isStatics = false ∧ s.vm.findClass (jmn x).cls = some cellB.cls := by
    rcases hcl with ⟨ci, hci, hka, hR⟩ | ⟨rfl, hR⟩
    · obtain ⟨-, -, cell, q1, q2, q3, -⟩ := g1.obj hka (by omega)
      rw [show 10 + ci - 10 = ci by omega] at q2
      refine ⟨cell, q1, by rw [q3]; rfl, ?_⟩
      rw [← hR, q2]
      exact (hK.1 ci hci).2.1
    · rw [hR]
      obtain ⟨adV, hS⟩ := hK.2.2.2.2.2.2.2.2.2.1
      show ∃ cellB : Cell, H[E.1 3]? = some cellB ∧ cellB.vm.isStatics = false ∧ s.vm.findClass "java/lang/String" = some cellB.cls
      exact vk_recv (i := 0) hS (by decide) g3
  exact va_runV (C := (jmn x).cls) (b := e_ad E a) (As := as.map (cv E)) hfix hM' ⟨callB_of (jma x) hts (goodIn_g o1) rfl rfl rfl (hts _ o2) (hts _ hl) o5 (jRm hd o3 hRf hRl), hts _ hins, hts _ hsel⟩ ⟨jPc_blind E _ h, hrecv, hpre⟩ rfl hlen g4.2.1 (by show S.map (cv E) = _; rw [hst]; simp [cv_r]) (by show 2 * 0 + _ ≤ 8; omega) hdg hcc
theorem js_callI (hk : jHk p l e0 R s m args below meth c Q E nL n0 z0 out k) (hx : p.tables.exec = Jvm.exec) (hb : c.code = cc) (hml : c.maxLocals = nL) (hown : s.vm.findClass own = some m.cls) (hts : ∀ w ∈ jgw, w.before args s = true) (hK : jKn E s) (hbs : E.2.1 ≤ s.heap.size) {D : Nat} (hRf : D + 1 ≤ R.frames) (hRl : 100 * (D + 1) ≤ R.locals) (hRc : j_c out.2 - n0 ≤ R.cells) (hRs : j_z out.2 - z0 ≤ R.slots) {C : jC} (hC : jCok D C) {idx x u : Nat} (hkd : jmk x = 2) (hu : u = jma x + 1) (hl : Cond.methodLink own idx (jmn x) ∈ jgw ∨ Cond.methodLinkNest own idx (jmn x) "FootMaps" ∈ jnw) (hdg : decode cc pc = .ok (.invokespecial idx, 3))
    (e : cond (Nat.ble u S.length && Nat.ble (j_cat (S.drop u)) 8) (C x (S.take u).reverse h fun r h => k (pc + 3) L (r.toList ++ S.drop u) h) none = some out) : jG1 p l e0 R s m args below meth c Q E nL n0 z0 out pc L S h := by
  obtain ⟨hc, e⟩ := js_cond e
  obtain ⟨hul, hst, hcat⟩ := js_stk (E := E) hc
  obtain ⟨d, r, h', hd, ⟨hm, b, ml, rt, ⟨o1, o2, o3, o4, o5⟩, hM⟩, hrec, e⟩ := hC _ _ _ _ _ e
  obtain ⟨a, as, has⟩ := hrec.2 hkd
  have hmo := (hk _ _ _ _ e).1
  refine ⟨by omega, fun a1 b1 H locs ls g1 g2 g3 g4 => ?_⟩
  have hcc : j_c h - n0 + (j_c h' - j_c h) ≤ R.cells ∧ j_z h - z0 + (j_z h' - j_z h) ≤ R.slots := by omega
  obtain ⟨hins, hnm, rfl⟩ : Cond.instanceMethod (jmn x) ∈ jgw ∧ (jmn x).name = "<init>" ∧ rt = none := by
    rcases o4 with ⟨q, -⟩ | ⟨q, -⟩ | ⟨-, q1, q2, q3⟩
    · omega
    · omega
    · exact ⟨q1, q2, q3⟩
  have hlen0 : ((S.take u).reverse).length = jma x + 1 := by rw [List.length_reverse, List.length_take]; omega
  have hM' := hM l E
  rw [has] at hst hM' hlen0
  have hpre := js_preS (as := .ref a :: as) hbs hK g1 g2 g3
  refine js_back hk hbs e a1 b1 hm.1 hm.2 g1 g3 g4 ?_
  have hfix : CallFix p m c cc nL s args jgw own := ⟨hx, hb, hml, hown, hts⟩
  have hlen : (as.map (cv E)).length = jma x := by rw [List.length_map]; simpa using hlen0
  rcases hl with hl | hl
  · exact va_runI (b := e_ad E a) (As := as.map (cv E)) hfix hM' ⟨callB_of (jma x) hts (goodIn_g o1) rfl rfl rfl (hts _ o2) (hts _ hl) o5 (jRm hd o3 hRf hRl), hnm, hts _ hins⟩ ⟨jPc_blind E _ h, hpre⟩ rfl hlen g4.2.1 (by show S.map (cv E) = _; rw [hst]; simp [cv_r]) (by show 2 * 0 + _ ≤ 8; omega) hdg hcc
  · exact va_runIN (b := e_ad E a) (As := as.map (cv E)) hfix hM' ⟨va_cnB (jma x) hts (goodIn_g o1) rfl rfl rfl (hK.2.2.1 _ hl) (hts _ o2) o5 (jRm hd o3 hRf hRl), hnm, hts _ hins⟩ ⟨jPc_blind E _ h, hpre⟩ rfl hlen g4.2.1 (by show S.map (cv E) = _; rw [hst]; simp [cv_r]) (by show 2 * 0 + _ ≤ 8; omega) hdg hcc
end JK
