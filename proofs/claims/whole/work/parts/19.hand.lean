/-- String.length, charAt of the one text -/
def m_Js_length (F : Nat × Nat) (o : Nat) (h : jH) : Option jO := some (some (.int (Int32.ofNat jwb.length)), h)
def m_Js_charAt (F : Nat × Nat) (o : Nat) (a : Int32) (h : jH) : Option jO := if ¬ a < 0 ∧ a.toNatClampNeg < jwb.length then some (some (.int (jwb.getD a.toNatClampNeg 0)), h) else none
/-! results of calls -/
theorem js_jbI {o : Option jO} {f : Int32 → jH → Option jO} {out : jO} (e : jbI o f = some out) : ∃ r h, o = some (some (.int r), h) ∧ f r h = some out := by
  unfold jbI at e
  split at e
  · exact ⟨_, _, rfl, e⟩
  · cases e
theorem js_jbJ {o : Option jO} {f : Int64 → jH → Option jO} {out : jO} (e : jbJ o f = some out) : ∃ r h, o = some (some (.long r), h) ∧ f r h = some out := by
  unfold jbJ at e
  split at e
  · exact ⟨_, _, rfl, e⟩
  · cases e
theorem js_jbV {o : Option jO} {f : jH → Option jO} {out : jO} (e : jbV o f = some out) : ∃ h, o = some (none, h) ∧ f h = some out := by
  unfold jbV at e
  split at e
  · exact ⟨_, rfl, e⟩
  · cases e
theorem js_jbR {o : Option jO} {f : Value → jH → Option jO} {out : jO} (e : jbR o f = some out) : ∃ r h, o = some (some r, h) ∧ f r h = some out := by
  unfold jbR at e
  split at e
  · exact ⟨_, _, rfl, (js_cond e).2⟩
  · cases e

/-! String.length and charAt of the one text: by hand -/
def ys_coder : MethodName := ⟨"java/lang/String", "coder", "()B"⟩
abbrev ws_coder : List Cond := Cond.code ys_coder prog_13_method_152_code 1 (Option.some FieldType.byte) :: jgw
set_option maxRecDepth 100000 in
theorem cs_coder : Cond.code ys_coder prog_13_method_152_code 1 (Option.some FieldType.byte) ∈ jgw := List.mem_filter.mpr ⟨List.mem_append_right _ (show _ ∈ tables_1 from List.mem_append_right _ (List.mem_append_right _ (List.mem_append_left _ (List.mem_of_getElem? (i := 35) rfl)))), rfl⟩
def ys_length : MethodName := ⟨"java/lang/String", "length", "()I"⟩
abbrev ws_length : List Cond := Cond.code ys_length prog_13_method_54_code 1 (Option.some FieldType.int) :: jgw
set_option maxRecDepth 100000 in
theorem cs_length : Cond.code ys_length prog_13_method_54_code 1 (Option.some FieldType.int) ∈ jgw := List.mem_filter.mpr ⟨List.mem_append_right _ (show _ ∈ tables_1 from List.mem_append_right _ (List.mem_append_right _ (List.mem_append_left _ (List.mem_of_getElem? (i := 31) rfl)))), rfl⟩
def ys_isLatin1 : MethodName := ⟨"java/lang/String", "isLatin1", "()Z"⟩
abbrev ws_isLatin1 : List Cond := Cond.code ys_isLatin1 prog_13_method_154_code 1 (Option.some FieldType.boolean) :: jgw
set_option maxRecDepth 100000 in
theorem cs_isLatin1 : Cond.code ys_isLatin1 prog_13_method_154_code 1 (Option.some FieldType.boolean) ∈ jgw := List.mem_filter.mpr ⟨List.mem_append_right _ (show _ ∈ tables_1 from List.mem_append_right _ (List.mem_append_right _ (List.mem_append_left _ (List.mem_of_getElem? (i := 45) rfl)))), rfl⟩
def ys_charAt : MethodName := ⟨"java/lang/String", "charAt", "(I)C"⟩
abbrev ws_charAt : List Cond := Cond.code ys_charAt prog_13_method_56_code 2 (Option.some FieldType.char) :: jgw
set_option maxRecDepth 100000 in
theorem cs_charAt : Cond.code ys_charAt prog_13_method_56_code 2 (Option.some FieldType.char) ∈ jgw := List.mem_filter.mpr ⟨List.mem_append_right _ (show _ ∈ tables_1 from List.mem_append_right _ (List.mem_append_right _ (List.mem_append_left _ (List.mem_of_getElem? (i := 41) rfl)))), rfl⟩
def ys_lch : MethodName := ⟨"java/lang/StringLatin1", "charAt", "([BI)C"⟩
abbrev ws_lch : List Cond := Cond.code ys_lch prog_14_method_2_code 2 (Option.some FieldType.char) :: jgw
set_option maxRecDepth 100000 in
theorem cs_lch : Cond.code ys_lch prog_14_method_2_code 2 (Option.some FieldType.char) ∈ jgw := List.mem_filter.mpr ⟨List.mem_append_right _ (show _ ∈ tables_1 from List.mem_append_right _ (List.mem_append_right _ (List.mem_append_left _ (List.mem_of_getElem? (i := 48) rfl)))), rfl⟩
def ys_chk : MethodName := ⟨"java/lang/String", "checkIndex", "(II)V"⟩
abbrev ws_chk : List Cond := Cond.code ys_chk prog_13_method_155_code 2 (Option.none : Option FieldType) :: jgw
set_option maxRecDepth 100000 in
theorem cs_chk : Cond.code ys_chk prog_13_method_155_code 2 (Option.none : Option FieldType) ∈ jgw := List.mem_filter.mpr ⟨List.mem_append_right _ (show _ ∈ tables_1 from List.mem_append_right _ (List.mem_append_right _ (List.mem_append_left _ (List.mem_of_getElem? (i := 51) rfl)))), rfl⟩
def ys_pre : MethodName := ⟨"jdk/internal/util/Preconditions", "checkIndex", "(IILjava/util/function/BiFunction;)I"⟩
abbrev ws_pre : List Cond := Cond.code ys_pre prog_18_method_11_code 3 (Option.some FieldType.int) :: jgw
set_option maxRecDepth 100000 in
theorem cs_pre : Cond.code ys_pre prog_18_method_11_code 3 (Option.some FieldType.int) ∈ jgw := List.mem_filter.mpr ⟨List.mem_append_right _ (show _ ∈ tables_1 from List.mem_append_right _ (List.mem_append_right _ (List.mem_append_left _ (List.mem_of_getElem? (i := 56) rfl)))), rfl⟩
/-- a start with raw arguments -/
def jPs (E : jEv) (vs : List Value) (h : jH) (B : State → Prop) : Array Value → State → Prop := va_Pc vs (fun U => jKn E U ∧ jWd E h U.heap ∧ jSt E h U ∧ B U)
def jBt (E : jEv) (t N : Nat) (f : Nat → Value) (U : State) : Prop := va_T .byte t N f (e_A E) U U.heap
theorem jPs_blind (E : jEv) (vs : List Value) (h : jH) {B : State → Prop} (hB : ∀ U g mk a, B U → B (U.calling g mk a)) : FrameBlind (jPs E vs h B) := by
  intro a U g mk q
  obtain ⟨q0, q1, q2, q3, q4⟩ := q
  exact ⟨q0, jKn.same (u := U) (U := U.calling g mk a) rfl rfl q1, q2, fun b hb => ⟨(q3 b hb).1, va_T.moved (u := U) (U := U.calling g mk a) (Vm.Alike.refl U.vm) (q3 b hb).2⟩, hB U g mk a q4⟩
section JHS
variable {p : Program} {l : Launch} {e0 : Env} {R : Room} {s : State} {m : MethodId} {args : Array Value} {below : List Frame} {meth : Method} {c : Code} {Q : State → Prop} {E : jEv} {cc : ByteArray} {own : String} {h : jH}
theorem jh_pre (hbs : E.2.1 ≤ s.heap.size) (hK : jKn E s) {vs : List Value} {H : Heap} {locs : List Loc} (g1 : jWd E h H) (g2 : jSt E h s) (g3 : va_S (e_A E) s.heap H locs) {B : State → Prop} (hB : ∀ U : State, U.heap = H → s.WarmedH U.vm → B U) : ∀ U : State, U.heap = H → s.WarmedH U.vm → jPs E vs h B vs.toArray U := by
  intro U hU hW
  have hq : ∀ a : Nat, a < s.heap.size → ¬ e_A E a → U.heap[a]? = s.heap[a]? := fun a h1 h2 => by rw [hU]; exact g3.2.1 a h1 h2
  exact ⟨rfl, hK.warm hW hq, by rw [hU]; exact g1, g2.to hW.alike hbs hq, hB U hU hW⟩
theorem jh_call {pc : Nat} {r : Option Value} {rest : List Value} {H : Heap} {locs : List Loc} {ls : Array Slot} {st0 : List Value} {cells slots : Nat} (g1 : jWd E h H) (g3 : va_S (e_A E) s.heap H locs)
    (hr : va_Run p l e0 R s m args below meth c H locs cells slots 0 0 (F0 m pc ls st0) rest (jQc E r h (#[] : Array Value)) (e_A E))
    (kk : ∀ (H1 : Heap) (locs1 : List Loc), jWd E h H1 → va_S (e_A E) s.heap H1 locs1 → W p l e0 R s m args below meth c H1 locs1 cells slots Q (F0 m (pc + 3) ls ((r.map (cv E)).toList ++ rest))) : W p l e0 R s m args below meth c H locs cells slots Q (F0 m pc ls st0) := by
  intro T hT X
  obtain ⟨v, st₀, t, T', L1, h0, X', hL, e1, e2, ⟨hv, q1, q2, q3⟩, st⟩ := hr T hT X
  cases hv
  have hlow : ∀ q, q < E.2.1 → t.heap[q]? = H[q]? := fun q hq => by rw [q3 q hq, h0]
  have hsz : t.heap.size = H.size := by rw [q1.2.1, g1.2.1]
  have hS : va_S (e_A E) s.heap t.heap (locs ++ L1) := by
    refine ⟨by rw [hsz]; exact g3.1, fun q h1 h2 => ?_, fun q hq => ?_⟩
    · rw [hlow q (Nat.not_le.mp h2)]
      exact g3.2.1 q h1 h2
    · rcases List.mem_append.mp hq with h1 | h1
      · exact g3.2.2 q h1
      · exact hL q h1
  obtain ⟨t2, a2, b2⟩ := kk t.heap (locs ++ L1) q1 hS T' e1 X'
  exact ⟨t2, st t2 a2, b2⟩
end JHS

set_option maxRecDepth 20000 in
theorem s_coder (l : Launch) (E : jEv) (h : jH) : Met l ys_coder ws_coder (jrm 0 0 0) (jPs E [.ref (E.1 3)] h (fun _ => True)) (jQc E (some (.int 0)) h) 0 0 (e_A E) := by
  refine va_MetF (cc := prog_13_method_152_code) (maxL := 1) (ret := (Option.some FieldType.byte)) (by decide +kernel) rfl ?_
  intro p e s m args below meth c s₁ BB hml hv
  obtain ⟨rfl, hK, hW, hS, hB⟩ := hv
  have hx := BB.exec
  have hb := BB.bytes
  have hr := BB.returns
  have hts0 := atoms_spec (ws := ws_coder) BB.pre
  have hts : ∀ w ∈ jgw, w.before (([.ref (E.1 3)] : List Value).toArray) s = true := fun w hw => hts0 w (List.mem_cons_of_mem _ hw)
  have hown : s.vm.findClass "java/lang/String" = some m.cls := findClass_of_methodNamed BB.named
  have hlocks := BB.notSynchronized
  have hbs : E.2.1 ≤ s.heap.size := by rw [hW.2.1]; omega
  have g3 : va_S (e_A E) s.heap s.heap [] := va_S.rf
  have hl := lv_entry ([.ref (E.1 3)] : List Value) (n := 1) (Nat.le_of_ble_eq_true rfl)
  rw [lg_entry_eq]
  generalize (lg_sl ([.ref (E.1 3)] : List Value) ++ List.replicate (1 - (lg_sl ([.ref (E.1 3)] : List Value)).length) Slot.unset).toArray = ls at hl ⊢
  have g1 := hW
  have hl : lv_has ls 1 [(0, .ref (E.1 3))] := hl
  obtain ⟨adV, hVS⟩ := hK.2.2.2.2.2.2.2.2.2.1
  obtain ⟨-, hco, -, -⟩ := hVS.1 0 (by decide)
  refine va_gets hx hb hK.2.2.2.2.2.2.2.2.2.2.1 g3 hown (hts (.fieldLink "java/lang/String" 38 "java/lang/String" "COMPACT_STRINGS" "Z") (jw_of (z := 630) (by decide +kernel))) (fun _ z => z) (show decode prog_13_method_152_code 0 = .ok (.getstatic 38, 3) by decide +kernel) ?_
  refine lv_if_eq (tgt := 13) hx hb (show decode prog_13_method_152_code 3 = .ok (.ifCond .eq 10, 3) by decide +kernel) (by decide) (fun q => absurd q (by decide)) (fun _ => ?_)
  refine lv_aload_n hx hb (show decode prog_13_method_152_code 6 = .ok (.aload_n 0, 1) by decide +kernel) rfl (lv_at hl 0 rfl) ?_
  refine vk_getf hx hb hco g3 hown (hts (.fieldLink "java/lang/String" 15 "java/lang/String" "coder" "B") (jw_of (z := 1820) (by decide +kernel))) (fun _ z => z) (show decode prog_13_method_152_code 7 = .ok (.getfield 15, 3) by decide +kernel) ?_
  refine lv_goto (tgt := 14) hx hb (show decode prog_13_method_152_code 10 = .ok (.goto 4, 3) by decide +kernel) (by decide) ?_
  exact W.zret (v := 0) hx hb hr (by decide) (fun t ht hWm => ⟨rfl, by rw [ht]; exact g1, jSt.to hWm.alike hbs (fun a h1 h2 => (congrArg (fun X : Heap => X[a]?) ht).trans (g3.2.1 a h1 h2)) hS, fun q hq => (congrArg (fun X : Heap => X[q]?) ht).trans (g3.2.1 q (by omega) (Nat.not_le.mpr hq))⟩) g3.2.2 (show decode prog_13_method_152_code 14 = .ok (.ireturn, 1) by decide +kernel) hlocks
set_option maxRecDepth 20000 in
theorem s_isLatin1 (l : Launch) (E : jEv) (h : jH) : Met l ys_isLatin1 ws_isLatin1 (jrm 0 0 0) (jPs E [.ref (E.1 3)] h (fun _ => True)) (jQc E (some (.int 1)) h) 0 0 (e_A E) := by
  refine va_MetF (cc := prog_13_method_154_code) (maxL := 1) (ret := (Option.some FieldType.boolean)) (by decide +kernel) rfl ?_
  intro p e s m args below meth c s₁ BB hml hv
  obtain ⟨rfl, hK, hW, hS, hB⟩ := hv
  have hx := BB.exec
  have hb := BB.bytes
  have hr := BB.returns
  have hts0 := atoms_spec (ws := ws_isLatin1) BB.pre
  have hts : ∀ w ∈ jgw, w.before (([.ref (E.1 3)] : List Value).toArray) s = true := fun w hw => hts0 w (List.mem_cons_of_mem _ hw)
  have hown : s.vm.findClass "java/lang/String" = some m.cls := findClass_of_methodNamed BB.named
  have hlocks := BB.notSynchronized
  have hbs : E.2.1 ≤ s.heap.size := by rw [hW.2.1]; omega
  have g3 : va_S (e_A E) s.heap s.heap [] := va_S.rf
  have hl := lv_entry ([.ref (E.1 3)] : List Value) (n := 1) (Nat.le_of_ble_eq_true rfl)
  rw [lg_entry_eq]
  generalize (lg_sl ([.ref (E.1 3)] : List Value) ++ List.replicate (1 - (lg_sl ([.ref (E.1 3)] : List Value)).length) Slot.unset).toArray = ls at hl ⊢
  have g1 := hW
  have hl : lv_has ls 1 [(0, .ref (E.1 3))] := hl
  obtain ⟨adV, hVS⟩ := hK.2.2.2.2.2.2.2.2.2.1
  obtain ⟨-, hco, -, -⟩ := hVS.1 0 (by decide)
  refine va_gets hx hb hK.2.2.2.2.2.2.2.2.2.2.1 g3 hown (hts (.fieldLink "java/lang/String" 38 "java/lang/String" "COMPACT_STRINGS" "Z") (jw_of (z := 630) (by decide +kernel))) (fun _ z => z) (show decode prog_13_method_154_code 0 = .ok (.getstatic 38, 3) by decide +kernel) ?_
  refine lv_if_eq (tgt := 17) hx hb (show decode prog_13_method_154_code 3 = .ok (.ifCond .eq 14, 3) by decide +kernel) (by decide) (fun q => absurd q (by decide)) (fun _ => ?_)
  refine lv_aload_n hx hb (show decode prog_13_method_154_code 6 = .ok (.aload_n 0, 1) by decide +kernel) rfl (lv_at hl 0 rfl) ?_
  refine vk_getf hx hb hco g3 hown (hts (.fieldLink "java/lang/String" 15 "java/lang/String" "coder" "B") (jw_of (z := 1820) (by decide +kernel))) (fun _ z => z) (show decode prog_13_method_154_code 7 = .ok (.getfield 15, 3) by decide +kernel) ?_
  refine lv_if_ne (tgt := 17) hx hb (show decode prog_13_method_154_code 10 = .ok (.ifCond .ne 7, 3) by decide +kernel) (by decide) (fun q => absurd rfl q) (fun _ => ?_)
  refine lv_iconst (v := 1) hx hb (show decode prog_13_method_154_code 13 = .ok (.iconst 1, 1) by decide +kernel) (by decide) ?_
  refine lv_goto (tgt := 18) hx hb (show decode prog_13_method_154_code 14 = .ok (.goto 4, 3) by decide +kernel) (by decide) ?_
  exact W.zret (v := 1) hx hb hr (by decide) (fun t ht hWm => ⟨rfl, by rw [ht]; exact g1, jSt.to hWm.alike hbs (fun a h1 h2 => (congrArg (fun X : Heap => X[a]?) ht).trans (g3.2.1 a h1 h2)) hS, fun q hq => (congrArg (fun X : Heap => X[q]?) ht).trans (g3.2.1 q (by omega) (Nat.not_le.mpr hq))⟩) g3.2.2 (show decode prog_13_method_154_code 18 = .ok (.ireturn, 1) by decide +kernel) hlocks
set_option maxRecDepth 20000 in
theorem s_pre (l : Launch) (E : jEv) (h : jH) (i n : Int32) (v : Value) (hv0 : v = .null ∨ ∃ a, v = .ref a) (h1 : ¬ i < 0) (h2 : i < n) : Met l ys_pre ws_pre (jrm 0 0 0) (jPs E [.int i, .int n, v] h (fun _ => True)) (jQc E (some (.int i)) h) 0 0 (e_A E) := by
  refine va_MetF (cc := prog_18_method_11_code) (maxL := 3) (ret := (Option.some FieldType.int)) (by decide +kernel) rfl ?_
  intro p e s m args below meth c s₁ BB hml hv
  obtain ⟨rfl, hK, hW, hS, hB⟩ := hv
  have hx := BB.exec
  have hb := BB.bytes
  have hr := BB.returns
  have hts0 := atoms_spec (ws := ws_pre) BB.pre
  have hts : ∀ w ∈ jgw, w.before (([.int i, .int n, v] : List Value).toArray) s = true := fun w hw => hts0 w (List.mem_cons_of_mem _ hw)
  have hown : s.vm.findClass "jdk/internal/util/Preconditions" = some m.cls := findClass_of_methodNamed BB.named
  have hlocks := BB.notSynchronized
  have hbs : E.2.1 ≤ s.heap.size := by rw [hW.2.1]; omega
  have g3 : va_S (e_A E) s.heap s.heap [] := va_S.rf
  have hl := lv_entry ([.int i, .int n, v] : List Value) (n := 3) (by rcases hv0 with rfl | ⟨a, rfl⟩ <;> exact Nat.le_of_ble_eq_true rfl)
  rw [lg_entry_eq]
  generalize (lg_sl ([.int i, .int n, v] : List Value) ++ List.replicate (3 - (lg_sl ([.int i, .int n, v] : List Value)).length) Slot.unset).toArray = ls at hl ⊢
  have g1 := hW
  have hl : lv_has ls 3 [(0, .int i), (1, .int n)] := ⟨hl.1, hl.2.1, fun q hq => hl.2.2 q (by rcases hv0 with rfl | ⟨a, rfl⟩ <;> (simp only [List.mem_cons, List.not_mem_nil, or_false] at hq; rcases hq with rfl | rfl <;> simp [lv_args, Value.category]))⟩
  refine lv_iload_n hx hb (show decode prog_18_method_11_code 0 = .ok (.iload_n 0, 1) by decide +kernel) rfl (lv_at hl 0 rfl) ?_
  refine lv_if_lt (tgt := 9) hx hb (show decode prog_18_method_11_code 1 = .ok (.ifCond .lt 8, 3) by decide +kernel) (by decide) (fun q => absurd q h1) (fun _ => ?_)
  refine lv_iload_n hx hb (show decode prog_18_method_11_code 4 = .ok (.iload_n 0, 1) by decide +kernel) rfl (lv_at hl 0 rfl) ?_
  refine lv_iload_n hx hb (show decode prog_18_method_11_code 5 = .ok (.iload_n 1, 1) by decide +kernel) rfl (lv_at hl 1 rfl) ?_
  refine lv_icmp_lt (tgt := 16) hx hb (show decode prog_18_method_11_code 6 = .ok (.if_icmp .lt 10, 3) by decide +kernel) (by decide) (fun _ => ?_) (fun q => absurd h2 q)
  refine lv_iload_n hx hb (show decode prog_18_method_11_code 16 = .ok (.iload_n 0, 1) by decide +kernel) rfl (lv_at hl 0 rfl) ?_
  exact W.iret (v := i) hx hb hr (fun t ht hWm => ⟨rfl, by rw [ht]; exact g1, jSt.to hWm.alike hbs (fun a h1 h2 => (congrArg (fun X : Heap => X[a]?) ht).trans (g3.2.1 a h1 h2)) hS, fun q hq => (congrArg (fun X : Heap => X[q]?) ht).trans (g3.2.1 q (by omega) (Nat.not_le.mpr hq))⟩) g3.2.2 (show decode prog_18_method_11_code 17 = .ok (.ireturn, 1) by decide +kernel) hlocks
set_option maxRecDepth 20000 in
theorem s_chk (l : Launch) (E : jEv) (h : jH) (i n : Int32) (h1 : ¬ i < 0) (h2 : i < n) : Met l ys_chk ws_chk (jrm 1 0 0) (jPs E [.int i, .int n] h (fun _ => True)) (jQc E none h) 0 0 (e_A E) := by
  refine va_MetF (cc := prog_13_method_155_code) (maxL := 2) (ret := (Option.none : Option FieldType)) (by decide +kernel) rfl ?_
  intro p e s m args below meth c s₁ BB hml hv
  obtain ⟨rfl, hK, hW, hS, hB⟩ := hv
  have hx := BB.exec
  have hb := BB.bytes
  have hr := BB.returns
  have hts0 := atoms_spec (ws := ws_chk) BB.pre
  have hts : ∀ w ∈ jgw, w.before (([.int i, .int n] : List Value).toArray) s = true := fun w hw => hts0 w (List.mem_cons_of_mem _ hw)
  have hown : s.vm.findClass "java/lang/String" = some m.cls := findClass_of_methodNamed BB.named
  have hlocks := BB.notSynchronized
  have hbs : E.2.1 ≤ s.heap.size := by rw [hW.2.1]; omega
  have g3 : va_S (e_A E) s.heap s.heap [] := va_S.rf
  have hl := lv_entry ([.int i, .int n] : List Value) (n := 2) (Nat.le_of_ble_eq_true rfl)
  rw [lg_entry_eq]
  generalize (lg_sl ([.int i, .int n] : List Value) ++ List.replicate (2 - (lg_sl ([.int i, .int n] : List Value)).length) Slot.unset).toArray = ls at hl ⊢
  have g1 := hW
  have hl : lv_has ls 2 [(0, .int i), (1, .int n)] := hl
  refine lv_iload_n hx hb (show decode prog_13_method_155_code 0 = .ok (.iload_n 0, 1) by decide +kernel) rfl (lv_at hl 0 rfl) ?_
  refine lv_iload_n hx hb (show decode prog_13_method_155_code 1 = .ok (.iload_n 1, 1) by decide +kernel) rfl (lv_at hl 1 rfl) ?_
  obtain ⟨v, hv, hZ⟩ : ∃ v : Value, (v = .null ∨ ∃ a, v = .ref a) ∧ va_Z "jdk/internal/util/Preconditions" "SIOOBE_FORMATTER" "Ljava/util/function/BiFunction;" v (e_A E) s s.heap := by
    rcases hK.2.2.2.2.2.2.2.2.2.2.2 with z | ⟨t, z⟩
    · exact ⟨_, Or.inl rfl, z⟩
    · exact ⟨_, Or.inr ⟨t, rfl⟩, z⟩
  refine va_gets hx hb hZ g3 hown (hts (.fieldLink "java/lang/String" 1053 "jdk/internal/util/Preconditions" "SIOOBE_FORMATTER" "Ljava/util/function/BiFunction;") (jw_of (z := 646) (by decide +kernel))) (fun _ z => z) (show decode prog_13_method_155_code 2 = .ok (.getstatic 1053, 3) by decide +kernel) ?_
  refine jh_call (r := some (.int i)) (rest := []) hW g3 (va_runS (As := [.int i, .int n, v]) ⟨hx, hb, hml, hown, hts⟩ (s_pre l E h i n v hv h1 h2) ⟨callB_of 3 hts (goodIn_g cs_pre) rfl rfl rfl (hts _ (jw_of (z := 127) (by decide +kernel))) (hts _ (jw_of (z := 648) (by decide +kernel))) (by decide +kernel) ⟨by decide, by decide⟩, hts _ (jw_of (z := 649) (by decide +kernel))⟩ ⟨jPs_blind E _ h (fun _ _ _ _ z => z), jh_pre hbs hK hW hS g3 (fun _ _ _ => trivial)⟩ rfl rfl hl.1 rfl (lv_room (Nat.le_of_ble_eq_true rfl)) (show decode prog_13_method_155_code 5 = .ok (.invokestatic 1059, 3) by decide +kernel) ⟨by decide, by decide⟩) (fun H1 locs1 g1 g3 => ?_)
  refine lv_pop hx hb (show decode prog_13_method_155_code 8 = .ok (.pop, 1) by decide +kernel) rfl ?_
  exact W.vret hx hb hr (fun t ht hWm => ⟨rfl, by rw [ht]; exact g1, jSt.to hWm.alike hbs (fun a h1 h2 => (congrArg (fun X : Heap => X[a]?) ht).trans (g3.2.1 a h1 h2)) hS, fun q hq => (congrArg (fun X : Heap => X[q]?) ht).trans (g3.2.1 q (by omega) (Nat.not_le.mpr hq))⟩) g3.2.2 (show decode prog_13_method_155_code 9 = .ok (.return_, 1) by decide +kernel) hlocks
set_option maxRecDepth 20000 in
theorem s_lch (l : Launch) (E : jEv) (h : jH) (t N : Nat) (f : Nat → Value) (i : Int32) (x : Int32) (hN : N < 2 ^ 31) (h1 : ¬ i < 0) (h2 : i.toNatClampNeg < N) (hx0 : f i.toNatClampNeg = .int x) (hx1 : ((x &&& 255).toUInt32 % 65536).toInt32 = x) (hx2 : narrow .char (.int x) = .int x) : Met l ys_lch ws_lch (jrm 2 0 0) (jPs E [.ref t, .int i] h (jBt E t N f)) (jQc E (some (.int x)) h) 0 0 (e_A E) := by
  refine va_MetF (cc := prog_14_method_2_code) (maxL := 2) (ret := (Option.some FieldType.char)) (by decide +kernel) rfl ?_
  intro p e s m args below meth c s₁ BB hml hv
  obtain ⟨rfl, hK, hW, hS, hB⟩ := hv
  have hx := BB.exec
  have hb := BB.bytes
  have hr := BB.returns
  have hts0 := atoms_spec (ws := ws_lch) BB.pre
  have hts : ∀ w ∈ jgw, w.before (([.ref t, .int i] : List Value).toArray) s = true := fun w hw => hts0 w (List.mem_cons_of_mem _ hw)
  have hown : s.vm.findClass "java/lang/StringLatin1" = some m.cls := findClass_of_methodNamed BB.named
  have hlocks := BB.notSynchronized
  have hbs : E.2.1 ≤ s.heap.size := by rw [hW.2.1]; omega
  have g3 : va_S (e_A E) s.heap s.heap [] := va_S.rf
  have hl := lv_entry ([.ref t, .int i] : List Value) (n := 2) (Nat.le_of_ble_eq_true rfl)
  rw [lg_entry_eq]
  generalize (lg_sl ([.ref t, .int i] : List Value) ++ List.replicate (2 - (lg_sl ([.ref t, .int i] : List Value)).length) Slot.unset).toArray = ls at hl ⊢
  have g1 := hW
  have hl : lv_has ls 2 [(0, .ref t), (1, .int i)] := hl
  have hi : i = nI i.toNatClampNeg := by
    obtain ⟨j, hj, e⟩ := nI_of h1
    rw [e, nI_clamp hj]
  have hlt : i < Int32.ofNat N := by
    rw [hi]
    exact nI_lt h2 hN
  refine lv_iload_n hx hb (show decode prog_14_method_2_code 0 = .ok (.iload_n 1, 1) by decide +kernel) rfl (lv_at hl 1 rfl) ?_
  refine lv_aload_n hx hb (show decode prog_14_method_2_code 1 = .ok (.aload_n 0, 1) by decide +kernel) rfl (lv_at hl 0 rfl) ?_
  refine va_tlen hx hb hB g3 rfl (show decode prog_14_method_2_code 2 = .ok (.arraylength, 1) by decide +kernel) ?_
  refine jh_call (r := none) (rest := []) hW g3 (va_runS (As := [.int i, .int (Int32.ofNat N)]) ⟨hx, hb, hml, hown, hts⟩ (s_chk l E h i (Int32.ofNat N) h1 hlt) ⟨callB_of 2 hts (goodIn_g cs_chk) rfl rfl rfl (hts _ (jw_of (z := 125) (by decide +kernel))) (hts _ (jw_of (z := 643) (by decide +kernel))) (by decide +kernel) ⟨by decide, by decide⟩, hts _ (jw_of (z := 644) (by decide +kernel))⟩ ⟨jPs_blind E _ h (fun _ _ _ _ z => z), jh_pre hbs hK hW hS g3 (fun _ _ _ => trivial)⟩ rfl rfl hl.1 rfl (lv_room (Nat.le_of_ble_eq_true rfl)) (show decode prog_14_method_2_code 3 = .ok (.invokestatic 9, 3) by decide +kernel) ⟨by decide, by decide⟩) (fun H1 locs1 g1 g3 => ?_)
  refine lv_aload_n hx hb (show decode prog_14_method_2_code 6 = .ok (.aload_n 0, 1) by decide +kernel) rfl (lv_at hl 0 rfl) ?_
  refine lv_iload_n hx hb (show decode prog_14_method_2_code 7 = .ok (.iload_n 1, 1) by decide +kernel) rfl (lv_at hl 1 rfl) ?_
  refine va_tb hx hb hB g3 (vin_of ⟨h1, h2⟩) hx0 (show decode prog_14_method_2_code 8 = .ok (.baload, 1) by decide +kernel) ?_
  refine lv_sipush (v := 255) hx hb (show decode prog_14_method_2_code 9 = .ok (.sipush 255, 3) by decide +kernel) (by decide) ?_
  refine lv_iand hx hb (show decode prog_14_method_2_code 12 = .ok (.iand, 1) by decide +kernel) ?_
  refine lv_i2c hx hb (show decode prog_14_method_2_code 13 = .ok (.i2c, 1) by decide +kernel) hx1 ?_
  exact W.zret (v := x) hx hb hr hx2 (fun t ht hWm => ⟨rfl, by rw [ht]; exact g1, jSt.to hWm.alike hbs (fun a h1 h2 => (congrArg (fun X : Heap => X[a]?) ht).trans (g3.2.1 a h1 h2)) hS, fun q hq => (congrArg (fun X : Heap => X[q]?) ht).trans (g3.2.1 q (by omega) (Nat.not_le.mpr hq))⟩) g3.2.2 (show decode prog_14_method_2_code 14 = .ok (.ireturn, 1) by decide +kernel) hlocks
theorem Met.imp {l : Launch} {y : MethodName} {ws : List Cond} {rm : Room} {Pc Pc' : Array Value → State → Prop} {Qc : Array Value → State → Outcome → State → Prop} {mc ms : Nat} {free : Addr → Prop} (h : Met l y ws rm Pc Qc mc ms free) (hp : ∀ a U, Pc' a U → Pc a U) : Met l y ws rm Pc' Qc mc ms free := fun p e ha hc hk s m args below hf happ hP hK => h p e ha hc hk s m args below hf happ (hp _ _ hP) hK
set_option maxRecDepth 100000 in
theorem mok_Js_length : jMok 52 prog_13_method_54_code 1 (some .int) := ⟨List.mem_filter.mpr ⟨List.mem_append_right _ (show _ ∈ tables_1 from List.mem_append_right _ (List.mem_append_right _ (List.mem_append_left _ (List.mem_of_getElem? (i := 31) rfl)))), rfl⟩, jw_of (z := 125) (by decide +kernel), by decide, Or.inr (Or.inl ⟨by decide +kernel, jw_of (z := 623) (by decide +kernel), jw_of (z := 624) (by decide +kernel)⟩), by decide +kernel⟩
set_option maxRecDepth 100000 in
theorem mok_Js_charAt : jMok 53 prog_13_method_56_code 2 (some .char) := ⟨List.mem_filter.mpr ⟨List.mem_append_right _ (show _ ∈ tables_1 from List.mem_append_right _ (List.mem_append_right _ (List.mem_append_left _ (List.mem_of_getElem? (i := 41) rfl)))), rfl⟩, jw_of (z := 125) (by decide +kernel), by decide, Or.inr (Or.inl ⟨by decide +kernel, jw_of (z := 633) (by decide +kernel), jw_of (z := 634) (by decide +kernel)⟩), by decide +kernel⟩
theorem jwb_ok : ∀ j, j < jwb.length → (((jwb.getD j 0 &&& 255).toUInt32 % 65536).toInt32 = jwb.getD j 0 ∧ narrow .char (.int (jwb.getD j 0)) = .int (jwb.getD j 0)) := by decide +kernel
set_option maxRecDepth 20000 in
theorem s_length (l : Launch) (E : jEv) (h : jH) : Met l ys_length ws_length (jrm 6 0 0) (jPs E [.ref (E.1 3)] h (fun _ => True)) (jQc E (some (.int (Int32.ofNat jwb.length))) h) 0 0 (e_A E) := by
  refine va_MetF (cc := prog_13_method_54_code) (maxL := 1) (ret := (Option.some FieldType.int)) (by decide +kernel) rfl ?_
  intro p e s m args below meth c s₁ BB hml hv
  obtain ⟨rfl, hK, hW, hS, hB⟩ := hv
  have hx := BB.exec
  have hb := BB.bytes
  have hr := BB.returns
  have hts0 := atoms_spec (ws := ws_length) BB.pre
  have hts : ∀ w ∈ jgw, w.before (([.ref (E.1 3)] : List Value).toArray) s = true := fun w hw => hts0 w (List.mem_cons_of_mem _ hw)
  have hown : s.vm.findClass "java/lang/String" = some m.cls := findClass_of_methodNamed BB.named
  have hlocks := BB.notSynchronized
  have hbs : E.2.1 ≤ s.heap.size := by rw [hW.2.1]; omega
  have g3 : va_S (e_A E) s.heap s.heap [] := va_S.rf
  have hl := lv_entry ([.ref (E.1 3)] : List Value) (n := 1) (Nat.le_of_ble_eq_true rfl)
  rw [lg_entry_eq]
  generalize (lg_sl ([.ref (E.1 3)] : List Value) ++ List.replicate (1 - (lg_sl ([.ref (E.1 3)] : List Value)).length) Slot.unset).toArray = ls at hl ⊢
  have g1 := hW
  have hl : lv_has ls 1 [(0, .ref (E.1 3))] := hl
  obtain ⟨adV, hVS⟩ := hK.2.2.2.2.2.2.2.2.2.1
  obtain ⟨-, -, hva, hT⟩ := hVS.1 0 (by decide)
  refine lv_aload_n hx hb (show decode prog_13_method_54_code 0 = .ok (.aload_n 0, 1) by decide +kernel) rfl (lv_at hl 0 rfl) ?_
  refine vk_getf hx hb hva g3 hown (hts (.fieldLink "java/lang/String" 9 "java/lang/String" "value" "[B") (jw_of (z := 1819) (by decide +kernel))) (fun _ z => z) (show decode prog_13_method_54_code 1 = .ok (.getfield 9, 3) by decide +kernel) ?_
  refine va_tlen (v := Int32.ofNat jwb.length) hx hb hT g3 rfl (show decode prog_13_method_54_code 4 = .ok (.arraylength, 1) by decide +kernel) ?_
  refine lv_aload_n hx hb (show decode prog_13_method_54_code 5 = .ok (.aload_n 0, 1) by decide +kernel) rfl (lv_at hl 0 rfl) ?_
  refine jh_call (r := some (.int 0)) (rest := [.int (Int32.ofNat jwb.length)]) hW g3 (va_runV (C := "java/lang/String") (b := E.1 3) (As := []) ⟨hx, hb, hml, hown, hts⟩ (s_coder l E h) ⟨callB_of 0 hts (goodIn_g cs_coder) rfl rfl rfl (hts _ (jw_of (z := 125) (by decide +kernel))) (hts _ (jw_of (z := 626) (by decide +kernel))) (by decide +kernel) ⟨by decide, by decide⟩, hts _ (jw_of (z := 627) (by decide +kernel)), hts _ (jw_of (z := 628) (by decide +kernel))⟩ ⟨jPs_blind E _ h (fun _ _ _ _ z => z), vk_recv (i := 0) hVS (by decide) g3, jh_pre hbs hK hW hS g3 (fun _ _ _ => trivial)⟩ rfl rfl hl.1 rfl (lv_room (Nat.le_of_ble_eq_true rfl)) (show decode prog_13_method_54_code 6 = .ok (.invokevirtual 335, 3) by decide +kernel) ⟨by decide, by decide⟩) (fun H1 locs1 g1 g3 => ?_)
  refine lv_ishr hx hb (show decode prog_13_method_54_code 9 = .ok (.ishr, 1) by decide +kernel) ?_
  refine W.eq (g2 := F0 m 10 ls [.int (Int32.ofNat jwb.length)]) (by rw [show Int32.ofNat jwb.length >>> ((0 : Int32) &&& 31) = Int32.ofNat jwb.length by decide +kernel]) ?_
  exact W.iret (v := Int32.ofNat jwb.length) hx hb hr (fun t ht hWm => ⟨rfl, by rw [ht]; exact g1, jSt.to hWm.alike hbs (fun a h1 h2 => (congrArg (fun X : Heap => X[a]?) ht).trans (g3.2.1 a h1 h2)) hS, fun q hq => (congrArg (fun X : Heap => X[q]?) ht).trans (g3.2.1 q (by omega) (Nat.not_le.mpr hq))⟩) g3.2.2 (show decode prog_13_method_54_code 10 = .ok (.ireturn, 1) by decide +kernel) hlocks
set_option maxRecDepth 20000 in
theorem s_charAt (l : Launch) (E : jEv) (h : jH) (i : Int32) (h1 : ¬ i < 0) (h2 : i.toNatClampNeg < jwb.length) : Met l ys_charAt ws_charAt (jrm 6 0 0) (jPs E [.ref (E.1 3), .int i] h (fun _ => True)) (jQc E (some (.int (jwb.getD i.toNatClampNeg 0))) h) 0 0 (e_A E) := by
  refine va_MetF (cc := prog_13_method_56_code) (maxL := 2) (ret := (Option.some FieldType.char)) (by decide +kernel) rfl ?_
  intro p e s m args below meth c s₁ BB hml hv
  obtain ⟨rfl, hK, hW, hS, hB⟩ := hv
  have hx := BB.exec
  have hb := BB.bytes
  have hr := BB.returns
  have hts0 := atoms_spec (ws := ws_charAt) BB.pre
  have hts : ∀ w ∈ jgw, w.before (([.ref (E.1 3), .int i] : List Value).toArray) s = true := fun w hw => hts0 w (List.mem_cons_of_mem _ hw)
  have hown : s.vm.findClass "java/lang/String" = some m.cls := findClass_of_methodNamed BB.named
  have hlocks := BB.notSynchronized
  have hbs : E.2.1 ≤ s.heap.size := by rw [hW.2.1]; omega
  have g3 : va_S (e_A E) s.heap s.heap [] := va_S.rf
  have hl := lv_entry ([.ref (E.1 3), .int i] : List Value) (n := 2) (Nat.le_of_ble_eq_true rfl)
  rw [lg_entry_eq]
  generalize (lg_sl ([.ref (E.1 3), .int i] : List Value) ++ List.replicate (2 - (lg_sl ([.ref (E.1 3), .int i] : List Value)).length) Slot.unset).toArray = ls at hl ⊢
  have g1 := hW
  have hl : lv_has ls 2 [(0, .ref (E.1 3)), (1, .int i)] := hl
  obtain ⟨adV, hVS⟩ := hK.2.2.2.2.2.2.2.2.2.1
  obtain ⟨-, -, hva, hT⟩ := hVS.1 0 (by decide)
  obtain ⟨hx1, hx2⟩ := jwb_ok _ h2
  refine lv_aload_n hx hb (show decode prog_13_method_56_code 0 = .ok (.aload_n 0, 1) by decide +kernel) rfl (lv_at hl 0 rfl) ?_
  refine jh_call (r := some (.int 1)) (rest := []) hW g3 (va_runV (C := "java/lang/String") (b := E.1 3) (As := []) ⟨hx, hb, hml, hown, hts⟩ (s_isLatin1 l E h) ⟨callB_of 0 hts (goodIn_g cs_isLatin1) rfl rfl rfl (hts _ (jw_of (z := 125) (by decide +kernel))) (hts _ (jw_of (z := 636) (by decide +kernel))) (by decide +kernel) ⟨by decide, by decide⟩, hts _ (jw_of (z := 637) (by decide +kernel)), hts _ (jw_of (z := 638) (by decide +kernel))⟩ ⟨jPs_blind E _ h (fun _ _ _ _ z => z), vk_recv (i := 0) hVS (by decide) g3, jh_pre hbs hK hW hS g3 (fun _ _ _ => trivial)⟩ rfl rfl hl.1 rfl (lv_room (Nat.le_of_ble_eq_true rfl)) (show decode prog_13_method_56_code 1 = .ok (.invokevirtual 492, 3) by decide +kernel) ⟨by decide, by decide⟩) (fun H1 locs1 g1 g3 => ?_)
  refine lv_if_eq (tgt := 16) hx hb (show decode prog_13_method_56_code 4 = .ok (.ifCond .eq 12, 3) by decide +kernel) (by decide) (fun q => absurd q (by decide)) (fun _ => ?_)
  refine lv_aload_n hx hb (show decode prog_13_method_56_code 7 = .ok (.aload_n 0, 1) by decide +kernel) rfl (lv_at hl 0 rfl) ?_
  refine vk_getf hx hb hva g3 hown (hts (.fieldLink "java/lang/String" 9 "java/lang/String" "value" "[B") (jw_of (z := 1819) (by decide +kernel))) (fun _ z => z) (show decode prog_13_method_56_code 8 = .ok (.getfield 9, 3) by decide +kernel) ?_
  refine lv_iload_n hx hb (show decode prog_13_method_56_code 11 = .ok (.iload_n 1, 1) by decide +kernel) rfl (lv_at hl 1 rfl) ?_
  refine jh_call (r := some (.int (jwb.getD i.toNatClampNeg 0))) (rest := []) g1 g3 (va_runS (As := [.ref (adV 0), .int i]) ⟨hx, hb, hml, hown, hts⟩ (s_lch l E h (adV 0) _ _ i (jwb.getD i.toNatClampNeg 0) (by decide) h1 h2 rfl hx1 hx2) ⟨callB_of 2 hts (goodIn_g cs_lch) rfl rfl rfl (hts _ (jw_of (z := 126) (by decide +kernel))) (hts _ (jw_of (z := 640) (by decide +kernel))) (by decide +kernel) ⟨by decide, by decide⟩, hts _ (jw_of (z := 641) (by decide +kernel))⟩ ⟨jPs_blind E _ h (fun U g mk a z => va_T.moved (u := U) (U := U.calling g mk a) (Vm.Alike.refl U.vm) z), jh_pre hbs hK g1 hS g3 (fun U hU hWm => va_T.moved hWm.alike (hT.kept (fun a q1 q2 => by rw [hU]; exact g3.2.1 a q1 q2)))⟩ rfl rfl hl.1 rfl (lv_room (Nat.le_of_ble_eq_true rfl)) (show decode prog_13_method_56_code 12 = .ok (.invokestatic 495, 3) by decide +kernel) ⟨by decide, by decide⟩) (fun H2 locs2 g1 g3 => ?_)
  exact W.zret (v := jwb.getD i.toNatClampNeg 0) hx hb hr hx2 (fun t ht hWm => ⟨rfl, by rw [ht]; exact g1, jSt.to hWm.alike hbs (fun a h1 h2 => (congrArg (fun X : Heap => X[a]?) ht).trans (g3.2.1 a h1 h2)) hS, fun q hq => (congrArg (fun X : Heap => X[q]?) ht).trans (g3.2.1 q (by omega) (Nat.not_le.mpr hq))⟩) g3.2.2 (show decode prog_13_method_56_code 15 = .ok (.ireturn, 1) by decide +kernel) hlocks
theorem k_Js_length (F : Nat × Nat) (o : Nat) (ho : o = 3) (h : jH) (r : Option Value) (h1 : jH) (e : m_Js_length F o h = some (r, h1)) : jM1 (6 + 0 * F.2) 52 [.ref o] h r h1 := by
  subst ho
  cases e
  refine ⟨⟨Nat.le_refl _, Nat.le_refl _⟩, _, _, _, mok_Js_length, fun l E => ?_⟩
  rw [Nat.sub_self, Nat.sub_self, Nat.zero_mul, show jmn 52 = ys_length by decide +kernel]
  exact Met.imp (s_length l E h) (fun a U q => ⟨q.1, q.2.1, q.2.2.1, q.2.2.2, trivial⟩)
theorem k_Js_charAt (F : Nat × Nat) (o : Nat) (a : Int32) (ho : o = 3) (h : jH) (r : Option Value) (h1 : jH) (e : m_Js_charAt F o a h = some (r, h1)) : jM1 (6 + 0 * F.2) 53 [.ref o, .int a] h r h1 := by
  subst ho
  obtain ⟨⟨h2, h3⟩, e⟩ := js_if e
  cases e
  refine ⟨⟨Nat.le_refl _, Nat.le_refl _⟩, _, _, _, mok_Js_charAt, fun l E => ?_⟩
  rw [Nat.sub_self, Nat.sub_self, Nat.zero_mul, show jmn 53 = ys_charAt by decide +kernel]
  exact Met.imp (s_charAt l E h a h2 h3) (fun a U q => ⟨q.1, q.2.1, q.2.2.1, q.2.2.2, trivial⟩)

def c_Js_length (F : Nat × Nat) : jc1 := fun args h k => match args with
  | [w0] => j_rv w0 fun a0 => if a0 = 3 then (jbI (m_Js_length F a0 h) fun r h => k (some (.int r)) h) else none
  | _ => none
theorem co_Js_length (F : Nat × Nat) : jc_ok (6 + 0 * F.2 + 1) 52 (c_Js_length F) := by
  intro as h k out e
  unfold c_Js_length at e
  split at e
  · obtain ⟨a0, rfl, e1⟩ := js_rv e
    obtain ⟨hg, e2⟩ := js_if e1
    obtain ⟨r, h1, hm, e3⟩ := js_jbI e2
    exact ⟨_, _, _, Nat.le_refl _, k_Js_length F _ hg _ _ _ hm, ⟨fun _ => ⟨_, _, rfl, Or.inr ⟨hg, by decide +kernel⟩⟩, fun q => absurd q (by decide +kernel)⟩, e3⟩
  · cases e
def c_Js_charAt (F : Nat × Nat) : jc1 := fun args h k => match args with
  | [w0, .int a1] => j_rv w0 fun a0 => if a0 = 3 then (jbI (m_Js_charAt F a0 a1 h) fun r h => k (some (.int r)) h) else none
  | _ => none
theorem co_Js_charAt (F : Nat × Nat) : jc_ok (6 + 0 * F.2 + 1) 53 (c_Js_charAt F) := by
  intro as h k out e
  unfold c_Js_charAt at e
  split at e
  · obtain ⟨a0, rfl, e1⟩ := js_rv e
    obtain ⟨hg, e2⟩ := js_if e1
    obtain ⟨r, h1, hm, e3⟩ := js_jbI e2
    exact ⟨_, _, _, Nat.le_refl _, k_Js_charAt F _ _ hg _ _ _ hm, ⟨fun _ => ⟨_, _, rfl, Or.inr ⟨hg, by decide +kernel⟩⟩, fun q => absurd q (by decide +kernel)⟩, e3⟩
  · cases e
