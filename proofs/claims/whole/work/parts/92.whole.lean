def lw_P (b : Addr) (xs : List Int32) (args : Array Value) (s : State) : Prop := args = #[.ref b] ∧ s.IntsAt b xs ∧ xs.length ≤ 3072 ∧ (Jvm.Cond.and given_1 narrow_1).before args s = true
def lw_Q (_ : Array Value) (s : State) (o : Outcome) (t : State) : Prop := o = .returned (some (.int 1)) ∧ Framed s o t [] 600000 7302250
def lw_Z (below : List Frame) (a : Array Value) (s : State) : State → Prop := fun t => ∃ o, t.status = .running ∧ Ended t below o ∧ lw_Q a s o t
/-- the law's own end, with 1 on the stack, nothing written that was there before, its room as the claim has it -/
theorem lw_ret {p : Program} {l : Launch} {e : Env} {s : State} {m : MethodId} {below : List Frame} {meth : Method} {c : Code} {b : Nat} (hx : p.tables.exec = Jvm.exec) (hb : c.code = code) (hr : meth.sig.returnType = ret) (hlocks : meth.locks = false) {pc : Nat} {H : Heap} {ls : Array Slot} (hdg : decode code pc = .ok (.ireturn, 1)) : W p l e room_1 s m #[Value.ref b] below meth c H [] 600000 7302250 (lw_Z below #[Value.ref b] s) (F0 m pc ls [.int 1]) := by
  intro T hT X
  obtain ⟨fs, hret, hrun, hended, hW, hframe⟩ := X.leave (v := some (.int 1)) (hlocks := hlocks) (fun h => by rw [hr] at h; cases h)
  have hmeth' : T.vm.method? m = some meth := X.method'
  refine ⟨T.setFrames fs, ?_, .returned (some (.int 1)), hrun, hended, rfl, ⟨_, rfl⟩, hW, hframe⟩
  jvm_step X.here [X.here.top, hx, hb, hdg, hmeth', hr, ret, narrow_b1]
  (try refine ⟨rfl, ?_⟩); (try refine ⟨rfl, ?_⟩)
  first | (intro acts; rw [hret _ acts rfl rfl rfl]) | rw [hret _ _ rfl rfl rfl]
  exact Steps.refl _
/-- what holds at the law's entry: the machine, the code, the tables' words (any of lw_tbl by 'hts w (by decide +kernel)'), the script of L ints xs at the cell b, what the Statement gives of the start (any of its parts by flat_of_before) -/
def lw_At (p : Program) (s : State) (m : MethodId) (meth : Method) (c : Code) (b L : Nat) (xs : Nat → Int32) : Prop :=
  p.tables.exec = Jvm.exec ∧ c.code = code ∧ meth.sig.returnType = ret ∧ c.maxLocals = 4 ∧ s.vm.findClass R_law = some m.cls ∧ (∀ w ∈ lw_tbl, w.before #[Value.ref b] s = true) ∧ va_X b L xs s s.heap ∧ b < s.heap.size ∧ meth.locks = false ∧ (Jvm.Cond.and given_1 narrow_1).before #[Value.ref b] s = true
set_option maxHeartbeats 4000000 in
/-- the law's walk, out of its plain function -/
theorem whole_start_of {F : Nat × Nat} (hF : 100 * (13 + 2 * F.2 + 1) ≤ 84000 ∧ 13 + 2 * F.2 + 1 ≤ 2048) (hp : ∀ (L : Nat) (xs : Nat → Int32), L ≤ 3072 → ∃ h1 : jH, m_Q_law F 2 (jh0 L xs) = some (some (.int 1), h1) ∧ j_c h1 - 4 ≤ 600000 ∧ j_z h1 ≤ 7302250)
    {p : Program} {e : Env} {s : State} {m : MethodId} {below : List Frame} {meth : Method} {c : Code} (l : Launch) {b L : Nat} {xs : Nat → Int32} (hL : L ≤ 3072) (C0 : lw_At p s m meth c b L xs) : W p l e room_1 s m #[Value.ref b] below meth c s.heap [] 0 0 (lw_Z below #[Value.ref b] s) (entryFrame m ([Value.ref b] : List Value).toArray 4) := by
  obtain ⟨hx, hb, hr, hml, hown, hts, hX, hbl, hlocks, hgv⟩ := C0
  obtain ⟨E, hE1, hE2, hK, hW, hS⟩ := js_start hts hX hbl hgv
  obtain ⟨h1, he, hc1, hz1⟩ := hp L xs hL
  obtain ⟨mo, hw⟩ := gg_Q_law F _ _ _ _ ((e_Q_law F 2 (jh0 L xs)).symm.trans he)
  have hbs : E.2.1 ≤ s.heap.size := by rw [hE1]; exact Nat.le_refl _
  have hrt : jRt p l e room_1 s m #[Value.ref b] below meth c (lw_Z below #[Value.ref b] s) E 4 0 (some (.int 1), h1) code 1 := by
    intro pc i H locs ls hdg hro w1 w2 w3
    have hi : i = .ireturn := by
      rcases hro with ⟨h, -⟩ | ⟨-, h, -⟩ | ⟨-, h, -⟩ | ⟨-, h, -⟩
      · exact h
      · cases h
      · cases h
      · cases h
    subst hi
    refine va_forget (fun q hq => by have := w3.2.2 q hq; rw [← hE1]; exact this) ?_
    refine W.widen (k := 600000) (n := 7302250) hc1 hz1 ?_
    exact lw_ret hx hb hr hlocks hdg
  have hl := lv_entry ([.ref b] : List Value) (n := 4) (Nat.le_of_ble_eq_true rfl)
  rw [lg_entry_eq]
  generalize (lg_sl ([.ref b] : List Value) ++ List.replicate (4 - (lg_sl ([.ref b] : List Value)).length) Slot.unset).toArray = ls at hl ⊢
  have hl2 : lv_has ls 4 (lv_args 0 (([.ref 2] : List Value).map (cv E))) := by
    have hcv : cv E (.ref 2) = .ref b := by rw [← hE2]; rfl
    show lv_has ls 4 (lv_args 0 [cv E (.ref 2)])
    rw [hcv]
    exact hl
  exact hw p l e room_1 s m #[Value.ref b] below meth c (lw_Z below #[Value.ref b] s) E 4 0 ⟨hx, hb, hml, hown, fun w hw => hts w (jgw_in hw), hK, hbs, hF.2, hF.1, hc1, hz1, hrt, fun q => nomatch q⟩ (Nat.le_refl 4) (Nat.le_refl 0) s.heap [] ls hW hS va_S.rf (jLr.entry (as := [.ref 2]) (List.all_eq_true.mp rfl) (Nat.le_of_ble_eq_true rfl) hl2)
