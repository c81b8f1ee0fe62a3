/-! SWITCHES, CLONES, RETURNS -/
section JR
variable {p : Program} {l : Launch} {e0 : Env} {R : Room} {s : State} {m : MethodId} {args : Array Value} {below : List Frame} {meth : Method} {c : Code} {Q : State → Prop} {E : jEv} {cc : ByteArray} {own : String} {nL n0 z0 : Nat} {out : jO}
variable {k : jK} {pc nx : Nat} {L : jL} {S : List Value} {h : jH}
/-- where a switch goes -/
def j_swt (a : Int32) (d : Nat) : List (Int32 × Nat) → Nat
  | [] => d
  | (v, t) :: r => if a = v then t else j_swt a d r
theorem j_sw_eq (a : Int32) (d : Nat) (kk : Nat → Option jO) (sw : List (Int32 × Nat)) : j_sw a d kk sw = kk (j_swt a d sw) := by
  induction sw with
  | nil => rfl
  | cons q r ih =>
    obtain ⟨v, t⟩ := q
    unfold j_sw j_swt
    by_cases hv : a = v
    · rw [if_pos hv, if_pos hv]
    · rw [if_neg hv, if_neg hv]
      exact ih
theorem js_sw (hk : jHk p l e0 R s m args below meth c Q E nL n0 z0 out k) {x : Nat} {sw : List (Int32 × Nat)} (row : ∀ (a : Int32) (rest : List Value) (H : Heap) (locs : List Loc) (cells slots : Nat) (ls : Array Slot), W p l e0 R s m args below meth c H locs cells slots Q (F0 m (j_swt a x sw) ls rest) → W p l e0 R s m args below meth c H locs cells slots Q (F0 m pc ls (.int a :: rest)))
    (e : (j_i1 S fun a S => j_sw a x (fun q => k q L S h) sw) = some out) : jG1 p l e0 R s m args below meth c Q E nL n0 z0 out pc L S h := by
  obtain ⟨a, S', rfl, e1⟩ := js_i1' e
  rw [j_sw_eq] at e1
  obtain ⟨mo, w⟩ := hk _ _ _ _ e1
  exact ⟨mo, fun a1 b1 H locs ls g1 g2 g3 g4 => row _ _ _ _ _ _ _ (w a1 b1 H locs ls g1 g2 g3 g4)⟩
/-- the pairs of a tableswitch: value and target -/
def j_tsw (pc : Nat) (lo : Int) : List Int → List (Int32 × Nat)
  | [] => []
  | o :: r => (Int32.ofInt lo, ((pc : Int) + o).toNat) :: j_tsw pc (lo + 1) r
theorem j_tsw_in {a : Int32} {x pc : Nat} : ∀ (offs : List Int) (lo : Int), -2 ^ 31 ≤ lo → lo + offs.length ≤ 2 ^ 31 → (∀ o ∈ offs, 0 ≤ (pc : Int) + o) → (a.toInt < lo ∨ lo + offs.length ≤ a.toInt → j_swt a x (j_tsw pc lo offs) = x) ∧ ∀ (j : Nat) (o : Int), offs[j]? = some o → a.toInt = lo + j → (pc : Int) + o = (j_swt a x (j_tsw pc lo offs) : Int)
  | [], lo, _, _, _ => ⟨fun _ => rfl, fun j o h => by simp at h⟩
  | o :: r, lo, h1, h2, h3 => by
    have hl : (o :: r).length = r.length + 1 := rfl
    rw [hl] at h2 ⊢
    obtain ⟨i1, i2⟩ := j_tsw_in (a := a) (x := x) (pc := pc) r (lo + 1) (by omega) (by omega) (fun q hq => h3 q (List.mem_cons_of_mem _ hq))
    have hto : (Int32.ofInt lo).toInt = lo := Int32.toInt_ofInt_of_le (by omega) (by omega)
    refine ⟨fun hh => ?_, fun j q hj ha => ?_⟩
    · show (if a = Int32.ofInt lo then _ else _) = x
      rw [if_neg (fun q => by rw [q, hto] at hh; omega)]
      exact i1 (by omega)
    · show _ = ((if a = Int32.ofInt lo then ((pc : Int) + o).toNat else j_swt a x (j_tsw pc (lo + 1) r) : Nat) : Int)
      cases j with
      | zero =>
        rw [List.getElem?_cons_zero] at hj
        cases hj
        rw [if_pos (Int32.toInt_inj.mp (by rw [hto, ha]; simp))]
        have := h3 o List.mem_cons_self
        omega
      | succ j =>
        rw [List.getElem?_cons_succ] at hj
        rw [if_neg (fun q => by rw [q, hto] at ha; omega)]
        exact i2 j q hj (by rw [ha]; omega)
theorem js_tsw (hx : p.tables.exec = Jvm.exec) (hb : c.code = cc) {d lo hi : Int} {offs : Array Int} {len x : Nat} (h1 : -2 ^ 31 ≤ lo) (h2 : lo + offs.toList.length ≤ 2 ^ 31) (h3 : ∀ o ∈ offs.toList, 0 ≤ (pc : Int) + o) (hhi : hi + 1 = lo + offs.toList.length) (hd : (pc : Int) + d = (x : Int)) (hdg : decode cc pc = .ok (.tableswitch d lo hi offs, len)) :
    ∀ (a : Int32) (rest : List Value) (H : Heap) (locs : List Loc) (cells slots : Nat) (ls : Array Slot), W p l e0 R s m args below meth c H locs cells slots Q (F0 m (j_swt a x (j_tsw pc lo offs.toList)) ls rest) → W p l e0 R s m args below meth c H locs cells slots Q (F0 m pc ls (.int a :: rest)) := by
  intro a rest H locs cells slots ls w
  obtain ⟨i1, i2⟩ := j_tsw_in (a := a) (x := x) (pc := pc) offs.toList lo h1 h2 h3
  by_cases hlo : a.toInt < lo
  · rw [i1 (Or.inl hlo)] at w
    exact lv_tableOut hx hb hdg (Or.inl hlo) hd w
  · by_cases hh : hi < a.toInt
    · rw [i1 (Or.inr (by omega))] at w
      exact lv_tableOut hx hb hdg (Or.inr hh) hd w
    · obtain ⟨o, ho⟩ : ∃ o, offs.toList[(a.toInt - lo).toNat]? = some o := by
        cases hq : offs.toList[(a.toInt - lo).toNat]? with
        | some o => exact ⟨o, rfl⟩
        | none =>
          have := List.getElem?_eq_none_iff.mp hq
          omega
      exact lv_tableIn hx hb hdg hlo hh (by rw [← Array.getElem?_toList]; exact ho) (i2 _ o ho (by omega)) w
/-- the pairs of a lookupswitch -/
def j_lsw (pc : Nat) : List (Int × Int) → List (Int32 × Nat)
  | [] => []
  | (v, o) :: r => (Int32.ofInt v, ((pc : Int) + o).toNat) :: j_lsw pc r
theorem j_lsw_in {a : Int32} {x pc : Nat} {d : Int} (hd : (pc : Int) + d = (x : Int)) : ∀ (ps : List (Int × Int)), (∀ q ∈ ps, -2 ^ 31 ≤ q.1 ∧ q.1 < 2 ^ 31 ∧ 0 ≤ (pc : Int) + q.2) → (pc : Int) + Op.lookupswitch.offset ps d a.toInt = (j_swt a x (j_lsw pc ps) : Int)
  | [], _ => hd
  | (v, o) :: r, hp => by
    obtain ⟨h1, h2, h3⟩ := hp (v, o) List.mem_cons_self
    have hto : (Int32.ofInt v).toInt = v := Int32.toInt_ofInt_of_le (by omega) (by omega)
    show _ = ((if a = Int32.ofInt v then ((pc : Int) + o).toNat else j_swt a x (j_lsw pc r) : Nat) : Int)
    rw [Op.lookupswitch.offset_cons]
    by_cases hv : a = Int32.ofInt v
    · have hv' : a.toInt = v := by rw [hv, hto]
      rw [if_pos hv, hv', if_pos rfl]
      simp only at h3
      omega
    · rw [if_neg hv, if_neg (fun q => hv (Int32.toInt_inj.mp (by rw [hto]; exact q.symm)))]
      exact j_lsw_in hd r (fun q hq => hp q (List.mem_cons_of_mem _ hq))
theorem js_lsw (hx : p.tables.exec = Jvm.exec) (hb : c.code = cc) {d : Int} {ps : Array (Int × Int)} {len x : Nat} (h1 : ∀ q ∈ ps.toList, -2 ^ 31 ≤ q.1 ∧ q.1 < 2 ^ 31 ∧ 0 ≤ (pc : Int) + q.2) (hp : (ps.toList.zip (ps.toList.drop 1)).all (fun (a, next) => a.1 < next.1) = true) (hd : (pc : Int) + d = (x : Int)) (hdg : decode cc pc = .ok (.lookupswitch d ps, len)) :
    ∀ (a : Int32) (rest : List Value) (H : Heap) (locs : List Loc) (cells slots : Nat) (ls : Array Slot), W p l e0 R s m args below meth c H locs cells slots Q (F0 m (j_swt a x (j_lsw pc ps.toList)) ls rest) → W p l e0 R s m args below meth c H locs cells slots Q (F0 m pc ls (.int a :: rest)) := by
  intro a rest H locs cells slots ls w
  exact lv_lookup hx hb hdg hp rfl (j_lsw_in hd ps.toList h1) w
/-- the end of a method: what it must have on its stack -/
def jrok (rt : Nat) (i : Instr) (r : Option Value) : Prop := (i = .ireturn ∧ ((rt = 0 ∧ ∃ y, r = some (.int y)) ∨ (rt = 1 ∧ (r = some (.int 0) ∨ r = some (.int 1))))) ∨ (i = .lreturn ∧ rt = 2 ∧ ∃ y, r = some (.long y)) ∨ (i = .areturn ∧ rt = 3 ∧ (r = some .null ∨ ∃ a, r = some (.ref a))) ∨ (i = .return_ ∧ rt = 4 ∧ r = none)
def jRt (p : Program) (l : Launch) (e0 : Env) (R : Room) (s : State) (m : MethodId) (args : Array Value) (below : List Frame) (meth : Method) (c : Code) (Q : State → Prop) (E : jEv) (n0 z0 : Nat) (out : jO) (cc : ByteArray) (rt : Nat) : Prop :=
  ∀ (pc : Nat) (i : Instr) (H : Heap) (locs : List Loc) (ls : Array Slot), decode cc pc = .ok (i, 1) → jrok rt i out.1 → jWd E out.2 H → jSt E out.2 s → va_S (e_A E) s.heap H locs → W p l e0 R s m args below meth c H locs (j_c out.2 - n0) (j_z out.2 - z0) Q (F0 m pc ls (out.1.toList.map (cv E)))
theorem js_ret {rt : Nat} (hR : jRt p l e0 R s m args below meth c Q E n0 z0 out cc rt) {i : Instr} {r : Option Value} (hdg : decode cc pc = .ok (i, 1)) (hr : jrok rt i r) (hS : S = r.toList) (ho : out = (r, h)) : jG1 p l e0 R s m args below meth c Q E nL n0 z0 out pc L S h := by
  subst ho
  subst hS
  exact ⟨⟨Nat.le_refl _, Nat.le_refl _⟩, fun a1 b1 H locs ls g1 g2 g3 g4 => hR pc i H locs ls hdg hr g1 g2 g3⟩
theorem js_clone (hk : jHk p l e0 R s m args below meth c Q E nL n0 z0 out k) (hx : p.tables.exec = Jvm.exec) (hb : c.code = cc) (hml : c.maxLocals = nL) (hown : s.vm.findClass own = some m.cls) (hts : ∀ w ∈ jgw, w.before args s = true) (hK : jKn E s) (hRf : 1 ≤ R.frames) (hRl : 100 ≤ R.locals) (hRc : j_c out.2 - n0 ≤ R.cells) (hRs : j_z out.2 - z0 ≤ R.slots) {idx : Nat}
    (hl : Cond.methodLink own idx ⟨"[I", "clone", "()Ljava/lang/Object;"⟩ ∈ jgw) (hw : Cond.sameMethod "[I" "java/lang/Object" "clone" "()Ljava/lang/Object;" ∈ jgw ∧ Cond.native ⟨"java/lang/Object", "clone", "()Ljava/lang/Object;"⟩ ∈ jgw ∧ Cond.instanceMethod ⟨"java/lang/Object", "clone", "()Ljava/lang/Object;"⟩ ∈ jgw ∧ Cond.selects "[I" ⟨"[I", "clone", "()Ljava/lang/Object;"⟩ ⟨"java/lang/Object", "clone", "()Ljava/lang/Object;"⟩ ∈ jgw) (hdg : decode cc pc = .ok (.invokevirtual idx, 3))
    (e : (j_r1 S fun a S => if j_k h a = 0 then cond (Nat.ble (j_cat S) 8) (k (pc + 3) L (.ref (j_c h) :: S) (j_cl h a)) none else none) = some out) : jG1 p l e0 R s m args below meth c Q E nL n0 z0 out pc L S h := by
  obtain ⟨a, S', rfl, e⟩ := js_r1 e
  obtain ⟨hka, e⟩ := js_if e
  obtain ⟨hcat, e⟩ := js_cond e
  obtain ⟨mo, w⟩ := hk _ _ _ _ e
  have hcc : j_c (j_cl h a) = j_c h + 1 := rfl
  have hzz : j_z (j_cl h a) = j_z h + j_n h a := rfl
  rw [hcc, hzz] at mo
  refine ⟨by omega, fun a1 b1 H locs ls g1 g2 g3 g4 => ?_⟩
  have hroom : j_c h - n0 + 1 ≤ R.cells ∧ j_z h - z0 + j_n h a ≤ R.slots := by omega
  have hcat8 := cat_le (E := E) hcat
  obtain ⟨ha, -, hc0⟩ := g1.arr hka (by omega)
  have hc0 : H[e_ad E a]? = some (arrV (E.2.2.1 0) (j_n h a) (fun j => .int (j_I h a j))) := hc0
  have hAr := (hK.2.1 0 (by omega)).1
  have hnm : s.vm.findClass "[I" = some (E.2.2.1 0) := (hK.2.1 0 (by omega)).2
  obtain ⟨cc0, t0', f1, f2, f3⟩ := Cond.castable_spec (va_Nw.use (A := args) rfl hK.2.2.2.2.2.1)
  cases hnm.symm.trans f1
  intro T hT X
  obtain ⟨-, kA, hkA, comp, hkind⟩ := State.isArrayOf_alike X.warmed.alike (hAr 0 (fun _ => .null))
  obtain ⟨-, kS, hkS, compS, hkindS⟩ := hAr 0 (fun _ => .null)
  obtain ⟨vm', X', st⟩ := X.cloneArray hx hown (hts _ hl) (hts _ hw.1) (hts _ hw.2.1) (hts _ hw.2.2.1) (hts _ hw.2.2.2) (a := e_ad E a) (cell := arrV (E.2.2.1 0) (j_n h a) (fun j => .int (j_I h a j))) (by rw [hT]; exact hc0) (fun k h => by cases h) (fun h => by cases h) hnm f2 f3
    (fun i v hv => by
      have hk' : T.vm.classes[E.2.2.1 0]? = some kA := hkA
      have hi : i < j_n h a := by
        have := (Array.getElem?_eq_some_iff.mp hv).1
        rwa [arrV_size] at this
      rw [arrV_read _ _ hi] at hv
      cases hv
      show State.fitsSlot T (E.2.2.1 0) .none i _ = true
      simp [State.fitsSlot, State.slotType?, hk', hkind, fits, j_ety])
    (g := F0 m pc ls (.ref (e_ad E a) :: S'.map (cv E))) rfl (by rw [hml]; exact g4.2.1) rfl (by rw [hb]; exact hdg) hRf (by show 2 * 0 + _ + 14 ≤ _; omega) hroom.1 (by rw [arrV_size]; exact hroom.2) (hloader := Vm.clonesLoader_of_array hkS hkindS)
  rw [arrV_size] at X'
  generalize hH1 : H.push (arrV (E.2.2.1 0) (j_n h a) (fun j => Value.int (j_I h a j))) = H1
  have z1 : H1.size = H.size + 1 := by rw [← hH1, Array.size_push]
  have e1 : H1[H.size]? = some (arrV (E.2.2.1 0) (j_n h a) (fun j => Value.int (j_I h a j))) := by rw [← hH1, Array.getElem?_push_size]
  have o1 : ∀ q : Nat, q < H.size → H1[q]? = H[q]? := fun q hq => by rw [← hH1, Array.getElem?_push, if_neg (Nat.ne_of_lt hq)]
  have hk0 : j_k (j_cl h a) (j_c h) = 0 := by show (va_up h.1 (j_c h) (0, j_n h a) (j_c h)).1 = 0; rw [va_up_s]
  have hW : jWd E (j_cl h a) H1 := by
    refine g1.make rfl (fun b hb => jo_cl h a b hb) z1 o1 (Or.inl ?_)
    rw [hk0]
    refine ⟨by omega, ?_⟩
    rw [e_ad_c g1, e1]
    have hn0 : j_n (j_cl h a) (j_c h) = j_n h a := by show (va_up h.1 (j_c h) (0, j_n h a) (j_c h)).2 = _; rw [va_up_s]
    have hI0 : j_I (j_cl h a) (j_c h) = j_I h a := by funext q; show va_up h.2.1 (j_c h) (h.2.1 a) (j_c h) q = _; rw [va_up_s]; rfl
    unfold jAr
    rw [hn0, hI0]
    rfl
  have w' := w (by rw [hcc]; omega) (by rw [hzz]; omega) H1 locs ls hW (g2.make g1 (by rw [hk0]; omega) (fun b hb => ⟨(jo_cl h a b hb).1, (jo_cl h a b hb).2.1⟩)) (g3.mk z1 o1) g4
  rw [List.map_cons, cv_r, e_ad_c g1, hcc, hzz, show j_c h + 1 - n0 = j_c h - n0 + 1 by omega, show j_z h + j_n h a - z0 = j_z h - z0 + j_n h a by omega] at w'
  obtain ⟨t, b1', b2⟩ := w' ((T.setVm vm').pushCell (arrV (E.2.2.1 0) (j_n h a) (fun j => Value.int (j_I h a j)))) (by rw [← hH1, ← hT]; rfl) X'
  refine ⟨t, st t ?_, b2⟩
  rw [hT]
  exact b1'
end JR
