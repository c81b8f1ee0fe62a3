/-! OBJECTS: fields, new cells -/
theorem jfv_c (E : jEv) (h : jH) (ci a k : Nat) : (jft ci k = 0 → jfv E h ci a k = .int (j_I h a k)) ∧ (jft ci k = 3 → jfv E h ci a k = .int (j_I h a k)) ∧ (jft ci k = 1 → jfv E h ci a k = .long (j_J h a k)) ∧ (jft ci k = 2 → jfv E h ci a k = va_rf ((j_R h a k).map (e_ad E))) := by
  refine ⟨fun e => ?_, fun e => ?_, fun e => ?_, fun e => ?_⟩ <;> (unfold jfv; rw [e]; rfl)
theorem fits_ref {ty : FieldType} (h : fits ty (.ref 0) = true) (a : Nat) : fits ty (.ref a) = true := by
  cases ty <;> simp_all [fits]
theorem nar_ref {ty : FieldType} (h : fits ty .null = true) (v : Value) (hv : v = .null ∨ ∃ a, v = .ref a) : narrow ty v = v := by
  rcases hv with rfl | ⟨a, rfl⟩ <;> cases ty <;> simp_all [fits, narrow]
theorem jap {s : State} {args : Array Value} {ci : Nat} {dc : ClassId} {dI : Nat → Nat} (hci : ci < 8) (hts : ∀ w ∈ jgw, w.before args s = true) (hK : u_Kn s (jRf ci) (jTf ci) (jNf ci) dc dI) : ∀ x y, x < jNf ci → y < jNf ci → x ≠ y → dI x ≠ dI y := by
  intro x y hx hy hne
  obtain ⟨hS, -⟩ := hK
  obtain ⟨_, _, _, fa, hia, ea⟩ := hS x hx
  obtain ⟨_, _, _, fb, hib, eb⟩ := hS y hy
  rw [← ea, ← eb]
  refine u_apart (u_lays hts (jf_inw hci) hx) (u_lays hts (jf_inw hci) hy) hia hib ?_
  rw [(State.fieldFound?_type hia (jf_ty ci hci x hx)).1, (State.fieldFound?_type hib (jf_ty ci hci y hy)).1]
  exact jf_nm ci hci x hx y hy hne
/-- a field is written -/
theorem jWd.fld {E : jEv} {h h' : jH} {H H' : Heap} {a q x : Nat} {v : Value} {cell : Cell} (w : jWd E h H) (hk : j_k h a = q) (hq : 10 ≤ q ∧ q < 18) (hx : x < jNf (q - 10)) (hcell : H[e_ad E a]? = some cell) (h2 : cell.cls = E.2.2.2.1 (q - 10)) (h3 : cell.vm = .none) (h4 : ∀ k, k < jNf (q - 10) → cell.slots[E.2.2.2.2 (q - 10) k]? = some (jfv E h (q - 10) a k))
    (hap : ∀ x y, x < jNf (q - 10) → y < jNf (q - 10) → x ≠ y → E.2.2.2.2 (q - 10) x ≠ E.2.2.2.2 (q - 10) y) (e1 : H'[e_ad E a]? = some (cell.setSlot (E.2.2.2.2 (q - 10) x) v)) (z : H'.size = H.size) (oq : ∀ q, q ≠ e_ad E a → H'[q]? = H[q]?)
    (e0 : h'.1 = h.1) (e4 : j_c h' = j_c h) (eo : ∀ b, b ≠ a → h'.2.1 b = h.2.1 b ∧ h'.2.2.1 b = h.2.2.1 b ∧ h'.2.2.2.1 b = h.2.2.2.1 b) (hv : jfv E h' (q - 10) a x = v) (hn : ∀ k, k ≠ x → jfv E h' (q - 10) a k = jfv E h (q - 10) a k) : jWd E h' H' := by
  obtain ⟨ha, -, -⟩ := w.obj hk hq
  have hk' : j_k h' a = q := by unfold j_k; rw [e0]; exact hk
  refine w.put ha e0 e4 eo z oq (Or.inr ⟨by omega, by omega, ?_⟩)
  rw [hk']
  refine t_OB.to (V := updV (jfv E h (q - 10) a) x v) ⟨_, e1, h2, h3, t_set h4 hap hx v⟩ (fun j _ => ?_)
  by_cases hj : j = x
  · subst hj
    simp [updV, hv]
  · simp [updV, hj, hn j hj]
section JO
variable {p : Program} {l : Launch} {e0 : Env} {R : Room} {s : State} {m : MethodId} {args : Array Value} {below : List Frame} {meth : Method} {c : Code} {Q : State → Prop} {E : jEv} {cc : ByteArray} {own : String} {nL n0 z0 : Nat} {out : jO}
variable {k : jK} {pc nx : Nat} {L : jL} {S : List Value} {h : jH}
theorem js_getf (hk : jHk p l e0 R s m args below meth c Q E nL n0 z0 out k) (hx : p.tables.exec = Jvm.exec) (hb : c.code = cc) (hown : s.vm.findClass own = some m.cls) (hts : ∀ w ∈ jgw, w.before args s = true) (hK : jKn E s) {idx x u t : Nat} (hu : 10 ≤ u ∧ u < 18) (hxn : x < jNf (u - 10)) (ht : jft (u - 10) x = t) (hl : Cond.fieldLink own idx (jTf (u - 10) x).1 (jTf (u - 10) x).2.1 (jTf (u - 10) x).2.2.1 ∈ jgw) (hdg : decode cc pc = .ok (.getfield idx, 3))
    (e : (j_r1 S fun a S => if j_k h a = u then (match t with
      | 0 => k (pc + 3) L (.int (j_I h a x) :: S) h
      | 3 => k (pc + 3) L (.int (j_I h a x) :: S) h
      | 1 => k (pc + 3) L (.long (j_J h a x) :: S) h
      | _ => k (pc + 3) L (va_rf (j_R h a x) :: S) h) else none) = some out) : jG1 p l e0 R s m args below meth c Q E nL n0 z0 out pc L S h := by
  obtain ⟨a, S', rfl, e⟩ := js_r1 e
  obtain ⟨hka, e⟩ := js_if e
  have hci : u - 10 < 8 := by omega
  obtain ⟨j1, j2, j3, j4⟩ := jfv_c E h (u - 10) a x
  have core : ∀ v : Value, cv E v = jfv E h (u - 10) a x → k (pc + 3) L (v :: S') h = some out → jG1 p l e0 R s m args below meth c Q E nL n0 z0 out pc L (.ref a :: S') h := by
    intro v hv e
    obtain ⟨mo, w⟩ := hk _ _ _ _ e
    refine ⟨mo, fun a1 b1 H locs ls g1 g2 g3 g4 => ?_⟩
    have w' := w a1 b1 H locs ls g1 g2 g3 g4
    rw [List.map_cons, hv] at w'
    obtain ⟨ha, -, cell, q1, q2, q3, q4⟩ := g1.obj hka hu
    obtain ⟨hS, hfc, kC, hkC, hkind⟩ := hK.1 (u - 10) hci
    obtain ⟨cf, kf, fi, f, hi, hsl⟩ := hS x hxn
    refine W.getf hx hb hown (hts _ hl) hi (u_facts hfc hkC (u_lays hts (jf_inw hci) hxn) hi).1 q1 (by rw [q3]; exact fun h => by cases h) (v := jfv E h (u - 10) a x) ?_ rfl rfl hdg w'
    rw [hsl, q4 x hxn]
  rcases jf_tc (u - 10) hci x hxn with ⟨h0, -⟩ | ⟨h0, -⟩ | ⟨h0, -⟩ | ⟨h0, -⟩ <;> (rw [ht] at h0; subst h0)
  · exact core _ (by rw [j1 ht]; rfl) e
  · exact core _ (by rw [j2 ht]; rfl) e
  · exact core _ (by rw [j3 ht]; rfl) e
  · exact core _ (by rw [j4 ht]; exact cv_rf E _) e
/-- putfield, whatever is put -/
theorem js_putW (hx : p.tables.exec = Jvm.exec) (hb : c.code = cc) (hown : s.vm.findClass own = some m.cls) (hts : ∀ w ∈ jgw, w.before args s = true) (hK : jKn E s) {idx x u : Nat} (hu : 10 ≤ u ∧ u < 18) (hxn : x < jNf (u - 10)) (hl : Cond.fieldLink own idx (jTf (u - 10) x).1 (jTf (u - 10) x).2.1 (jTf (u - 10) x).2.2.1 ∈ jgw) (hfin : (jTf (u - 10) x).2.2.2 = false ∨ ((jTf (u - 10) x).2.2.2 = true ∧ meth.name = "<init>" ∧ (jTf (u - 10) x).1 = own)) (hdg : decode cc pc = .ok (.putfield idx, 3))
    {a : Nat} {v : Value} {h' : jH} {H : Heap} {locs : List Loc} {ls : Array Slot} {cells slots : Nat} {rest : List Value} (hka : j_k h a = u) (hn : narrow (jty (u - 10) x) v = v) (hfit : fits (jty (u - 10) x) v = true) (e0' : h'.1 = h.1) (e4 : j_c h' = j_c h) (eo : ∀ b, b ≠ a → h'.2.1 b = h.2.1 b ∧ h'.2.2.1 b = h.2.2.1 b ∧ h'.2.2.2.1 b = h.2.2.2.1 b) (hv : jfv E h' (u - 10) a x = v) (hnv : ∀ k, k ≠ x → jfv E h' (u - 10) a k = jfv E h (u - 10) a k)
    (g1 : jWd E h H) (g2 : jSt E h s) (g3 : va_S (e_A E) s.heap H locs) (kk : ∀ (H1 : Heap) (locs1 : List Loc), jWd E h' H1 → jSt E h' s → va_S (e_A E) s.heap H1 locs1 → W p l e0 R s m args below meth c H1 locs1 cells slots Q (F0 m (pc + 3) ls rest)) : W p l e0 R s m args below meth c H locs cells slots Q (F0 m pc ls (v :: .ref (e_ad E a) :: rest)) := by
  have hci : u - 10 < 8 := by omega
  have hKn := hK.1 (u - 10) hci
  have hap := jap hci hts hKn
  obtain ⟨ha, -, cell, q1, q2, q3, q4⟩ := g1.obj hka hu
  obtain ⟨hS, hfc, kC, hkC, hkind⟩ := hKn
  obtain ⟨cf, kf, fi, f, hi, hsl⟩ := hS x hxn
  have hlay := hts _ (jf_inw hci _ (u_in_lay hxn))
  unfold u_lay at hlay
  have hst := (u_facts hfc hkC (u_lays hts (jf_inw hci) hxn) hi).1
  rcases hfin with hfin | ⟨hfin, hin2, hdecl⟩
  · rw [if_neg (by rw [hfin]; decide)] at hlay
    have h6 := u_store hfc hkC hkind hlay hi (jf_ty _ hci x hxn) hn hfit
    refine W.putK hx hb (f := f) ⟨hown, hts _ hl, ⟨_, _, _, hi⟩, hst⟩ (by rw [q2]; exact h6) q1 q3 (by rw [hsl]; exact k2_hasslot (q4 x hxn)) rfl rfl hdg fun H' e1 e2 e3 => ?_
    rw [hsl] at e1
    exact kk H' _ (g1.fld hka hu hxn q1 q2 q3 q4 hap e1 e2 e3 e0' e4 eo hv hnv) (g2.put (by omega) e0' (fun b hb => (eo b hb).1)) (g3.put e2 e3 (e_ad_ge ha))
  · rw [if_pos hfin] at hlay
    have hcf : m.cls = cf := by
      obtain ⟨_, _, c', _, _, _, -, -, hf', -, -, -, hown2, -⟩ := Cond.laysFinal_spec hlay
      have e1 : c' = cf := by have := hi.symm.trans hf'; simp at this; exact this.1.symm
      rw [hdecl] at hown2
      rw [← e1]; exact Option.some.inj (hown.symm.trans hown2)
    have h6 := u_fits hfc hkC hkind (Or.inr hlay) hi (jf_ty _ hci x hxn) hn hfit
    refine W.putFinK hx hb hown (hts _ hl) hi hst hcf hin2 (by rw [q2]; exact h6) q1 q3 (by rw [hsl]; exact k2_hasslot (q4 x hxn)) rfl rfl hdg fun H' e1 e2 e3 => ?_
    rw [hsl] at e1
    exact kk H' _ (g1.fld hka hu hxn q1 q2 q3 q4 hap e1 e2 e3 e0' e4 eo hv hnv) (g2.put (by omega) e0' (fun b hb => (eo b hb).1)) (g3.put e2 e3 (e_ad_ge ha))
theorem js_putf0 (hk : jHk p l e0 R s m args below meth c Q E nL n0 z0 out k) (hx : p.tables.exec = Jvm.exec) (hb : c.code = cc) (hown : s.vm.findClass own = some m.cls) (hts : ∀ w ∈ jgw, w.before args s = true) (hK : jKn E s) {idx x u : Nat} (hu : 10 ≤ u ∧ u < 18) (hxn : x < jNf (u - 10)) (hj : jft (u - 10) x = 0) (hl : Cond.fieldLink own idx (jTf (u - 10) x).1 (jTf (u - 10) x).2.1 (jTf (u - 10) x).2.2.1 ∈ jgw) (hfin : (jTf (u - 10) x).2.2.2 = false ∨ ((jTf (u - 10) x).2.2.2 = true ∧ meth.name = "<init>" ∧ (jTf (u - 10) x).1 = own)) (hdg : decode cc pc = .ok (.putfield idx, 3))
    (e : (match S with
        | .int y :: va :: S => j_rv va fun a => if j_k h a = u then k (pc + 3) L S (j_sI h a x y) else none
        | _ => none) = some out) : jG1 p l e0 R s m args below meth c Q E nL n0 z0 out pc L S h := by
  have hci : u - 10 < 8 := by omega
  have nI : ∀ (a : Nat) (y : Int32) (q : Nat), q ≠ x → jfv E (j_sI h a x y) (u - 10) a q = jfv E h (u - 10) a q := by
    intro a y q hq
    unfold jfv
    have : j_I (j_sI h a x y) a q = j_I h a q := by rw [jI_s, if_neg (fun z => hq z.2)]
    rw [this]
    rfl
  have hty : jty (u - 10) x = .int := by rcases jf_tc (u - 10) hci x hxn with ⟨h0, hty⟩ | ⟨h0, hty⟩ | ⟨h0, hty⟩ | ⟨h0, -⟩ <;> first | exact hty | omega
  split at e
  · rename_i y va0 S'
    obtain ⟨a, rfl, e⟩ := js_rv e
    obtain ⟨hka, e⟩ := js_if e
    obtain ⟨mo, w⟩ := hk _ _ _ _ e
    refine ⟨mo, fun a1 b1 H locs ls g1 g2 g3 g4 => ?_⟩
    exact js_putW (h' := j_sI h a x y) (v := .int y) hx hb hown hts hK hu hxn hl hfin hdg hka (by rw [hty]; rfl) (by rw [hty]; rfl) rfl rfl (fun b hb => ⟨va_up_n _ _ hb, rfl, rfl⟩) (by rw [(jfv_c E _ (u - 10) a x).1 hj, jI_s, if_pos ⟨rfl, rfl⟩]) (fun q hq => nI a _ q hq) g1 g2 g3 (fun H1 locs1 w1 w2 w3 => w a1 b1 H1 locs1 ls w1 w2 w3 g4)
  · cases e
theorem js_putf3 (hk : jHk p l e0 R s m args below meth c Q E nL n0 z0 out k) (hx : p.tables.exec = Jvm.exec) (hb : c.code = cc) (hown : s.vm.findClass own = some m.cls) (hts : ∀ w ∈ jgw, w.before args s = true) (hK : jKn E s) {idx x u : Nat} (hu : 10 ≤ u ∧ u < 18) (hxn : x < jNf (u - 10)) (hj : jft (u - 10) x = 3) (hl : Cond.fieldLink own idx (jTf (u - 10) x).1 (jTf (u - 10) x).2.1 (jTf (u - 10) x).2.2.1 ∈ jgw) (hfin : (jTf (u - 10) x).2.2.2 = false ∨ ((jTf (u - 10) x).2.2.2 = true ∧ meth.name = "<init>" ∧ (jTf (u - 10) x).1 = own)) (hdg : decode cc pc = .ok (.putfield idx, 3))
    (e : (match S with
        | .int y :: va :: S => j_rv va fun a => if j_k h a = u ∧ (y = 0 ∨ y = 1) then k (pc + 3) L S (j_sI h a x y) else none
        | _ => none) = some out) : jG1 p l e0 R s m args below meth c Q E nL n0 z0 out pc L S h := by
  have hci : u - 10 < 8 := by omega
  have nI : ∀ (a : Nat) (y : Int32) (q : Nat), q ≠ x → jfv E (j_sI h a x y) (u - 10) a q = jfv E h (u - 10) a q := by
    intro a y q hq
    unfold jfv
    have : j_I (j_sI h a x y) a q = j_I h a q := by rw [jI_s, if_neg (fun z => hq z.2)]
    rw [this]
    rfl
  have hty : jty (u - 10) x = .boolean := by rcases jf_tc (u - 10) hci x hxn with ⟨h0, hty⟩ | ⟨h0, hty⟩ | ⟨h0, hty⟩ | ⟨h0, -⟩ <;> first | exact hty | omega
  split at e
  · rename_i y va0 S'
    obtain ⟨a, rfl, e⟩ := js_rv e
    obtain ⟨⟨hka, hy⟩, e⟩ := js_if e
    obtain ⟨mo, w⟩ := hk _ _ _ _ e
    refine ⟨mo, fun a1 b1 H locs ls g1 g2 g3 g4 => ?_⟩
    exact js_putW (h' := j_sI h a x y) (v := .int y) hx hb hown hts hK hu hxn hl hfin hdg hka (by rw [hty]; rcases hy with rfl | rfl <;> decide) (by rw [hty]; rcases hy with rfl | rfl <;> decide) rfl rfl (fun b hb => ⟨va_up_n _ _ hb, rfl, rfl⟩) (by rw [(jfv_c E _ (u - 10) a x).2.1 hj, jI_s, if_pos ⟨rfl, rfl⟩]) (fun q hq => nI a _ q hq) g1 g2 g3 (fun H1 locs1 w1 w2 w3 => w a1 b1 H1 locs1 ls w1 w2 w3 g4)
  · cases e
theorem js_putf1 (hk : jHk p l e0 R s m args below meth c Q E nL n0 z0 out k) (hx : p.tables.exec = Jvm.exec) (hb : c.code = cc) (hown : s.vm.findClass own = some m.cls) (hts : ∀ w ∈ jgw, w.before args s = true) (hK : jKn E s) {idx x u : Nat} (hu : 10 ≤ u ∧ u < 18) (hxn : x < jNf (u - 10)) (hj : jft (u - 10) x = 1) (hl : Cond.fieldLink own idx (jTf (u - 10) x).1 (jTf (u - 10) x).2.1 (jTf (u - 10) x).2.2.1 ∈ jgw) (hfin : (jTf (u - 10) x).2.2.2 = false ∨ ((jTf (u - 10) x).2.2.2 = true ∧ meth.name = "<init>" ∧ (jTf (u - 10) x).1 = own)) (hdg : decode cc pc = .ok (.putfield idx, 3))
    (e : (match S with
        | .long y :: va :: S => j_rv va fun a => if j_k h a = u then k (pc + 3) L S (j_sJ h a x y) else none
        | _ => none) = some out) : jG1 p l e0 R s m args below meth c Q E nL n0 z0 out pc L S h := by
  have hci : u - 10 < 8 := by omega
  have hty : jty (u - 10) x = .long := by rcases jf_tc (u - 10) hci x hxn with ⟨h0, hty⟩ | ⟨h0, hty⟩ | ⟨h0, hty⟩ | ⟨h0, -⟩ <;> first | exact hty | omega
  split at e
  · rename_i y va0 S'
    obtain ⟨a, rfl, e⟩ := js_rv e
    obtain ⟨hka, e⟩ := js_if e
    obtain ⟨mo, w⟩ := hk _ _ _ _ e
    refine ⟨mo, fun a1 b1 H locs ls g1 g2 g3 g4 => ?_⟩
    refine js_putW (h' := j_sJ h a x y) (v := .long y) hx hb hown hts hK hu hxn hl hfin hdg hka (by rw [hty]; rfl) (by rw [hty]; rfl) rfl rfl (fun b hb => ⟨rfl, va_up_n _ _ hb, rfl⟩) (by rw [(jfv_c E _ (u - 10) a x).2.2.1 hj, jJ_s, if_pos ⟨rfl, rfl⟩]) (fun q hq => ?_) g1 g2 g3 (fun H1 locs1 w1 w2 w3 => w a1 b1 H1 locs1 ls w1 w2 w3 g4)
    unfold jfv
    rw [jJ_s, if_neg (fun z => hq z.2)]
    rfl
  · cases e
theorem js_putf2 (hk : jHk p l e0 R s m args below meth c Q E nL n0 z0 out k) (hx : p.tables.exec = Jvm.exec) (hb : c.code = cc) (hown : s.vm.findClass own = some m.cls) (hts : ∀ w ∈ jgw, w.before args s = true) (hK : jKn E s) {idx x u : Nat} (hu : 10 ≤ u ∧ u < 18) (hxn : x < jNf (u - 10)) (hj : jft (u - 10) x = 2) (hl : Cond.fieldLink own idx (jTf (u - 10) x).1 (jTf (u - 10) x).2.1 (jTf (u - 10) x).2.2.1 ∈ jgw) (hfin : (jTf (u - 10) x).2.2.2 = false ∨ ((jTf (u - 10) x).2.2.2 = true ∧ meth.name = "<init>" ∧ (jTf (u - 10) x).1 = own)) (hdg : decode cc pc = .ok (.putfield idx, 3))
    (e : (match S with
        | v :: va :: S => j_rv va fun a => cond (j_isr v) (if j_k h a = u then k (pc + 3) L S (j_sR h a x (j_ov v)) else none) none
        | _ => none) = some out) : jG1 p l e0 R s m args below meth c Q E nL n0 z0 out pc L S h := by
  have hci : u - 10 < 8 := by omega
  obtain ⟨hf1, hf2⟩ : fits (jty (u - 10) x) .null = true ∧ fits (jty (u - 10) x) (.ref 0) = true := by
    rcases jf_tc (u - 10) hci x hxn with ⟨h0, -⟩ | ⟨h0, -⟩ | ⟨h0, -⟩ | ⟨h0, h1, h2, -⟩
    · omega
    · omega
    · omega
    · exact ⟨h1, h2⟩
  split at e
  · rename_i v va0 S'
    obtain ⟨a, rfl, e⟩ := js_rv e
    have core : ∀ o : Option Nat, v = va_rf o → (if j_k h a = u then k (pc + 3) L S' (j_sR h a x o) else none) = some out → jG1 p l e0 R s m args below meth c Q E nL n0 z0 out pc L (v :: .ref a :: S') h := by
      intro o hv e
      obtain ⟨hka, e⟩ := js_if e
      obtain ⟨mo, w⟩ := hk _ _ _ _ e
      refine ⟨mo, fun a1 b1 H locs ls g1 g2 g3 g4 => ?_⟩
      have hcv : cv E v = va_rf (o.map (e_ad E)) := by rw [hv]; exact cv_rf E o
      show W p l e0 R s m args below meth c H locs _ _ Q (F0 m pc ls (cv E v :: .ref (e_ad E a) :: S'.map (cv E)))
      rw [hcv]
      have hor : va_rf (o.map (e_ad E)) = .null ∨ ∃ b, va_rf (o.map (e_ad E)) = .ref b := by cases o <;> simp [va_rf]
      refine js_putW (h' := j_sR h a x o) (v := va_rf (o.map (e_ad E))) hx hb hown hts hK hu hxn hl hfin hdg hka (nar_ref hf1 _ hor) (by rcases hor with z | ⟨b, z⟩ <;> rw [z]; exact hf1; exact fits_ref hf2 b) rfl rfl (fun b hb => ⟨rfl, rfl, va_up_n _ _ hb⟩) (by rw [(jfv_c E _ (u - 10) a x).2.2.2 hj, jR_s, if_pos ⟨rfl, rfl⟩]) (fun q hq => ?_) g1 g2 g3 (fun H1 locs1 w1 w2 w3 => w a1 b1 H1 locs1 ls w1 w2 w3 g4)
      unfold jfv
      rw [jR_s, if_neg (fun z => hq z.2)]
      rfl
    cases v with
    | null => exact core none rfl e
    | ref b => exact core (some b) rfl e
    | _ => cases e
  · cases e
end JO
