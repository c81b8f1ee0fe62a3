/-! FIELDS AND ARRAYS -/
theorem jI_s (h : jH) (a k : Nat) (x : Int32) (b j : Nat) : j_I (j_sI h a k x) b j = if b = a ∧ j = k then x else j_I h b j := by
  show va_up h.2.1 a (va_up (h.2.1 a) k x) b j = _
  by_cases hb : b = a
  · subst hb
    rw [va_up_s]
    by_cases hj : j = k
    · subst hj
      simp [va_up_s]
    · rw [va_up_n _ _ hj]
      simp [hj, j_I]
  · rw [va_up_n _ _ hb]
    simp [hb, j_I]
theorem jJ_s (h : jH) (a k : Nat) (x : Int64) (b j : Nat) : j_J (j_sJ h a k x) b j = if b = a ∧ j = k then x else j_J h b j := by
  show va_up h.2.2.1 a (va_up (h.2.2.1 a) k x) b j = _
  by_cases hb : b = a
  · subst hb
    rw [va_up_s]
    by_cases hj : j = k
    · subst hj
      simp [va_up_s]
    · rw [va_up_n _ _ hj]
      simp [hj, j_J]
  · rw [va_up_n _ _ hb]
    simp [hb, j_J]
theorem jR_s (h : jH) (a k : Nat) (x : Option Nat) (b j : Nat) : j_R (j_sR h a k x) b j = if b = a ∧ j = k then x else j_R h b j := by
  show va_up h.2.2.2.1 a (va_up (h.2.2.2.1 a) k x) b j = _
  by_cases hb : b = a
  · subst hb
    rw [va_up_s]
    by_cases hj : j = k
    · subst hj
      simp [va_up_s]
    · rw [va_up_n _ _ hj]
      simp [hj, j_R]
  · rw [va_up_n _ _ hb]
    simp [hb, j_R]
theorem jWd.sI {E : jEv} {h : jH} {H H' : Heap} {a i q : Nat} {y : Int32} (w : jWd E h H) (hk : j_k h a = q) (hq : q = 0 ∨ q = 2 ∨ q = 3) (hat : H'[e_ad E a]? = some ((jAr E h q a).setSlot i (.int y))) (z : H'.size = H.size) (oq : ∀ q, q ≠ e_ad E a → H'[q]? = H[q]?) : jWd E (j_sI h a i y) H' := by
  obtain ⟨ha, -, -⟩ := w.arr hk (by omega)
  refine w.put ha rfl rfl (fun b hb => ⟨va_up_n _ _ hb, rfl, rfl⟩) z oq (Or.inl ⟨?_, ?_⟩)
  · show j_k h a < 6
    omega
  · show _ = some (jAr E (j_sI h a i y) (j_k h a) a)
    rw [hat, hk]
    have hf : (fun j => Value.int (j_I (j_sI h a i y) a j)) = updV (fun j => Value.int (j_I h a j)) i (.int y) := by
      funext j
      rw [jI_s]
      by_cases hj : j = i <;> simp [updV, hj]
    rcases hq with rfl | rfl | rfl <;> (show some ((arrV _ _ _).setSlot i _) = some (arrV _ _ (fun j => Value.int (j_I (j_sI h a i y) a j))); rw [hf, arrV_store]; rfl)
theorem jWd.sJ {E : jEv} {h : jH} {H H' : Heap} {a i : Nat} {y : Int64} (w : jWd E h H) (hk : j_k h a = 1) (hat : H'[e_ad E a]? = some ((jAr E h 1 a).setSlot i (.long y))) (z : H'.size = H.size) (oq : ∀ q, q ≠ e_ad E a → H'[q]? = H[q]?) : jWd E (j_sJ h a i y) H' := by
  obtain ⟨ha, -, -⟩ := w.arr hk (by omega)
  refine w.put ha rfl rfl (fun b hb => ⟨rfl, va_up_n _ _ hb, rfl⟩) z oq (Or.inl ⟨?_, ?_⟩)
  · show j_k h a < 6
    omega
  · show _ = some (jAr E (j_sJ h a i y) (j_k h a) a)
    rw [hat, hk]
    have hf : (fun j => Value.long (j_J (j_sJ h a i y) a j)) = updV (fun j => Value.long (j_J h a j)) i (.long y) := by
      funext j
      rw [jJ_s]
      by_cases hj : j = i <;> simp [updV, hj]
    show some ((arrV _ _ _).setSlot i _) = some (arrV _ _ (fun j => Value.long (j_J (j_sJ h a i y) a j)))
    rw [hf, arrV_store]
    rfl
theorem jWd.sR {E : jEv} {h : jH} {H H' : Heap} {a i q : Nat} {y : Option Nat} (w : jWd E h H) (hk : j_k h a = q) (hq : q = 4 ∨ q = 5) (hat : H'[e_ad E a]? = some ((jAr E h q a).setSlot i (va_rf (y.map (e_ad E))))) (z : H'.size = H.size) (oq : ∀ q, q ≠ e_ad E a → H'[q]? = H[q]?) : jWd E (j_sR h a i y) H' := by
  obtain ⟨ha, -, -⟩ := w.arr hk (by omega)
  refine w.put ha rfl rfl (fun b hb => ⟨rfl, rfl, va_up_n _ _ hb⟩) z oq (Or.inl ⟨?_, ?_⟩)
  · show j_k h a < 6
    omega
  · show _ = some (jAr E (j_sR h a i y) (j_k h a) a)
    rw [hat, hk]
    have hf : (fun j => va_rf ((j_R (j_sR h a i y) a j).map (e_ad E))) = updV (fun j => va_rf ((j_R h a j).map (e_ad E))) i (va_rf (y.map (e_ad E))) := by
      funext j
      rw [jR_s]
      by_cases hj : j = i <;> simp [updV, hj]
    rcases hq with rfl | rfl <;> (show some ((arrV _ _ _).setSlot i _) = some (arrV _ _ (fun j => va_rf ((j_R (j_sR h a i y) a j).map (e_ad E)))); rw [hf, arrV_store]; rfl)
section JC
variable {p : Program} {l : Launch} {e0 : Env} {R : Room} {s : State} {m : MethodId} {args : Array Value} {below : List Frame} {meth : Method} {c : Code} {Q : State → Prop} {E : jEv} {cc : ByteArray} {own : String} {nL n0 z0 : Nat} {out : jO}
variable {k : jK} {pc nx : Nat} {L : jL} {S : List Value} {h : jH}
theorem vin_of {i : Int32} {n : Nat} (hi : ¬ i < 0 ∧ i.toNatClampNeg < n) : vp_in i n := fun q => q.elim hi.1 (fun q => by omega)
theorem js_rv {v : Value} {f : Nat → Option jO} (e : j_rv v f = some out) : ∃ a, v = .ref a ∧ f a = some out := by
  unfold j_rv at e
  split at e
  · exact ⟨_, rfl, e⟩
  · cases e
theorem js_ai {f : Nat → Int32 → List Value → Option jO} (e : j_ai S f = some out) : ∃ a i S', S = .int i :: .ref a :: S' ∧ f a i S' = some out := by
  unfold j_ai at e
  split at e
  · obtain ⟨a, rfl, e⟩ := js_rv e
    exact ⟨a, _, _, rfl, e⟩
  · cases e
theorem js_r1 {f : Nat → List Value → Option jO} (e : j_r1 S f = some out) : ∃ a S', S = .ref a :: S' ∧ f a S' = some out := by
  unfold j_r1 at e
  split at e
  · obtain ⟨a, rfl, e⟩ := js_rv e
    exact ⟨a, _, rfl, e⟩
  · cases e
theorem js_i1' {f : Int32 → List Value → Option jO} (e : j_i1 S f = some out) : ∃ a S', S = .int a :: S' ∧ f a S' = some out := by
  unfold j_i1 at e
  split at e
  · exact ⟨_, _, rfl, e⟩
  · cases e
theorem js_l1' {f : Int64 → List Value → Option jO} (e : j_l1 S f = some out) : ∃ a S', S = .long a :: S' ∧ f a S' = some out := by
  unfold j_l1 at e
  split at e
  · exact ⟨_, _, rfl, e⟩
  · cases e
theorem js_if {P : Prop} {dP : Decidable P} {a : Option jO} (e : @ite (Option jO) P dP a none = some out) : P ∧ a = some out := by
  by_cases hp : P
  · rw [if_pos hp] at e
    exact ⟨hp, e⟩
  · rw [if_neg hp] at e
    cases e
theorem js_iald (hk : jHk p l e0 R s m args below meth c Q E nL n0 z0 out k) (hx : p.tables.exec = Jvm.exec) (hb : c.code = cc) (hK : jKn E s) (hdg : decode cc pc = .ok (.iaload, 1)) (e : (j_ai S fun a i S => if (j_k h a = 0 ∨ j_k h a = 6) ∧ j_in h a i then k (pc + 1) L (.int (j_I h a i.toNatClampNeg) :: S) h else none) = some out) : jG1 p l e0 R s m args below meth c Q E nL n0 z0 out pc L S h := by
  obtain ⟨a, i, S', rfl, e⟩ := js_ai e
  obtain ⟨⟨hka, hin⟩, e⟩ := js_if e
  obtain ⟨mo, w⟩ := hk _ _ _ _ e
  refine ⟨mo, fun a1 b1 H locs ls g1 g2 g3 g4 => ?_⟩
  have w' := w a1 b1 H locs ls g1 g2 g3 g4
  rcases hka with hka | hka
  · obtain ⟨-, -, hc⟩ := g1.arr hka (by omega)
    exact W.iald (v := .int (j_I h a i.toNatClampNeg)) hx hb hc ((hK.2.1 0 (by omega)).1 _ _) (fun q => by cases q) (by show ¬ (i < 0 ∨ (arrV _ _ _).slots.size ≤ _); rw [arrV_size]; exact vin_of hin) (by show (arrV _ _ _).slots[_]? = _; rw [arrV_read _ _ hin.2]) rfl rfl hdg w'
  · exact va_ti hx hb (g2 a hka).2 g3 (vin_of hin) rfl hdg w'
theorem js_bald (hk : jHk p l e0 R s m args below meth c Q E nL n0 z0 out k) (hx : p.tables.exec = Jvm.exec) (hb : c.code = cc) (hK : jKn E s) (hdg : decode cc pc = .ok (.baload, 1)) (e : (j_ai S fun a i S => if (j_k h a = 2 ∨ j_k h a = 3) ∧ j_in h a i then k (pc + 1) L (.int (j_I h a i.toNatClampNeg) :: S) h else none) = some out) : jG1 p l e0 R s m args below meth c Q E nL n0 z0 out pc L S h := by
  obtain ⟨a, i, S', rfl, e⟩ := js_ai e
  obtain ⟨⟨hka, hin⟩, e⟩ := js_if e
  obtain ⟨mo, w⟩ := hk _ _ _ _ e
  refine ⟨mo, fun a1 b1 H locs ls g1 g2 g3 g4 => ?_⟩
  have w' := w a1 b1 H locs ls g1 g2 g3 g4
  rcases hka with hka | hka
  · obtain ⟨-, -, hc⟩ := g1.arr hka (by omega)
    exact W.bald (v := .int (j_I h a i.toNatClampNeg)) hx hb hc ((hK.2.1 2 (by omega)).1 _ _) (fun q => by cases q) (by show ¬ (i < 0 ∨ (arrV _ _ _).slots.size ≤ _); rw [arrV_size]; exact vin_of hin) (by show (arrV _ _ _).slots[_]? = _; rw [arrV_read _ _ hin.2]) rfl rfl hdg w'
  · obtain ⟨-, -, hc⟩ := g1.arr hka (by omega)
    exact W.zald (v := .int (j_I h a i.toNatClampNeg)) hx hb hc ((hK.2.1 3 (by omega)).1 _ _) (fun q => by cases q) (by show ¬ (i < 0 ∨ (arrV _ _ _).slots.size ≤ _); rw [arrV_size]; exact vin_of hin) (by show (arrV _ _ _).slots[_]? = _; rw [arrV_read _ _ hin.2]) rfl rfl hdg w'
theorem js_lald (hk : jHk p l e0 R s m args below meth c Q E nL n0 z0 out k) (hx : p.tables.exec = Jvm.exec) (hb : c.code = cc) (hK : jKn E s) (hdg : decode cc pc = .ok (.laload, 1)) (e : (j_ai S fun a i S => if j_k h a = 1 ∧ j_in h a i then k (pc + 1) L (.long (j_J h a i.toNatClampNeg) :: S) h else none) = some out) : jG1 p l e0 R s m args below meth c Q E nL n0 z0 out pc L S h := by
  obtain ⟨a, i, S', rfl, e⟩ := js_ai e
  obtain ⟨⟨hka, hin⟩, e⟩ := js_if e
  obtain ⟨mo, w⟩ := hk _ _ _ _ e
  refine ⟨mo, fun a1 b1 H locs ls g1 g2 g3 g4 => ?_⟩
  obtain ⟨-, -, hc⟩ := g1.arr hka (by omega)
  exact W.lald (v := .long (j_J h a i.toNatClampNeg)) hx hb hc ((hK.2.1 1 (by omega)).1 _ _) (fun q => by cases q) (by show ¬ (i < 0 ∨ (arrV _ _ _).slots.size ≤ _); rw [arrV_size]; exact vin_of hin) (by show (arrV _ _ _).slots[_]? = _; rw [arrV_read _ _ hin.2]) rfl rfl hdg (w a1 b1 H locs ls g1 g2 g3 g4)
theorem js_aald (hk : jHk p l e0 R s m args below meth c Q E nL n0 z0 out k) (hx : p.tables.exec = Jvm.exec) (hb : c.code = cc) (hK : jKn E s) (hdg : decode cc pc = .ok (.aaload, 1)) (e : (j_ai S fun a i S => if (j_k h a = 4 ∨ j_k h a = 5) ∧ j_in h a i then k (pc + 1) L (va_rf (j_R h a i.toNatClampNeg) :: S) h else none) = some out) : jG1 p l e0 R s m args below meth c Q E nL n0 z0 out pc L S h := by
  obtain ⟨a, i, S', rfl, e⟩ := js_ai e
  obtain ⟨⟨hka, hin⟩, e⟩ := js_if e
  obtain ⟨mo, w⟩ := hk _ _ _ _ e
  refine ⟨mo, fun a1 b1 H locs ls g1 g2 g3 g4 => ?_⟩
  have w' := w a1 b1 H locs ls g1 g2 g3 g4
  rw [List.map_cons, cv_rf] at w'
  rcases hka with hka | hka
  · obtain ⟨-, -, hc⟩ := g1.arr hka (by omega)
    exact W.aald (v := va_rf ((j_R h a i.toNatClampNeg).map (e_ad E))) (ty := .object "FootMaps$Text") hx hb hc ((hK.2.1 4 (by omega)).1 _ _) rfl (fun q => by cases q) (by show ¬ (i < 0 ∨ (arrV _ _ _).slots.size ≤ _); rw [arrV_size]; exact vin_of hin) (by show (arrV _ _ _).slots[_]? = _; rw [arrV_read _ _ hin.2]) rfl rfl hdg w'
  · obtain ⟨-, -, hc⟩ := g1.arr hka (by omega)
    exact W.aald (v := va_rf ((j_R h a i.toNatClampNeg).map (e_ad E))) (ty := .object "FootMaps$Land") hx hb hc ((hK.2.1 5 (by omega)).1 _ _) rfl (fun q => by cases q) (by show ¬ (i < 0 ∨ (arrV _ _ _).slots.size ≤ _); rw [arrV_size]; exact vin_of hin) (by show (arrV _ _ _).slots[_]? = _; rw [arrV_read _ _ hin.2]) rfl rfl hdg w'
theorem js_iast (hk : jHk p l e0 R s m args below meth c Q E nL n0 z0 out k) (hx : p.tables.exec = Jvm.exec) (hb : c.code = cc) (hK : jKn E s) (hdg : decode cc pc = .ok (.iastore, 1)) (e : (j_i1 S fun y S => j_ai S fun a i S => if j_k h a = 0 ∧ j_in h a i then k (pc + 1) L S (j_sI h a i.toNatClampNeg y) else none) = some out) : jG1 p l e0 R s m args below meth c Q E nL n0 z0 out pc L S h := by
  obtain ⟨y, S1, rfl, e⟩ := js_i1' e
  obtain ⟨a, i, S', rfl, e⟩ := js_ai e
  obtain ⟨⟨hka, hin⟩, e⟩ := js_if e
  obtain ⟨mo, w⟩ := hk _ _ _ _ e
  refine ⟨mo, fun a1 b1 H locs ls g1 g2 g3 g4 => ?_⟩
  obtain ⟨ha, -, hc⟩ := g1.arr hka (by omega)
  refine W.iast hx hb hc ((hK.2.1 0 (by omega)).1 _ _) (fun q => by cases q) (by show ¬ (i < 0 ∨ (arrV _ _ _).slots.size ≤ _); rw [arrV_size]; exact vin_of hin) rfl rfl hdg fun H1 e1 z1 o1 => ?_
  exact w a1 b1 H1 _ ls (g1.sI hka (Or.inl rfl) e1 z1 o1) (g2.put (by rw [hka]; decide) rfl (fun b hb => va_up_n _ _ hb)) (g3.put z1 o1 (e_ad_ge ha)) g4
theorem js_last (hk : jHk p l e0 R s m args below meth c Q E nL n0 z0 out k) (hx : p.tables.exec = Jvm.exec) (hb : c.code = cc) (hK : jKn E s) (hdg : decode cc pc = .ok (.lastore, 1)) (e : (j_l1 S fun y S => j_ai S fun a i S => if j_k h a = 1 ∧ j_in h a i then k (pc + 1) L S (j_sJ h a i.toNatClampNeg y) else none) = some out) : jG1 p l e0 R s m args below meth c Q E nL n0 z0 out pc L S h := by
  obtain ⟨y, S1, rfl, e⟩ := js_l1' e
  obtain ⟨a, i, S', rfl, e⟩ := js_ai e
  obtain ⟨⟨hka, hin⟩, e⟩ := js_if e
  obtain ⟨mo, w⟩ := hk _ _ _ _ e
  refine ⟨mo, fun a1 b1 H locs ls g1 g2 g3 g4 => ?_⟩
  obtain ⟨ha, -, hc⟩ := g1.arr hka (by omega)
  refine W.last hx hb hc ((hK.2.1 1 (by omega)).1 _ _) (fun q => by cases q) (by show ¬ (i < 0 ∨ (arrV _ _ _).slots.size ≤ _); rw [arrV_size]; exact vin_of hin) rfl rfl hdg fun H1 e1 z1 o1 => ?_
  exact w a1 b1 H1 _ ls (g1.sJ hka e1 z1 o1) (g2.put (by rw [hka]; decide) rfl (fun b hb => rfl)) (g3.put z1 o1 (e_ad_ge ha)) g4
theorem js_bast2 (hk : jHk p l e0 R s m args below meth c Q E nL n0 z0 out k) (hx : p.tables.exec = Jvm.exec) (hb : c.code = cc) (hK : jKn E s) (hdg : decode cc pc = .ok (.bastore, 1)) (e : (j_i1 S fun y S => j_ai S fun a i S => if j_k h a = 2 ∧ j_in h a i then k (pc + 1) L S (j_sI h a i.toNatClampNeg y.toInt8.toInt32) else none) = some out) : jG1 p l e0 R s m args below meth c Q E nL n0 z0 out pc L S h := by
  obtain ⟨y, S1, rfl, e⟩ := js_i1' e
  obtain ⟨a, i, S', rfl, e⟩ := js_ai e
  obtain ⟨⟨hka, hin⟩, e⟩ := js_if e
  obtain ⟨mo, w⟩ := hk _ _ _ _ e
  refine ⟨mo, fun a1 b1 H locs ls g1 g2 g3 g4 => ?_⟩
  obtain ⟨ha, -, hc⟩ := g1.arr hka (by omega)
  refine W.bast hx hb hc ((hK.2.1 2 (by omega)).1 _ _) (fun q => by cases q) (by show ¬ (i < 0 ∨ (arrV _ _ _).slots.size ≤ _); rw [arrV_size]; exact vin_of hin) rfl rfl hdg fun H1 e1 z1 o1 => ?_
  exact w a1 b1 H1 _ ls (g1.sI hka (Or.inr (Or.inl rfl)) e1 z1 o1) (g2.put (by rw [hka]; decide) rfl (fun b hb => va_up_n _ _ hb)) (g3.put z1 o1 (e_ad_ge ha)) g4
theorem js_bast3 (hk : jHk p l e0 R s m args below meth c Q E nL n0 z0 out k) (hx : p.tables.exec = Jvm.exec) (hb : c.code = cc) (hK : jKn E s) (hdg : decode cc pc = .ok (.bastore, 1)) (e : (j_i1 S fun y S => j_ai S fun a i S => if j_k h a = 3 ∧ j_in h a i ∧ (y = 0 ∨ y = 1) then k (pc + 1) L S (j_sI h a i.toNatClampNeg y) else none) = some out) : jG1 p l e0 R s m args below meth c Q E nL n0 z0 out pc L S h := by
  obtain ⟨y, S1, rfl, e⟩ := js_i1' e
  obtain ⟨a, i, S', rfl, e⟩ := js_ai e
  obtain ⟨⟨hka, hin, hy⟩, e⟩ := js_if e
  obtain ⟨mo, w⟩ := hk _ _ _ _ e
  refine ⟨mo, fun a1 b1 H locs ls g1 g2 g3 g4 => ?_⟩
  obtain ⟨ha, -, hc⟩ := g1.arr hka (by omega)
  refine W.zast hx hb hc ((hK.2.1 3 (by omega)).1 _ _) (fun q => by cases q) (by show ¬ (i < 0 ∨ (arrV _ _ _).slots.size ≤ _); rw [arrV_size]; exact vin_of hin) rfl rfl hdg fun H1 e1 z1 o1 => ?_
  have hn : narrow .boolean (.int y) = .int y := by rcases hy with rfl | rfl <;> decide
  rw [hn] at e1
  exact w a1 b1 H1 _ ls (g1.sI hka (Or.inr (Or.inr rfl)) e1 z1 o1) (g2.put (by rw [hka]; decide) rfl (fun b hb => va_up_n _ _ hb)) (g3.put z1 o1 (e_ad_ge ha)) g4
theorem js_alen (hk : jHk p l e0 R s m args below meth c Q E nL n0 z0 out k) (hx : p.tables.exec = Jvm.exec) (hb : c.code = cc) (hK : jKn E s) (hdg : decode cc pc = .ok (.arraylength, 1)) (e : (j_r1 S fun a S => if j_k h a < 7 then k (pc + 1) L (.int (Int32.ofNat (j_n h a)) :: S) h else none) = some out) : jG1 p l e0 R s m args below meth c Q E nL n0 z0 out pc L S h := by
  obtain ⟨a, S', rfl, e⟩ := js_r1 e
  obtain ⟨hka, e⟩ := js_if e
  obtain ⟨mo, w⟩ := hk _ _ _ _ e
  refine ⟨mo, fun a1 b1 H locs ls g1 g2 g3 g4 => ?_⟩
  have w' := w a1 b1 H locs ls g1 g2 g3 g4
  by_cases h6 : j_k h a = 6
  · exact va_tlen hx hb (g2 a h6).2 g3 rfl hdg w'
  · obtain ⟨q, hq⟩ : ∃ q, j_k h a = q := ⟨_, rfl⟩
    obtain ⟨-, -, hc⟩ := g1.arr hq (by omega)
    have hq6 : q = 0 ∨ q = 1 ∨ q = 2 ∨ q = 3 ∨ q = 4 ∨ q = 5 := by omega
    rcases hq6 with rfl | rfl | rfl | rfl | rfl | rfl
    · exact W.alen (n := Int32.ofNat (j_n h a)) (ty := .int) hx hb hc ((hK.2.1 0 (by omega)).1 _ _) (by show (arrV _ _ _).slots.size.toInt32 = _; rw [arrV_size]) rfl rfl hdg w'
    · exact W.alen (n := Int32.ofNat (j_n h a)) (ty := .long) hx hb hc ((hK.2.1 1 (by omega)).1 _ _) (by show (arrV _ _ _).slots.size.toInt32 = _; rw [arrV_size]) rfl rfl hdg w'
    · exact W.alen (n := Int32.ofNat (j_n h a)) (ty := .byte) hx hb hc ((hK.2.1 2 (by omega)).1 _ _) (by show (arrV _ _ _).slots.size.toInt32 = _; rw [arrV_size]) rfl rfl hdg w'
    · exact W.alen (n := Int32.ofNat (j_n h a)) (ty := .boolean) hx hb hc ((hK.2.1 3 (by omega)).1 _ _) (by show (arrV _ _ _).slots.size.toInt32 = _; rw [arrV_size]) rfl rfl hdg w'
    · exact W.alen (n := Int32.ofNat (j_n h a)) (ty := .object "FootMaps$Text") hx hb hc ((hK.2.1 4 (by omega)).1 _ _) (by show (arrV _ _ _).slots.size.toInt32 = _; rw [arrV_size]) rfl rfl hdg w'
    · exact W.alen (n := Int32.ofNat (j_n h a)) (ty := .object "FootMaps$Land") hx hb hc ((hK.2.1 5 (by omega)).1 _ _) (by show (arrV _ _ _).slots.size.toInt32 = _; rw [arrV_size]) rfl rfl hdg w'
end JC
