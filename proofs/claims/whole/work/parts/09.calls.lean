/-! COPIES, CLONES, CASTS, TABLES, TEXT; then calls and returns -/
theorem jI_cp (h : jH) (a sp b dp n : Nat) : j_I (j_cpI h a sp b dp n) b = va_cpy (j_I h a) (j_I h b) sp dp n := by
  funext k
  show va_up h.2.1 b (va_cpy (h.2.1 a) (h.2.1 b) sp dp n) b k = _
  rw [va_up_s]
  rfl
theorem jJ_cp (h : jH) (a sp b dp n : Nat) : j_J (j_cpJ h a sp b dp n) b = va_cpy (j_J h a) (j_J h b) sp dp n := by
  funext k
  show va_up h.2.2.1 b (va_cpy (h.2.2.1 a) (h.2.2.1 b) sp dp n) b k = _
  rw [va_up_s]
  rfl
theorem cat_sum (l : List Value) : (l.map fun v => v.category).sum ≤ 2 * l.length := by
  induction l with
  | nil => exact Nat.le_refl 0
  | cons v l ih =>
    rw [List.map_cons, List.sum_cons, List.length_cons]
    rcases lv_cat v with q | q <;> omega
section JP
variable {p : Program} {l : Launch} {e0 : Env} {R : Room} {s : State} {m : MethodId} {args : Array Value} {below : List Frame} {meth : Method} {c : Code} {Q : State → Prop} {E : jEv} {cc : ByteArray} {own : String} {nL n0 z0 : Nat} {out : jO}
variable {k : jK} {pc nx : Nat} {L : jL} {S : List Value} {h : jH}
theorem js_cond {b : Bool} {x : Option jO} (e : cond b x none = some out) : b = true ∧ x = some out := by
  cases b with
  | true => exact ⟨rfl, e⟩
  | false => cases e
theorem cat_le {S : List Value} (hc : Nat.ble (j_cat S) 8 = true) : ((S.map (cv E)).map fun v => v.category).sum ≤ 8 := by
  have h1 := cat_sum (S.map (cv E))
  have h2 : j_cat S ≤ 8 := Nat.le_of_ble_eq_true hc
  unfold j_cat at h2
  rw [List.length_map] at h1
  omega
theorem clamp_i {z : Int32} (hz : ¬ z < 0) : z.toInt = (z.toNatClampNeg : Int) := by
  have hz0 : (0 : Int) ≤ z.toInt := by
    have := Int32.not_lt.mp hz
    simpa using Int32.le_iff_toInt_le.mp this
  show z.toInt = ((z.toInt.toNat : Nat) : Int)
  omega
/-- arraycopy between two arrays of one plain type, cell by cell -/
theorem jcopy {α : Type} {V : α → Value} (hx : p.tables.exec = Jvm.exec) (hb : c.code = cc) {ls : Array Slot} (hml : c.maxLocals = ls.size) (hown : s.vm.findClass own = some m.cls) {idx : Nat} (hlink : (Cond.methodLink own idx arraycopyName).before args s = true) (hnat : (Cond.native arraycopyName).before args s = true) (hstat : (Cond.static arraycopyName).before args s = true) (hini : (Cond.initialized "java/lang/System").before args s = true)
    {H : Heap} {locs : List Loc} {cells slots : Nat} {rest : List Value} {a0 a : Nat} {cA : ClassId} {ty : FieldType} {N0 N1 : Nat} {f g : Nat → α} (hc0 : H[a0]? = some (arrV cA N0 (fun j => V (f j)))) (hc1 : H[a]? = some (arrV cA N1 (fun j => V (g j)))) (hAr : ArrOfT s cA ty) (hprim : refKind ty = false) (hfit : ∀ x, fits ty (V x) = true) (hact : ∀ x, ¬ ∃ q, V x = .ref q)
    {sp dp n : Int32} (h1 : ¬ sp < 0) (h2 : ¬ dp < 0) (h3 : ¬ n < 0) (h4 : sp.toNatClampNeg + n.toNatClampNeg ≤ N0) (h5 : dp.toNatClampNeg + n.toNatClampNeg ≤ N1)
    (hcop : copied (arrV cA N0 (fun j => V (f j))) (arrV cA N1 (fun j => V (g j))) sp dp n = arrV cA N1 (fun j => V (va_cpy f g sp.toNatClampNeg dp.toNatClampNeg n.toNatClampNeg j)))
    (hframes : 1 ≤ R.frames) (hlocals : (rest.map fun v => v.category).sum + (nativeFrameWords "java/lang/System" "arraycopy" 5 + 11) ≤ R.locals) (hdg : decode cc pc = .ok (.invokestatic idx, 3))
    (kk : ∀ (H1 : Heap) (L1 : List Loc), H1[a]? = some (arrV cA N1 (fun j => V (va_cpy f g sp.toNatClampNeg dp.toNatClampNeg n.toNatClampNeg j))) → H1.size = H.size → (∀ q, q ≠ a → H1[q]? = H[q]?) → (∀ q ∈ L1, q.base = a) → W p l e0 R s m args below meth c H1 (locs ++ L1) cells slots Q (F0 m (pc + 3) ls rest)) : W p l e0 R s m args below meth c H locs cells slots Q (F0 m pc ls (.int n :: .int dp :: .ref a :: .int sp :: .ref a0 :: rest)) := by
  intro T hT X
  obtain ⟨-, k0, hk0, cm0, hkk0⟩ := hAr N0 (fun j => V (f j))
  obtain ⟨vm', X', step⟩ := X.arraycopy hx hown hlink hnat hstat hini (src := a0) (dst := a) (cs := arrV cA N0 (fun j => V (f j))) (cd := arrV cA N1 (fun j => V (g j))) (srcPos := sp) (destPos := dp) (n := n) (by rw [hT]; exact hc0) (by rw [hT]; exact hc1)
    (fun _ h => by cases h) (fun _ h => by cases h) (fun h => by cases h) (fun h => by cases h) hk0 hk0 hkk0 hkk0 (by simp [hprim]) h1 h2 h3
    (by rw [clamp_i h1, clamp_i h3, arrV_size]; omega)
    (by rw [clamp_i h2, clamp_i h3, arrV_size]; omega)
    (fun vm₁ _ i hi => by
      have e : (arrV cA N0 (fun j => V (f j))).slots.getD (sp.toNatClampNeg + i) .null = V (f (sp.toNatClampNeg + i)) := by
        rw [Array.getD_eq_getD_getElem?, arrV_read _ _ (by omega)]
        rfl
      refine ⟨?_, ?_⟩
      · rw [e]
        exact hfit _
      · rw [e]
        have hq := hact (f (sp.toNatClampNeg + i))
        cases hv : V (f (sp.toNatClampNeg + i)) with
        | ref q => exact absurd ⟨q, hv⟩ hq
        | _ => exact trivial)
    (g := F0 m pc ls (.int n :: .int dp :: .ref a :: .int sp :: .ref a0 :: rest)) rfl (by rw [hml]) (rest := rest) rfl (by rw [hb]; exact hdg) hframes (by show 2 * 0 + _ + _ ≤ _; omega)
  rw [hcop] at X' step
  have hl : a < H.size := (Array.getElem?_eq_some_iff.mp hc1).1
  have hheap : ((T.setVm vm').setCell a (arrV cA N1 (fun j => V (va_cpy f g sp.toNatClampNeg dp.toNatClampNeg n.toNatClampNeg j)))).heap = H.setIfInBounds a (arrV cA N1 (fun j => V (va_cpy f g sp.toNatClampNeg dp.toNatClampNeg n.toNatClampNeg j))) := by rw [← hT]; rfl
  obtain ⟨t, a1, b1⟩ := kk _ _ (by simp [Array.getElem?_setIfInBounds, hl]) (by simp) (fun q hq => by simp [Array.getElem?_setIfInBounds, Ne.symm hq]) (fun q hq => by
      obtain ⟨z, -, hz⟩ := List.mem_map.mp hq
      rw [← hz]) _ hheap X'
  exact ⟨t, step t a1, b1⟩
end JP
