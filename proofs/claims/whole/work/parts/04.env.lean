/-! THE PLAIN MACHINE OVER THE JVM: what a plain heap says of a heap -/
abbrev jEv : Type := (Nat → Nat) × Nat × (Nat → ClassId) × (Nat → ClassId) × (Nat → Nat → Nat)
def e_ad (E : jEv) (a : Nat) : Nat := if a < 4 then E.1 a else E.2.1 + (a - 4)
def e_A (E : jEv) : Nat → Prop := fun q => E.2.1 ≤ q
def cv (E : jEv) (v : Value) : Value := match v with
  | .ref a => .ref (e_ad E a)
  | w => w
theorem cv_i (E : jEv) (x : Int32) : cv E (.int x) = .int x := rfl
theorem cv_l (E : jEv) (x : Int64) : cv E (.long x) = .long x := rfl
theorem cv_n (E : jEv) : cv E .null = .null := rfl
theorem cv_r (E : jEv) (a : Nat) : cv E (.ref a) = .ref (e_ad E a) := rfl
theorem cv_rf (E : jEv) (o : Option Nat) : cv E (va_rf o) = va_rf (o.map (e_ad E)) := by cases o <;> rfl
def j_ety : Nat → FieldType
  | 0 => .int
  | 1 => .long
  | 2 => .byte
  | 3 => .boolean
  | 4 => .object "FootMaps$Text"
  | _ => .object "FootMaps$Land"
/-- a field of the object a of class ci -/
def jfv (E : jEv) (h : jH) (ci a k : Nat) : Value := match jft ci k with
  | 0 => .int (j_I h a k)
  | 3 => .int (j_I h a k)
  | 1 => .long (j_J h a k)
  | _ => va_rf ((j_R h a k).map (e_ad E))
def jAr (E : jEv) (h : jH) (q a : Nat) : Cell := match q with
  | 0 => arrV (E.2.2.1 0) (j_n h a) (fun j => .int (j_I h a j))
  | 1 => arrV (E.2.2.1 1) (j_n h a) (fun j => .long (j_J h a j))
  | 2 => arrV (E.2.2.1 2) (j_n h a) (fun j => .int (j_I h a j))
  | 3 => arrV (E.2.2.1 3) (j_n h a) (fun j => .int (j_I h a j))
  | 4 => arrV (E.2.2.1 4) (j_n h a) (fun j => va_rf ((j_R h a j).map (e_ad E)))
  | _ => arrV (E.2.2.1 5) (j_n h a) (fun j => va_rf ((j_R h a j).map (e_ad E)))
def jAt (E : jEv) (h : jH) (H : Heap) (a : Nat) : Prop :=
  (j_k h a < 6 ∧ H[e_ad E a]? = some (jAr E h (j_k h a) a)) ∨ (10 ≤ j_k h a ∧ j_k h a < 18 ∧ t_OB (e_ad E a) (E.2.2.2.1 (j_k h a - 10)) (jNf (j_k h a - 10)) (E.2.2.2.2 (j_k h a - 10)) H (jfv E h (j_k h a - 10) a))
def jWd (E : jEv) (h : jH) (H : Heap) : Prop :=
  4 ≤ j_c h ∧ H.size = E.2.1 + (j_c h - 4) ∧ (∀ a, 4 ≤ a → a < j_c h → jAt E h H a) ∧ ∀ a, (a < 4 ∨ j_c h ≤ a) → j_k h a = 6 ∨ j_k h a = 99
def jSt (E : jEv) (h : jH) (U : State) : Prop := ∀ a, j_k h a = 6 → a < 4 ∧ va_T .int (e_ad E a) (j_n h a) (fun j => .int (j_I h a j)) (e_A E) U U.heap
/-- a kind that is ours is at a cell that is ours -/
theorem jWd.at {E : jEv} {h : jH} {H : Heap} (w : jWd E h H) {a q : Nat} (hk : j_k h a = q) (hq : q < 6 ∨ (10 ≤ q ∧ q < 18)) : 4 ≤ a ∧ a < j_c h ∧ jAt E h H a := by
  obtain ⟨w1, w2, w3, w4⟩ := w
  by_cases h4 : a < 4
  · rcases w4 a (Or.inl h4) with e | e <;> omega
  · by_cases hc : j_c h ≤ a
    · rcases w4 a (Or.inr hc) with e | e <;> omega
    · exact ⟨by omega, by omega, w3 a (by omega) (by omega)⟩
theorem jWd.arr {E : jEv} {h : jH} {H : Heap} (w : jWd E h H) {a q : Nat} (hk : j_k h a = q) (hq : q < 6) : 4 ≤ a ∧ a < j_c h ∧ H[e_ad E a]? = some (jAr E h q a) := by
  obtain ⟨h1, h2, h3⟩ := w.at hk (Or.inl hq)
  rcases h3 with ⟨-, h3⟩ | ⟨h3, -⟩
  · rw [hk] at h3
    exact ⟨h1, h2, h3⟩
  · omega
theorem jWd.obj {E : jEv} {h : jH} {H : Heap} (w : jWd E h H) {a q : Nat} (hk : j_k h a = q) (hq : 10 ≤ q ∧ q < 18) : 4 ≤ a ∧ a < j_c h ∧ t_OB (e_ad E a) (E.2.2.2.1 (q - 10)) (jNf (q - 10)) (E.2.2.2.2 (q - 10)) H (jfv E h (q - 10) a) := by
  obtain ⟨h1, h2, h3⟩ := w.at hk (Or.inr hq)
  rcases h3 with ⟨h3, -⟩ | ⟨-, -, h3⟩
  · omega
  · rw [hk] at h3
    exact ⟨h1, h2, h3⟩
theorem e_ad_ge {E : jEv} {a : Nat} (h : 4 ≤ a) : E.2.1 ≤ e_ad E a := by
  unfold e_ad
  rw [if_neg (by omega)]
  omega
theorem e_ad_inj {E : jEv} {a b : Nat} (ha : 4 ≤ a) (hb : 4 ≤ b) (h : e_ad E a = e_ad E b) : a = b := by
  unfold e_ad at h
  rw [if_neg (by omega), if_neg (by omega)] at h
  omega
theorem va_up_s {α : Type} (f : Nat → α) (k : Nat) (v : α) : va_up f k v k = v := by simp [va_up]
theorem va_up_n {α : Type} (f : Nat → α) {k j : Nat} (v : α) (h : j ≠ k) : va_up f k v j = f j := by simp [va_up, h]
/-- a plain heap whose cells are the same but at a -/
theorem jAt.same {E : jEv} {h h' : jH} {H H' : Heap} {b : Nat} (w : jAt E h H b) (e0 : h'.1 b = h.1 b) (e1 : h'.2.1 b = h.2.1 b) (e2 : h'.2.2.1 b = h.2.2.1 b) (e3 : h'.2.2.2.1 b = h.2.2.2.1 b) (eH : H'[e_ad E b]? = H[e_ad E b]?) : jAt E h' H' b := by
  have k0 : j_k h' b = j_k h b := by unfold j_k; rw [e0]
  have k1 : j_n h' b = j_n h b := by unfold j_n; rw [e0]
  have k2 : j_I h' b = j_I h b := by funext k; unfold j_I; rw [e1]
  have k3 : j_J h' b = j_J h b := by funext k; unfold j_J; rw [e2]
  have k4 : j_R h' b = j_R h b := by funext k; unfold j_R; rw [e3]
  unfold jAt
  rw [k0]
  rcases w with ⟨w1, w2⟩ | ⟨w1, w2, w3⟩
  · refine Or.inl ⟨w1, ?_⟩
    rw [eH, w2]
    unfold jAr
    rw [k1, k2, k3, k4]
  · refine Or.inr ⟨w1, w2, ?_⟩
    have kf : jfv E h' (j_k h b - 10) b = jfv E h (j_k h b - 10) b := by
      funext k
      unfold jfv
      rw [k2, k3, k4]
    rw [kf]
    exact w3.kept eH
/-- one cell of ours is written -/
theorem jWd.put {E : jEv} {h h' : jH} {H H' : Heap} {a : Nat} (w : jWd E h H) (ha : 4 ≤ a) (e0 : h'.1 = h.1) (e4 : j_c h' = j_c h) (eo : ∀ b, b ≠ a → h'.2.1 b = h.2.1 b ∧ h'.2.2.1 b = h.2.2.1 b ∧ h'.2.2.2.1 b = h.2.2.2.1 b) (z : H'.size = H.size) (oq : ∀ q, q ≠ e_ad E a → H'[q]? = H[q]?) (hat : jAt E h' H' a) : jWd E h' H' := by
  obtain ⟨w1, w2, w3, w4⟩ := w
  refine ⟨by omega, by omega, fun b h1 h2 => ?_, fun b hb => ?_⟩
  · by_cases hba : b = a
    · subst hba
      exact hat
    · obtain ⟨o1, o2, o3⟩ := eo b hba
      exact (w3 b h1 (by omega)).same (by rw [e0]) o1 o2 o3 (oq _ (fun e => hba (e_ad_inj h1 ha e)))
  · have := w4 b (by omega)
    unfold j_k at this ⊢
    rw [e0]
    exact this
theorem jSt.put {E : jEv} {h h' : jH} {U : State} {a : Nat} (w : jSt E h U) (hk : j_k h a ≠ 6) (e0 : h'.1 = h.1) (eo : ∀ b, b ≠ a → h'.2.1 b = h.2.1 b) : jSt E h' U := by
  intro b hb
  have hb' : j_k h b = 6 := by unfold j_k at hb ⊢; rw [← e0]; exact hb
  have hba : b ≠ a := fun e => hk (by rw [← e]; exact hb')
  have := w b hb'
  have k1 : j_n h' b = j_n h b := by unfold j_n; rw [e0]
  have k2 : j_I h' b = j_I h b := by funext k; unfold j_I; rw [eo b hba]
  rw [k1, k2]
  exact this
/-- one cell is made -/
theorem jWd.make {E : jEv} {h h' : jH} {H H' : Heap} (w : jWd E h H) (e4 : j_c h' = j_c h + 1) (eo : ∀ b, b ≠ j_c h → h'.1 b = h.1 b ∧ h'.2.1 b = h.2.1 b ∧ h'.2.2.1 b = h.2.2.1 b ∧ h'.2.2.2.1 b = h.2.2.2.1 b) (z : H'.size = H.size + 1) (oq : ∀ q, q < H.size → H'[q]? = H[q]?) (hat : jAt E h' H' (j_c h)) : jWd E h' H' := by
  obtain ⟨w1, w2, w3, w4⟩ := w
  refine ⟨by omega, by omega, fun b h1 h2 => ?_, fun b hb => ?_⟩
  · by_cases hba : b = j_c h
    · subst hba
      exact hat
    · obtain ⟨o0, o1, o2, o3⟩ := eo b hba
      refine (w3 b h1 (by omega)).same o0 o1 o2 o3 (oq _ ?_)
      unfold e_ad
      rw [if_neg (by omega)]
      omega
  · have := w4 b (by omega)
    unfold j_k at this ⊢
    rw [(eo b (by omega)).1]
    exact this
theorem jSt.make {E : jEv} {h h' : jH} {H : Heap} {U : State} (w : jSt E h U) (hw : jWd E h H) (hk : j_k h' (j_c h) ≠ 6) (eo : ∀ b, b ≠ j_c h → h'.1 b = h.1 b ∧ h'.2.1 b = h.2.1 b) : jSt E h' U := by
  intro b hb
  have hba : b ≠ j_c h := fun e => hk (by rw [← e]; exact hb)
  have hb' : j_k h b = 6 := by unfold j_k at hb ⊢; rw [← (eo b hba).1]; exact hb
  have := w b hb'
  have k1 : j_n h' b = j_n h b := by unfold j_n; rw [(eo b hba).1]
  have k2 : j_I h' b = j_I h b := by funext k; unfold j_I; rw [(eo b hba).2]
  rw [k1, k2]
  exact this
/-- the locals that a plain list says -/
def jpr1 (E : jEv) (i : Nat) (a b : Option (Option Value)) : Option (Nat × Value) := match a with
  | some (some (.long y)) => (match b with
    | some (some (.float _)) => some (i, .long y)
    | _ => none)
  | some (some v) => if j_is1 v = true then some (i, cv E v) else none
  | _ => none
def jpr (E : jEv) (L : jL) : List (Nat × Value) := (List.range L.length).filterMap fun i => jpr1 E i L[i]? L[i + 1]?
theorem jpr_in {E : jEv} {L : jL} {q : Nat × Value} : q ∈ jpr E L ↔ (∃ v, L[q.1]? = some (some v) ∧ j_is1 v = true ∧ q.2 = cv E v) ∨ ∃ y z, L[q.1]? = some (some (.long y)) ∧ L[q.1 + 1]? = some (some (.float z)) ∧ q.2 = .long y := by
  obtain ⟨i, w⟩ := q
  unfold jpr
  rw [List.mem_filterMap]
  constructor
  · rintro ⟨j, -, hj⟩
    unfold jpr1 at hj
    split at hj
    · rename_i y hy
      split at hj
      · rename_i z hz
        cases hj
        exact Or.inr ⟨y, z, hy, hz, rfl⟩
      · cases hj
    · rename_i v hnl hv
      split at hj
      · rename_i h1
        cases hj
        exact Or.inl ⟨v, hv, h1, rfl⟩
      · cases hj
    · cases hj
  · rintro (⟨v, hv, h1, rfl⟩ | ⟨y, z, hy, hz, rfl⟩)
    · refine ⟨i, List.mem_range.mpr (List.getElem?_eq_some_iff.mp hv).1, ?_⟩
      simp only at hv
      rw [hv]
      cases v <;> simp_all [j_is1, jpr1]
    · refine ⟨i, List.mem_range.mpr (List.getElem?_eq_some_iff.mp hy).1, ?_⟩
      simp only at hy hz
      rw [hy, hz]
      rfl
def jLr (E : jEv) (L : jL) (ls : Array Slot) (nL : Nat) : Prop := L.length = nL ∧ lv_has ls nL (jpr E L)
theorem jLr.at {E : jEv} {L : jL} {ls : Array Slot} {nL : Nat} (h : jLr E L ls nL) {i : Nat} {v : Value} (hv : L[i]? = some (some v)) (h1 : j_is1 v = true) : ls[i]? = some (.val (cv E v)) := h.2.2.2 (i, cv E v) (jpr_in.mpr (Or.inl ⟨v, hv, h1, rfl⟩))
theorem jLr.at2 {E : jEv} {L : jL} {ls : Array Slot} {nL : Nat} (h : jLr E L ls nL) {i : Nat} {y : Int64} {z : UInt32} (hv : L[i]? = some (some (.long y))) (hz : L[i + 1]? = some (some (.float z))) : ls[i]? = some (.val (.long y)) := h.2.2.2 (i, .long y) (jpr_in.mpr (Or.inr ⟨y, z, hv, hz, rfl⟩))
theorem is1_cat {E : jEv} {v : Value} (h : j_is1 v = true) : (cv E v).category = 1 := by cases v <;> simp_all [j_is1, cv, Value.category]
theorem jLr.st {E : jEv} {L : jL} {ls' : Array Slot} {nL x : Nat} {v : Value} (hL : L.length = nL) (hx : x < nL) (h1 : j_is1 v = true) (h : lv_has ls' nL ((x, cv E v) :: (jpr E L).filter (fun q => !(q.1 == x) && !(q.1 + 1 == x && q.2.category == 2)))) : jLr E (L.set x (some v)) ls' nL := by
  refine ⟨by simpa using hL, h.1, h.2.1, fun q hq => h.2.2 q ?_⟩
  obtain ⟨i, w⟩ := q
  rcases jpr_in.mp hq with ⟨v', hv, g1, rfl⟩ | ⟨y, z, hy, hz, rfl⟩
  · by_cases hi : i = x
    · subst hi
      simp only at hv
      rw [List.getElem?_set_self (by omega)] at hv
      cases hv
      exact List.mem_cons_self
    · simp only at hv
      rw [List.getElem?_set_ne (Ne.symm hi)] at hv
      refine List.mem_cons_of_mem _ (List.mem_filter.mpr ⟨jpr_in.mpr (Or.inl ⟨v', hv, g1, rfl⟩), ?_⟩)
      simp [hi, is1_cat g1]
  · simp only at hy hz
    have hi : i ≠ x := by
      intro e
      subst e
      rw [List.getElem?_set_self (by omega)] at hy
      cases hy
      simp [j_is1] at h1
    have hi2 : i + 1 ≠ x := by
      intro e
      subst e
      rw [List.getElem?_set_self (by omega)] at hz
      cases hz
      simp [j_is1] at h1
    rw [List.getElem?_set_ne (Ne.symm hi)] at hy
    rw [List.getElem?_set_ne (Ne.symm hi2)] at hz
    refine List.mem_cons_of_mem _ (List.mem_filter.mpr ⟨jpr_in.mpr (Or.inr ⟨y, z, hy, hz, rfl⟩), ?_⟩)
    simp [hi, hi2]
theorem jLr.st2 {E : jEv} {L : jL} {ls' : Array Slot} {nL x : Nat} {v : Int64} (hL : L.length = nL) (hx : x + 1 < nL) (h : lv_has ls' nL ((x, .long v) :: (jpr E L).filter (fun q => !(q.1 == x) && (!(q.1 == x + 1) && !(q.1 + 1 == x && q.2.category == 2))))) : jLr E ((L.set x (some (.long v))).set (x + 1) (some (.float 0))) ls' nL := by
  refine ⟨by simpa using hL, h.1, h.2.1, fun q hq => h.2.2 q ?_⟩
  obtain ⟨i, w⟩ := q
  have hl2 : (L.set x (some (Value.long v))).length = nL := by simpa using hL
  rcases jpr_in.mp hq with ⟨v', hv, g1, rfl⟩ | ⟨y, z, hy, hz, rfl⟩
  · simp only at hv
    have hi1 : i ≠ x + 1 := by
      intro e
      subst e
      rw [List.getElem?_set_self (by omega)] at hv
      cases hv
      simp [j_is1] at g1
    rw [List.getElem?_set_ne (Ne.symm hi1)] at hv
    have hi : i ≠ x := by
      intro e
      subst e
      rw [List.getElem?_set_self (by omega)] at hv
      cases hv
      simp [j_is1] at g1
    rw [List.getElem?_set_ne (Ne.symm hi)] at hv
    refine List.mem_cons_of_mem _ (List.mem_filter.mpr ⟨jpr_in.mpr (Or.inl ⟨v', hv, g1, rfl⟩), ?_⟩)
    simp [hi, hi1, is1_cat g1]
  · simp only at hy hz
    by_cases hi : i = x
    · subst hi
      rw [List.getElem?_set_ne (by omega), List.getElem?_set_self (by omega)] at hy
      cases hy
      exact List.mem_cons_self
    · have hi1 : i ≠ x + 1 := by
        intro e
        subst e
        rw [List.getElem?_set_self (by omega)] at hy
        cases hy
      rw [List.getElem?_set_ne (Ne.symm hi1), List.getElem?_set_ne (Ne.symm hi)] at hy
      have hi2 : i + 1 ≠ x := by
        intro e
        subst e
        rw [List.getElem?_set_ne (by omega), List.getElem?_set_self (by omega)] at hz
        cases hz
      rw [List.getElem?_set_ne (by omega), List.getElem?_set_ne (Ne.symm hi2)] at hz
      refine List.mem_cons_of_mem _ (List.mem_filter.mpr ⟨jpr_in.mpr (Or.inr ⟨y, z, hy, hz, rfl⟩), ?_⟩)
      simp [hi, hi1, hi2]
