/-! THE START: what the Statement gives is what our methods want -/
def jh0 (L : Nat) (xs : Nat → Int32) : jH := (fun a => if a = 0 then (6, 3) else if a = 1 then (6, 4) else if a = 2 then (6, L) else (99, 0), fun a j => if a = 0 then ([999, 10, 9] : List Int32).getD j 0 else if a = 1 then ([3, 4, 2, 1] : List Int32).getD j 0 else if a = 2 then xs j else 0, fun _ _ => 0, fun _ _ => none, 4, 0)
theorem js_arr {s : State} {args : Array Value} {ty : FieldType} (h : (Cond.arrayClass ty).before args s = true) : ∃ cA : ClassId, ArrOfT s cA ty ∧ s.vm.findClass ("[" ++ ty.toString) = some cA := by
  obtain ⟨c, k, comp, h1, h2, h3⟩ := Cond.arrayClass_spec h
  exact ⟨c, fun n z => ⟨fun q h => (by cases h), k, h2, comp, h3⟩, h1⟩
theorem js_arro {s : State} {args : Array Value} {C : String} (h : (Cond.arrayOver (.object C)).before args s = true) : ∃ cA : ClassId, ArrOfT s cA (.object C) ∧ va_RA s cA (.object C) := by
  obtain ⟨comp, c, k, h1, h2, h3, h4, h5⟩ := Cond.arrayOver_spec h
  exact ⟨c, fun n z => ⟨fun q h => (by cases h), k, h3, comp, h4⟩, k, comp, h3, h4, h1, h5⟩
theorem js_nwz : ∀ k, k < 9 → lw_tbl[jnwz.getD k 0]? = some (jnw.getD k (.initialized "")) := by decide +kernel
theorem js_nw {s : State} {args : Array Value} (hts : ∀ w ∈ lw_tbl, w.before args s = true) : ∀ w ∈ jnw, va_Nw w s := by
  have key : ∀ w ∈ jnw, w ∈ lw_tbl := by
    intro w hw
    obtain ⟨k, hk⟩ := List.getElem?_of_mem hw
    have hl : k < 9 := (List.getElem?_eq_some_iff.mp hk).1
    have := js_nwz k hl
    rw [show jnw.getD k (.initialized "") = w by rw [List.getD_eq_getElem?_getD, hk]; rfl] at this
    exact List.mem_of_getElem? this
  intro w hw
  have h1 := hts w (key w hw)
  unfold jnw at hw
  simp only [List.mem_cons, List.not_mem_nil, or_false] at hw
  rcases hw with rfl | rfl | rfl | rfl | rfl | rfl | rfl | rfl | rfl <;> exact va_Nw.of rfl h1
theorem js_m1 : ∀ j, j < 3 → Cond.eq (.elem (.static "FootMaps" "MOST_TERM" "[I") (.int (Int32.ofNat j))) (.int (([999, 10, 9] : List Int32).getD j 0)) ∈ flatC (Jvm.Cond.and given_1 narrow_1) := by decide +kernel
theorem js_m2 : ∀ j, j < 4 → Cond.eq (.elem (.static "FootMaps" "WAYS_LOWEST_FIRST" "[I") (.int (Int32.ofNat j))) (.int (([3, 4, 2, 1] : List Int32).getD j 0)) ∈ flatC (Jvm.Cond.and given_1 narrow_1) := by decide +kernel
theorem js_m3x : ∀ j, j < jwb.length → (flatC (Jvm.Cond.and given_1 narrow_1))[42 + j]? = some (Cond.eq (.elem (.field (.string "FootMaps$Reader" 95) "java/lang/String" "value" "[B") (.int (Int32.ofNat j))) (.int (jwb.getD j 0))) := by decide +kernel
theorem js_m3 : ∀ j, j < jwb.length → Cond.eq (.elem (.field (.string "FootMaps$Reader" 95) "java/lang/String" "value" "[B") (.int (Int32.ofNat j))) (.int (jwb.getD j 0)) ∈ flatC (Jvm.Cond.and given_1 narrow_1) := fun j hj => List.mem_of_getElem? (js_m3x j hj)
theorem js_start {s : State} {b L : Nat} {xs : Nat → Int32} (hts : ∀ w ∈ lw_tbl, w.before #[Value.ref b] s = true) (hX : va_X b L xs s s.heap) (hbl : b < s.heap.size) (hgv : (Jvm.Cond.and given_1 narrow_1).before #[Value.ref b] s = true) : ∃ E : jEv, E.2.1 = s.heap.size ∧ E.1 2 = b ∧ jKn E s ∧ jWd E (jh0 L xs) s.heap ∧ jSt E (jh0 L xs) s := by
  have hg : ∀ w ∈ jgw, w.before #[Value.ref b] s = true := fun w hw => hts w (jgw_in hw)
  have hs := flat_of_before _ hgv
  have hA : ∀ a : Nat, a < s.heap.size → ¬ (fun q => s.heap.size ≤ q) a := fun a h1 h2 => by
    have h2 : s.heap.size ≤ a := h2
    omega
  -- classes
  have hk : ∀ ci, ∃ (q : ClassId × (Nat → Nat)), ci < 8 → u_Kn s (jRf ci) (jTf ci) (jNf ci) q.1 q.2 := by
    intro ci
    by_cases hci : ci < 8
    · obtain ⟨c, iS, hK⟩ := u_known (n := jNf ci) hg (jf_inw hci) (hg _ (jw_of (jf_in ci hci).1))
      exact ⟨(c, iS), fun _ => hK⟩
    · exact ⟨(0, fun _ => 0), fun h => absurd h hci⟩
  obtain ⟨dd, hdd⟩ := Classical.axiomOfChoice hk
  -- arrays
  obtain ⟨a0, p0, q0⟩ := js_arr (ty := .int) (hg _ (jw_of (z := 217) (by decide +kernel)))
  obtain ⟨a1, p1, q1⟩ := js_arr (ty := .long) (hg _ (jw_of (z := 218) (by decide +kernel)))
  obtain ⟨a2, p2, q2⟩ := js_arr (ty := .byte) (hg _ (jw_of (z := 774) (by decide +kernel)))
  obtain ⟨a3, p3, q3⟩ := js_arr (ty := .boolean) (hg _ (jw_of (z := 1271) (by decide +kernel)))
  have ho4 : (Cond.arrayOver (.object "FootMaps$Text")).before #[Value.ref b] s = true := hts _ (List.mem_of_getElem? (i := 146) (by decide +kernel))
  have ho5 : (Cond.arrayOver (.object "FootMaps$Land")).before #[Value.ref b] s = true := hts _ (List.mem_of_getElem? (i := 219) (by decide +kernel))
  obtain ⟨a4, p4, q4⟩ := js_arro ho4
  obtain ⟨a5, p5, q5⟩ := js_arro ho5
  -- tables
  obtain ⟨t1, e1, T1⟩ := va_Tof (N := 3) (f := fun j => .int (([999, 10, 9] : List Int32).getD j 0)) (tm := .static "FootMaps" "MOST_TERM" "[I") (ty := .int) (A := fun q => s.heap.size ≤ q) (by decide) (hs _ (by decide +kernel)) (va_eqt (z := 3) (hs _ (by decide +kernel))) (fun j hj => va_eqt (hs _ (js_m1 j hj))) hA
  obtain ⟨t2, e2, T2⟩ := va_Tof (N := 4) (f := fun j => .int (([3, 4, 2, 1] : List Int32).getD j 0)) (tm := .static "FootMaps" "WAYS_LOWEST_FIRST" "[I") (ty := .int) (A := fun q => s.heap.size ≤ q) (by decide) (hs _ (by decide +kernel)) (va_eqt (z := 4) (hs _ (by decide +kernel))) (fun j hj => va_eqt (hs _ (js_m2 j hj))) hA
  have Z1 := va_Zref (A := fun q => s.heap.size ≤ q) (hts (.laysStatic "FootMaps" "MOST_TERM" "[I") (List.mem_of_getElem? (i := 581) (by decide +kernel))) (hg (.initialized "FootMaps") (jw_of (jf_in 0 (by decide)).2)) e1 hA
  have Z2 := va_Zref (A := fun q => s.heap.size ≤ q) (hts (.laysStatic "FootMaps" "WAYS_LOWEST_FIRST" "[I") (List.mem_of_getElem? (i := 928) (by decide +kernel))) (hg (.initialized "FootMaps") (jw_of (jf_in 0 (by decide)).2)) e2 hA
  have Z3 := va_Zof (v := .int 1) (A := fun q => s.heap.size ≤ q) (hts (.laysStatic "java/lang/String" "COMPACT_STRINGS" "Z") (List.mem_of_getElem? (i := 631) (by decide +kernel))) (hg (.initialized "java/lang/String") (jw_of (z := 125) (by decide +kernel))) (va_eqi (hs _ (by decide +kernel))) hA
  have Z4 := va_Zqof (A := fun q => s.heap.size ≤ q) (hts (.laysStatic "jdk/internal/util/Preconditions" "SIOOBE_FORMATTER" "Ljava/util/function/BiFunction;") (List.mem_of_getElem? (i := 647) (by decide +kernel))) (hg (.initialized "jdk/internal/util/Preconditions") (jw_of (z := 127) (by decide +kernel))) (hs _ (by decide +kernel)) hA
  -- the text
  obtain ⟨adK, adV, hV, hVe⟩ := vk_Sof (N := 1) (tm := fun _ => .string "FootMaps$Reader" 95) (len := [jwb.length]) (byt := [jwb]) (A := fun q => s.heap.size ≤ q) (args := #[Value.ref b]) (s := s)
    (fun i hi => by rcases (show i = 0 by omega) with rfl; decide +kernel) (fun i hi => hs _ (by decide +kernel)) (fun i hi => hs _ (by decide +kernel)) (fun i hi => hs _ (by decide +kernel))
    (fun i hi => by rcases (show i = 0 by omega) with rfl; exact hs _ (by decide +kernel)) (fun i hi j hj => by rcases (show i = 0 by omega) with rfl; exact hs _ (js_m3 j hj)) (fun i j hi hj hij => absurd (by omega) hij) hA
  have hR := vk_R.of (hts (.stringRef "FootMaps$Reader" 95 "costs sees bars if or and not walker kind height rise known pace minute mood step join smear pass to with of times done latest at mapped ") (List.mem_of_getElem? (i := 621) (by decide +kernel))) (hVe 0 (by omega))
  refine ⟨(fun a => if a = 0 then t1 else if a = 1 then t2 else if a = 2 then b else adK 0, s.heap.size, fun q => if q = 0 then a0 else if q = 1 then a1 else if q = 2 then a2 else if q = 3 then a3 else if q = 4 then a4 else a5, fun ci => (dd ci).1, fun ci => (dd ci).2), rfl, rfl, ?_, ?_, ?_⟩
  · refine ⟨fun ci hci => hdd ci hci, fun q hq => ?_, js_nw hts, va_AO.of ho4, va_AO.of ho5, va_Nw.of rfl (hts (.castable "[I" "java/lang/Cloneable") (List.mem_of_getElem? (i := 766) (by decide +kernel))), Z1, Z2, ⟨_, vk_R.same rfl hR⟩, ⟨adV, ?_⟩, Z3, Z4⟩
    · have hq6 : q = 0 ∨ q = 1 ∨ q = 2 ∨ q = 3 ∨ q = 4 ∨ q = 5 := by omega
      rcases hq6 with rfl | rfl | rfl | rfl | rfl | rfl
      · exact ⟨p0, q0⟩
      · exact ⟨p1, q1⟩
      · exact ⟨p2, q2⟩
      · exact ⟨p3, q3⟩
      · exact ⟨p4, q4⟩
      · exact ⟨p5, q5⟩
    · refine ⟨fun i hi => ?_, fun i j hi hj _ => by omega⟩
      rcases (show i = 0 by omega) with rfl
      exact hV.1 0 (by omega)
  · refine ⟨Nat.le_refl 4, rfl, fun a h1 h2 => absurd h2 (Nat.not_lt.mpr h1), fun a _ => ?_⟩
    show (if a = 0 then ((6 : Nat), 3) else if a = 1 then (6, 4) else if a = 2 then (6, L) else (99, 0)).1 = 6 ∨ _ = 99
    unfold j_k jh0
    dsimp only
    split
    · exact Or.inl rfl
    · split
      · exact Or.inl rfl
      · split
        · exact Or.inl rfl
        · exact Or.inr rfl
  · intro a ha
    have h3 : a = 0 ∨ a = 1 ∨ a = 2 := by
      unfold j_k jh0 at ha
      dsimp only at ha
      by_cases h0 : a = 0
      · exact Or.inl h0
      · by_cases h1 : a = 1
        · exact Or.inr (Or.inl h1)
        · by_cases h2 : a = 2
          · exact Or.inr (Or.inr h2)
          · rw [if_neg h0, if_neg h1, if_neg h2] at ha
            cases ha
    rcases h3 with rfl | rfl | rfl
    · exact ⟨by decide, T1⟩
    · exact ⟨by decide, T2⟩
    · refine ⟨by decide, ?_⟩
      obtain ⟨scr, x1, x2, x3, x4, x5⟩ := hX
      exact ⟨scr, x1, x2, x3, by rw [x4]; exact Nat.le_refl _, by rw [x4]; rfl, x5, hA b hbl⟩
