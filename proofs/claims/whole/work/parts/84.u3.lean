/-! THE START: ONE STATE IN ONE HEAP -/
theorem HI0 {h0 : jH} (hc : j_c h0 = 4) {n a i : Nat} (idx : List Nat) (hw : wOnly a idx (iOps.take n).reverse = true) (hi : idx.contains i = false) : j_I (HN n h0) a i = nI 0 := HIn hc (q := (2, 0)) (iR_0 hi _ hw)
theorem HR0 {h0 : jH} (hc : j_c h0 = 4) {n a i : Nat} (hw : rOnly a (iOps.take n).reverse = true) : j_R (HN n h0) a i = none := HRn hc (rR_0 _ hw)
/-- rows below are left -/
def lowW (a : Nat) (l : List Op) : Bool := l.all (fun p => !(decide (2 ≤ p.1) && decide (p.2.1 = a)))
theorem iR_l {a i : Nat} (ha : a < 4) : ∀ l, lowW a l = true → iR l a i = none
  | [], _ => rfl
  | p :: l, h => by
    have h' : ((!(decide (2 ≤ p.1) && decide (p.2.1 = a))) && lowW a l) = true := h
    obtain ⟨h1, h2⟩ := (Bool.and_eq_true _ _).mp h'
    unfold iR
    rw [if_neg (fun z => by omega), if_neg (fun z => by rw [decide_eq_true z.1, decide_eq_true z.2.1] at h1; cases h1)]
    exact iR_l ha l h2
theorem kR_l {a : Nat} (ha : a < 4) : ∀ l, kR l a = none
  | [] => rfl
  | p :: l => by
    unfold kR
    rw [if_neg (fun z => by omega)]
    exact kR_l ha l
theorem HLo {h0 : jH} (hc : j_c h0 = 4) {n a : Nat} (ha : a < 4) (hw : lowW a (iOps.take n).reverse = true) : j_k (HN n h0) a = j_k h0 a ∧ j_n (HN n h0) a = j_n h0 a ∧ ∀ i, j_I (HN n h0) a i = j_I h0 a i := by
  have e := runR_k hc a (iOps.take n).reverse
  rw [kR_l ha] at e
  refine ⟨congrArg Prod.fst e, congrArg Prod.snd e, fun i => ?_⟩
  unfold HN
  rw [runR_I hc a i _ (fun p hp => iOps_3 p (List.mem_of_mem_take (List.mem_reverse.mp hp))), iR_l ha _ hw]
  rfl
set_option maxRecDepth 10000 in
theorem HS_F {h0 : jH} (hc : j_c h0 = 4) : ShF (HN 385 h0) := by
  unfold ShF
  repeat' apply And.intro
  all_goals first | with_reducible refine HKn hc ?_ | with_reducible refine HLn hc ?_ | with_reducible refine HRn hc ?_
  all_goals decide +kernel
set_option maxRecDepth 10000 in
theorem HS_M {h0 : jH} (hc : j_c h0 = 4) : ShM (HN 385 h0) := by
  unfold ShM
  repeat' apply And.intro
  all_goals first | with_reducible refine HKn hc ?_ | with_reducible refine HLn hc ?_ | with_reducible refine HRn hc ?_
  all_goals decide +kernel
def k00 : Nat → Nat := fun i => if i = 175 then 1 else 0
def sc00 : Sc := (nI 0, fun _ => nI 0, nI 0, mI 0, mI 0)
def s00 : St := (k00, fun _ => none, [], fun _ => 0, 0, sc00, fun _ => 0)
theorem k00_0 {i : Nat} (h : i ≠ 175) : k00 i = 0 := if_neg h
theorem k00_1 (i : Nat) : k00 i ≤ 1 := by unfold k00; split <;> omega
theorem pc_0 : ft_pc 0 25 = 0 := by decide
theorem WK00 : WK k00 := by
  refine ⟨fun i => by have := k00_1 i; omega, fun w hw => by have := k00_1 w; omega, fun i _ => by have := k00_1 (4 + i); omega, by decide, fun c _ => by have := k00_1 (105 + c); omega, fun c _ => by have := k00_1 (130 + c); omega, fun w _ => by have := k00_1 (155 + w); omega, fun w hw => by rw [k00_0 (by omega), pc_0]; omega, fun g _ => by have := k00_1 (163 + g); omega, by decide, by decide, by decide, by decide, by decide, by decide, fun j _ => by have := k00_1 (181 + j); omega, fun j hj => absurd hj (by rw [k00_0 (by omega)]; omega)⟩
theorem WJ00 : WJ s00 := ⟨WK00, fun x kk z => (nomatch z), True.intro⟩
theorem WM00 {h0 : jH} (hc : j_c h0 = 4) : WM (HN 385 h0) := fun i hi => by
  have : ∀ i, i < 137 → iR (iOps.take 385).reverse 91 i = some (2, mBy.getD i 0) := by decide +kernel
  exact HIn hc (this i hi)
theorem MJ00 {h0 : jH} (hc : j_c h0 = 4) : MJ (HN 385 h0) s00 := by
  refine ⟨HS_M hc, WM00 hc, ⟨false, HI0 hc [14, 42, 50] (by decide +kernel) (by decide)⟩, ⟨fun i h1 h2 => ?_, ?_⟩, fun x hx => ⟨?_, fun kk z => (nomatch z)⟩, ⟨HI0 hc [14, 42, 50] (by decide +kernel) (by decide), by decide, fun j e z => by have z' : ([] : List Ue)[j]? = some e := z; simp at z'⟩, ⟨⟨Nat.zero_le _, fun i hi => absurd hi (Nat.not_lt_zero _)⟩, HI0 hc [14, 42, 50] (by decide +kernel) (by decide)⟩, ⟨HI0 hc [14, 42, 50] (by decide +kernel) (by decide), fun q hq => HI0 hc [] (by decide +kernel) rfl, HI0 hc [14, 42, 50] (by decide +kernel) (by decide), HIn hc (q := (3, 0)) (by decide +kernel), HIn hc (q := (3, 0)) (by decide +kernel)⟩, ⟨Or.inr ⟨rfl, HIn hc (q := (3, 0)) (by decide +kernel)⟩, fun i hi => HI0 hc [] (by decide +kernel) rfl, by decide, fun i hi => by show 0 < 33554432; omega⟩⟩
  · by_cases e : i = 175
    · rw [e]; exact HIn hc (q := (2, 1)) (by decide +kernel)
    · rw [show s00.1 i = 0 from k00_0 e]
      exact HI0 hc [175, 180] (by decide +kernel) (by simp [e, h2])
  · show _ = nI 0 - nI 1
    rw [show nI 0 - nI 1 = mI 0 from by decide]
    exact HIn hc (q := (3, 0)) (by decide +kernel)
  · exact HI0 hc [] (by decide +kernel) rfl
theorem CJ00 {h0 : jH} (hc : j_c h0 = 4) (T0 : CT0 h0) : CJ (HN 385 h0) s00 := by
  have S := HS_F hc
  have l0 := HLo (n := 385) hc (a := 0) (by omega) (by decide +kernel)
  have l1 := HLo (n := 385) hc (a := 1) (by omega) (by decide +kernel)
  have k0 : ∀ i, i ≠ 175 → s00.1 i = 0 := fun i h => k00_0 h
  refine ⟨S, by rw [HCn hc (m := 111) (by decide +kernel)]; omega, ⟨LA_now S, ?_, fun j hj => absurd hj (by rw [k0 179 (by omega)]; omega), fun j t z => ?_⟩, ⟨fun x => ⟨fun _ => rfl, fun _ => HR0 hc (by decide +kernel)⟩, fun x g kk z1 z2 => (nomatch z2), fun x y g g' _ z _ => by rw [HR0 hc (by decide +kernel)] at z; cases z⟩, ⟨HIn hc (q := (2, 0)) (by decide +kernel), by decide, 0, by omega, HIn hc (q := (2, 0)) (by decide +kernel), fun j e z => by have z' : ([] : List Ue)[j]? = some e := z; simp at z'⟩, ⟨HIn hc (q := (2, 0)) (by decide +kernel), Nat.zero_le _, fun i hi => absurd hi (Nat.not_lt_zero _)⟩, ⟨HIn hc (q := (2, 0)) (by decide +kernel), fun q hq => HI0 hc [] (by decide +kernel) rfl, HIn hc (q := (2, 0)) (by decide +kernel), HIn hc (q := (3, 0)) (by decide +kernel), HIn hc (q := (3, 0)) (by decide +kernel)⟩, ⟨HIn hc (q := (2, 0)) (by decide +kernel), by decide, fun w hw => absurd hw (by show ¬ w < 0; omega)⟩, ?_⟩
  · refine ⟨fun c hc' => ?_, fun c hc' => ?_, ?_, fun w hw => absurd hw (by rw [k0 177 (by omega)]; omega), ?_, fun g hg => absurd hg (by rw [k0 178 (by omega)]; omega), ?_, ?_, ?_, ?_, ?_⟩
    · rw [k0 _ (by omega)]; exact HI0 hc [] (by decide +kernel) rfl
    · rw [k0 _ (by omega)]; exact HI0 hc [] (by decide +kernel) rfl
    · rw [k0 _ (by omega)]; exact HIn hc (q := (2, 0)) (by decide +kernel)
    · rw [k0 _ (by omega)]; exact HIn hc (q := (2, 0)) (by decide +kernel)
    · rw [k0 _ (by omega)]; exact HI0 hc [1] (by decide +kernel) (by decide)
    · exact HIn hc (q := (2, 1)) (by decide +kernel)
    · rw [k0 _ (by omega)]; exact HI0 hc [1] (by decide +kernel) (by decide)
    · rw [k0 _ (by omega)]; exact HIn hc (q := (2, 0)) (by decide +kernel)
    · rw [k0 _ (by omega)]; exact HIn hc (q := (3, 0)) (by decide +kernel)
  · have z' : j_R (HN 385 h0) 16 j = some t := z
    rw [HR0 hc (by decide +kernel)] at z'
    cases z'
  · obtain ⟨⟨t1, t2, t3, t4⟩, ⟨t5, t6, t7⟩, t8, t9, t10, t11⟩ := T0
    exact ⟨⟨l0.1.trans t1, l0.2.1.trans t2, l1.1.trans t3, l1.2.1.trans t4⟩, ⟨(l0.2.2 _).trans t5, (l0.2.2 _).trans t6, (l0.2.2 _).trans t7⟩, (l1.2.2 _).trans t8, (l1.2.2 _).trans t9, (l1.2.2 _).trans t10, (l1.2.2 _).trans t11⟩
theorem CT0_0 (L : Nat) (xs : Nat → Int32) : CT0 (jh0 L xs) := ⟨⟨rfl, rfl, rfl, rfl⟩, ⟨rfl, rfl, rfl⟩, rfl, rfl, rfl, rfl⟩
theorem HZ {h0 : jH} : ∀ l, j_z (runR l h0) ≤ j_z h0 + (l.map (fun p => if p.1 = 0 then p.2.2.1 else 0)).sum
  | [] => Nat.le_refl _
  | p :: l => by
    have ih := HZ (h0 := h0) l
    rw [List.map_cons, List.sum_cons]
    unfold runR stp
    by_cases q : p.1 = 0
    · rw [if_pos q, if_pos q, new_z]; omega
    · rw [if_neg q, if_neg q]
      by_cases q1 : p.1 = 1
      · rw [if_pos q1]; show j_z (runR l h0) ≤ _; omega
      · rw [if_neg q1]
        by_cases q2 : p.1 = 2
        · rw [if_pos q2]; show j_z (runR l h0) ≤ _; omega
        · rw [if_neg q2]; show j_z (runR l h0) ≤ _; omega
/-- both made -/
theorem start_all {F : Nat × Nat} (L : Nat) (xs : Nat → Int32) : ∃ h2 h, m_F_new F 4 (j_new (jh0 L xs) 10 16) = some (none, h2) ∧ j_c h2 = 85 ∧ m_M_new F 85 (j_new h2 17 52) = some (none, h) ∧ MJ h s00 ∧ CJ h s00 ∧ j_c h = 111 ∧ j_z h ≤ 50000 ∧ j_k h 2 = 6 ∧ j_n h 2 = L ∧ ∀ i, j_I h 2 i = xs i := by
  have hc : j_c (jh0 L xs) = 4 := rfl
  have l2 := HLo (n := 385) hc (a := 2) (by omega) (by decide +kernel)
  have e0 : j_new (jh0 L xs) 10 16 = HN 1 (jh0 L xs) := uE_new (h0 := jh0 L xs) 0 (by decide +kernel)
  refine ⟨HN 192 (jh0 L xs), HN 385 (jh0 L xs), by rw [e0]; exact i_F hc, HCn hc (by decide +kernel), by rw [uE_new (h0 := jh0 L xs) 192 (by decide +kernel)]; exact i_M hc, MJ00 hc, CJ00 hc (CT0_0 L xs), HCn hc (by decide +kernel), ?_, l2.1, l2.2.1, l2.2.2⟩
  have := HZ (h0 := jh0 L xs) (iOps.take 385).reverse
  have z0 : j_z (jh0 L xs) = 0 := rfl
  have s : ((iOps.take 385).reverse.map (fun p => if p.1 = 0 then p.2.2.1 else 0)).sum ≤ 50000 := by decide +kernel
  unfold HN
  omega
